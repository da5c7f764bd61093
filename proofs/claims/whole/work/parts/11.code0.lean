/-! CODE: printed by wip/whole/gen.py -/
theorem dX0_takeWay_0 : decode cX0_takeWay 0 = .ok (.aload_n 0, 1) := by decide +kernel
theorem dX0_takeWay_1 : decode cX0_takeWay 1 = .ok (.iload_n 1, 1) := by decide +kernel
theorem dX0_takeWay_2 : decode cX0_takeWay 2 = .ok (.putfield 31, 3) := by decide +kernel
theorem dX0_takeWay_5 : decode cX0_takeWay 5 = .ok (.iconst 0, 1) := by decide +kernel
theorem dX0_takeWay_6 : decode cX0_takeWay 6 = .ok (.istore_n 2, 1) := by decide +kernel
theorem dX0_takeWay_7 : decode cX0_takeWay 7 = .ok (.iload_n 2, 1) := by decide +kernel
theorem dX0_takeWay_8 : decode cX0_takeWay 8 = .ok (.aload_n 0, 1) := by decide +kernel
theorem dX0_takeWay_9 : decode cX0_takeWay 9 = .ok (.getfield 27, 3) := by decide +kernel
theorem dX0_takeWay_12 : decode cX0_takeWay 12 = .ok (.getfield 69, 3) := by decide +kernel
theorem dX0_takeWay_15 : decode cX0_takeWay 15 = .ok (.if_icmp .ge 21, 3) := by decide +kernel
theorem dX0_takeWay_18 : decode cX0_takeWay 18 = .ok (.aload_n 0, 1) := by decide +kernel
theorem dX0_takeWay_19 : decode cX0_takeWay 19 = .ok (.getfield 20, 3) := by decide +kernel
theorem dX0_takeWay_22 : decode cX0_takeWay 22 = .ok (.iload_n 2, 1) := by decide +kernel
theorem dX0_takeWay_23 : decode cX0_takeWay 23 = .ok (.aload_n 0, 1) := by decide +kernel
theorem dX0_takeWay_24 : decode cX0_takeWay 24 = .ok (.getfield 17, 3) := by decide +kernel
theorem dX0_takeWay_27 : decode cX0_takeWay 27 = .ok (.iload_n 2, 1) := by decide +kernel
theorem dX0_takeWay_28 : decode cX0_takeWay 28 = .ok (.iaload, 1) := by decide +kernel
theorem dX0_takeWay_29 : decode cX0_takeWay 29 = .ok (.iastore, 1) := by decide +kernel
theorem dX0_takeWay_30 : decode cX0_takeWay 30 = .ok (.iinc 2 1, 3) := by decide +kernel
theorem dX0_takeWay_33 : decode cX0_takeWay 33 = .ok (.goto (-26), 3) := by decide +kernel
theorem dX0_takeWay_36 : decode cX0_takeWay 36 = .ok (.return_, 1) := by decide +kernel
theorem v_X0_takeWay : yX0_takeWay.cls = RX0 ∧ yX0_takeWay.cls ≠ "java/lang/invoke/MethodHandle" ∧ yX0_takeWay.cls ≠ "java/lang/invoke/VarHandle" ∧ (parseMethodDescriptor yX0_takeWay.desc).map (fun d => d.parameters.length) = some 1 := ⟨rfl, by decide +kernel, by decide +kernel, by decide +kernel⟩
noncomputable def k_X0_takeWay_0 (κ : gb_K) : gb_C := (o_al 0 (o_il 1 (o_pf 0 5 (o_ci 0 (o_is 2 (o_j [0, 2] (κ 7)))))))
theorem l_X0_takeWay_0 : gb_Li (fun κ => k_X0_takeWay_0 κ) := (gb_li (q_al 0) (gb_li (q_il 1) (gb_li (q_pf 0 5) (gb_li (q_ci 0) (gb_li (q_is 2) (q_j [0, 2] 7))))))
theorem s_X0_takeWay_0   {κ : gb_K} (hκ : ∀ q, gb_S RX0 cX0_takeWay 3 (gb_rm 0 0) 0 q (κ q)) : gb_S RX0 cX0_takeWay 3 (gb_rm 0 0) 0 0 (k_X0_takeWay_0 κ) := (s_aln 0 rfl dX0_takeWay_0 (s_iln 1 rfl dX0_takeWay_1 (s_pf (T := TX0) winX0 rfl (Nat.le_of_ble_eq_true rfl) tyX0_ok nmX0 rfl (by decide +kernel) gw_0 rfl dX0_takeWay_2 (s_iconst (by decide +kernel) dX0_takeWay_5 (s_isn 2 rfl (Nat.le_of_ble_eq_true rfl) dX0_takeWay_6 (s_j (hκ 7)))))))
noncomputable def k_X0_takeWay_7 (κ : gb_K) : gb_C := (o_il 2 (o_al 0 (o_gf 0 1 (o_gf 2 3 (o_cge o_rv (o_al 0 (o_gf 0 4 (o_il 2 (o_al 0 (o_gf 0 3 (o_il 2 (o_iald (o_iast (o_inc 2 1 (o_j [0, 2] (κ 7))))))))))))))))
theorem l_X0_takeWay_7 : gb_Li (fun κ => k_X0_takeWay_7 κ) := (gb_li (q_il 2) (gb_li (q_al 0) (gb_li (q_gf 0 1) (gb_li (q_gf 2 3) (q_cge (gb_li0 _) (gb_li (q_al 0) (gb_li (q_gf 0 4) (gb_li (q_il 2) (gb_li (q_al 0) (gb_li (q_gf 0 3) (gb_li (q_il 2) (gb_li q_iald (gb_li q_iast (gb_li (q_inc 2 1) (q_j [0, 2] 7)))))))))))))))
theorem s_X0_takeWay_7   {κ : gb_K} (hκ : ∀ q, gb_S RX0 cX0_takeWay 3 (gb_rm 0 0) 0 q (κ q)) : gb_S RX0 cX0_takeWay 3 (gb_rm 0 0) 0 7 (k_X0_takeWay_7 κ) := (s_iln 2 rfl dX0_takeWay_7 (s_aln 0 rfl dX0_takeWay_8 (s_gf (T := TX0) winX0 rfl (Nat.le_of_ble_eq_true rfl) gw_1 rfl dX0_takeWay_9 (s_gf (T := TX2) winX2 rfl (Nat.le_of_ble_eq_true rfl) gw_2 rfl dX0_takeWay_12 (s_cge (tgt := 36) (by decide +kernel) dX0_takeWay_15 (s_rv rfl dX0_takeWay_36) (s_aln 0 rfl dX0_takeWay_18 (s_gf (T := TX0) winX0 rfl (Nat.le_of_ble_eq_true rfl) gw_3 rfl dX0_takeWay_19 (s_iln 2 rfl dX0_takeWay_22 (s_aln 0 rfl dX0_takeWay_23 (s_gf (T := TX0) winX0 rfl (Nat.le_of_ble_eq_true rfl) gw_4 rfl dX0_takeWay_24 (s_iln 2 rfl dX0_takeWay_27 (s_iald dX0_takeWay_28 (s_iast dX0_takeWay_29 (s_inc (by decide +kernel) (Nat.le_of_ble_eq_true rfl) dX0_takeWay_30 (s_goto (tgt := 7) (by decide +kernel) dX0_takeWay_33 (s_j (hκ 7)))))))))))))))))
noncomputable def B_X0_takeWay : List (Nat × (gb_K → gb_C)) := [(7, fun κ => k_X0_takeWay_7 κ)]
noncomputable def K_X0_takeWay : gb_K := gb_fx (gb_tb (B_X0_takeWay))
theorem L_X0_takeWay : ∀ q, gb_Li (fun κ => gb_tb (B_X0_takeWay) κ q) := gb_tb_li (List.forall_mem_cons.mpr ⟨l_X0_takeWay_7, (fun _ h => absurd h List.not_mem_nil)⟩)
theorem S_X0_takeWay   : ∀ q, gb_S RX0 cX0_takeWay 3 (gb_rm 0 0) 0 q (K_X0_takeWay q) := fun q => gb_fx_S (L_X0_takeWay) (gb_tb_S (List.forall_mem_cons.mpr ⟨fun κ hκ => s_X0_takeWay_7 hκ, (fun _ h => absurd h List.not_mem_nil)⟩)) q
noncomputable def f_X0_takeWay : gb_F := gb_hide (gb_mf 3 (k_X0_takeWay_0 (K_X0_takeWay)))
theorem c_X0_takeWay : ∀ l, gb_Met l yX0_takeWay cX0_takeWay 3 none 0 (gb_rm 0 0) f_X0_takeWay := gb_hide_c (gb_met (own := RX0) (rk := 0) rfl (by decide +kernel) ⟨rfl, rfl⟩ (s_X0_takeWay_0 (S_X0_takeWay)))
theorem dX7_closed_0 : decode cX7_closed 0 = .ok (.aload_n 0, 1) := by decide +kernel
theorem dX7_closed_1 : decode cX7_closed 1 = .ok (.getfield 44, 3) := by decide +kernel
theorem dX7_closed_4 : decode cX7_closed 4 = .ok (.aload_n 0, 1) := by decide +kernel
theorem dX7_closed_5 : decode cX7_closed 5 = .ok (.getfield 15, 3) := by decide +kernel
theorem dX7_closed_8 : decode cX7_closed 8 = .ok (.iload_n 1, 1) := by decide +kernel
theorem dX7_closed_9 : decode cX7_closed 9 = .ok (.iaload, 1) := by decide +kernel
theorem dX7_closed_10 : decode cX7_closed 10 = .ok (.if_icmp .ge 7, 3) := by decide +kernel
theorem dX7_closed_13 : decode cX7_closed 13 = .ok (.iconst 1, 1) := by decide +kernel
theorem dX7_closed_14 : decode cX7_closed 14 = .ok (.goto 4, 3) := by decide +kernel
theorem dX7_closed_17 : decode cX7_closed 17 = .ok (.iconst 0, 1) := by decide +kernel
theorem dX7_closed_18 : decode cX7_closed 18 = .ok (.ireturn, 1) := by decide +kernel
theorem v_X7_closed : yX7_closed.cls = RX7 ∧ yX7_closed.cls ≠ "java/lang/invoke/MethodHandle" ∧ yX7_closed.cls ≠ "java/lang/invoke/VarHandle" ∧ (parseMethodDescriptor yX7_closed.desc).map (fun d => d.parameters.length) = some 1 := ⟨rfl, by decide +kernel, by decide +kernel, by decide +kernel⟩
noncomputable def k_X7_closed_18 (κ : gb_K) : gb_C := o_rz
theorem l_X7_closed_18 : gb_Li (fun κ => k_X7_closed_18 κ) := (gb_li0 _)
theorem s_X7_closed_18   {κ : gb_K} (hκ : ∀ q, gb_S RX7 cX7_closed 2 (gb_rm 0 0) 2 q (κ q)) : gb_S RX7 cX7_closed 2 (gb_rm 0 0) 2 18 (k_X7_closed_18 κ) := (s_rz rfl dX7_closed_18)
noncomputable def k_X7_closed_0 (κ : gb_K) : gb_C := (o_al 0 (o_gf 7 9 (o_al 0 (o_gf 7 2 (o_il 1 (o_iald (o_cge (o_ci 0 (k_X7_closed_18 κ)) (o_ci 1 (k_X7_closed_18 κ)))))))))
theorem l_X7_closed_0 : gb_Li (fun κ => k_X7_closed_0 κ) := (gb_li (q_al 0) (gb_li (q_gf 7 9) (gb_li (q_al 0) (gb_li (q_gf 7 2) (gb_li (q_il 1) (gb_li q_iald (q_cge (gb_li (q_ci 0) (l_X7_closed_18)) (gb_li (q_ci 1) (l_X7_closed_18)))))))))
theorem s_X7_closed_0   {κ : gb_K} (hκ : ∀ q, gb_S RX7 cX7_closed 2 (gb_rm 0 0) 2 q (κ q)) : gb_S RX7 cX7_closed 2 (gb_rm 0 0) 2 0 (k_X7_closed_0 κ) := (s_aln 0 rfl dX7_closed_0 (s_gf (T := TX7) winX7 rfl (Nat.le_of_ble_eq_true rfl) gw_5 rfl dX7_closed_1 (s_aln 0 rfl dX7_closed_4 (s_gf (T := TX7) winX7 rfl (Nat.le_of_ble_eq_true rfl) gw_6 rfl dX7_closed_5 (s_iln 1 rfl dX7_closed_8 (s_iald dX7_closed_9 (s_cge (tgt := 17) (by decide +kernel) dX7_closed_10 (s_iconst (by decide +kernel) dX7_closed_17 (s_X7_closed_18 hκ)) (s_iconst (by decide +kernel) dX7_closed_13 (s_goto (tgt := 18) (by decide +kernel) dX7_closed_14 (s_X7_closed_18 hκ))))))))))
noncomputable def f_X7_closed : gb_F := gb_hide (gb_mf 2 (k_X7_closed_0 gb_n))
theorem c_X7_closed : ∀ l, gb_Met l yX7_closed cX7_closed 2 (some .boolean) 2 (gb_rm 0 0) f_X7_closed := gb_hide_c (gb_met (own := RX7) (rk := 2) rfl (by decide +kernel) ⟨rfl, rfl⟩ (s_X7_closed_0 gb_S_n))
theorem dX7_place_0 : decode cX7_place 0 = .ok (.iload_n 0, 1) := by decide +kernel
theorem dX7_place_1 : decode cX7_place 1 = .ok (.bipush 6, 2) := by decide +kernel
theorem dX7_place_3 : decode cX7_place 3 = .ok (.imul, 1) := by decide +kernel
theorem dX7_place_4 : decode cX7_place 4 = .ok (.iload_n 1, 1) := by decide +kernel
theorem dX7_place_5 : decode cX7_place 5 = .ok (.iadd, 1) := by decide +kernel
theorem dX7_place_6 : decode cX7_place 6 = .ok (.ireturn, 1) := by decide +kernel
theorem v_X7_place : yX7_place.cls = RX7 ∧ yX7_place.cls ≠ "java/lang/invoke/MethodHandle" ∧ yX7_place.cls ≠ "java/lang/invoke/VarHandle" ∧ (parseMethodDescriptor yX7_place.desc).map (fun d => d.parameters.length) = some 2 := ⟨rfl, by decide +kernel, by decide +kernel, by decide +kernel⟩
noncomputable def k_X7_place_0 (κ : gb_K) : gb_C := (o_il 0 (o_ci 6 (o_ib (fun x y => x * y) (o_il 1 (o_ib (fun x y => x + y) o_ri)))))
theorem l_X7_place_0 : gb_Li (fun κ => k_X7_place_0 κ) := (gb_li (q_il 0) (gb_li (q_ci 6) (gb_li (q_ib _) (gb_li (q_il 1) (gb_li (q_ib _) (gb_li0 _))))))
theorem s_X7_place_0   {κ : gb_K} (hκ : ∀ q, gb_S RX7 cX7_place 2 (gb_rm 0 0) 1 q (κ q)) : gb_S RX7 cX7_place 2 (gb_rm 0 0) 1 0 (k_X7_place_0 κ) := (s_iln 0 rfl dX7_place_0 (s_bipush (by decide +kernel) dX7_place_1 (s_imul dX7_place_3 (s_iln 1 rfl dX7_place_4 (s_iadd dX7_place_5 (s_ri rfl dX7_place_6))))))
noncomputable def f_X7_place : gb_F := gb_hide (gb_mf 2 (k_X7_place_0 gb_n))
theorem c_X7_place : ∀ l, gb_Met l yX7_place cX7_place 2 (some .int) 1 (gb_rm 0 0) f_X7_place := gb_hide_c (gb_met (own := RX7) (rk := 1) rfl (by decide +kernel) ⟨rfl, rfl⟩ (s_X7_place_0 gb_S_n))
theorem dX0_canDraw_0 : decode cX0_canDraw 0 = .ok (.aload_n 0, 1) := by decide +kernel
theorem dX0_canDraw_1 : decode cX0_canDraw 1 = .ok (.getfield 23, 3) := by decide +kernel
theorem dX0_canDraw_4 : decode cX0_canDraw 4 = .ok (.iload_n 1, 1) := by decide +kernel
theorem dX0_canDraw_5 : decode cX0_canDraw 5 = .ok (.invokevirtual 43, 3) := by decide +kernel
theorem dX0_canDraw_8 : decode cX0_canDraw 8 = .ok (.ifCond .eq 5, 3) := by decide +kernel
theorem dX0_canDraw_11 : decode cX0_canDraw 11 = .ok (.iconst 0, 1) := by decide +kernel
theorem dX0_canDraw_12 : decode cX0_canDraw 12 = .ok (.ireturn, 1) := by decide +kernel
theorem dX0_canDraw_13 : decode cX0_canDraw 13 = .ok (.aload_n 0, 1) := by decide +kernel
theorem dX0_canDraw_14 : decode cX0_canDraw 14 = .ok (.getfield 27, 3) := by decide +kernel
theorem dX0_canDraw_17 : decode cX0_canDraw 17 = .ok (.getfield 49, 3) := by decide +kernel
theorem dX0_canDraw_20 : decode cX0_canDraw 20 = .ok (.iload_n 2, 1) := by decide +kernel
theorem dX0_canDraw_21 : decode cX0_canDraw 21 = .ok (.iaload, 1) := by decide +kernel
theorem dX0_canDraw_22 : decode cX0_canDraw 22 = .ok (.istore_n 3, 1) := by decide +kernel
theorem dX0_canDraw_23 : decode cX0_canDraw 23 = .ok (.aload_n 0, 1) := by decide +kernel
theorem dX0_canDraw_24 : decode cX0_canDraw 24 = .ok (.getfield 9, 3) := by decide +kernel
theorem dX0_canDraw_27 : decode cX0_canDraw 27 = .ok (.iload_n 1, 1) := by decide +kernel
theorem dX0_canDraw_28 : decode cX0_canDraw 28 = .ok (.iaload, 1) := by decide +kernel
theorem dX0_canDraw_29 : decode cX0_canDraw 29 = .ok (.istore 4, 2) := by decide +kernel
theorem dX0_canDraw_31 : decode cX0_canDraw 31 = .ok (.iconst 0, 1) := by decide +kernel
theorem dX0_canDraw_32 : decode cX0_canDraw 32 = .ok (.istore 5, 2) := by decide +kernel
theorem dX0_canDraw_34 : decode cX0_canDraw 34 = .ok (.iload 5, 2) := by decide +kernel
theorem dX0_canDraw_36 : decode cX0_canDraw 36 = .ok (.aload_n 0, 1) := by decide +kernel
theorem dX0_canDraw_37 : decode cX0_canDraw 37 = .ok (.getfield 23, 3) := by decide +kernel
theorem dX0_canDraw_40 : decode cX0_canDraw 40 = .ok (.getfield 52, 3) := by decide +kernel
theorem dX0_canDraw_43 : decode cX0_canDraw 43 = .ok (.iload_n 1, 1) := by decide +kernel
theorem dX0_canDraw_44 : decode cX0_canDraw 44 = .ok (.iaload, 1) := by decide +kernel
theorem dX0_canDraw_45 : decode cX0_canDraw 45 = .ok (.if_icmp .ge 93, 3) := by decide +kernel
theorem dX0_canDraw_48 : decode cX0_canDraw 48 = .ok (.iload_n 3, 1) := by decide +kernel
theorem dX0_canDraw_49 : decode cX0_canDraw 49 = .ok (.ifCond .le 89, 3) := by decide +kernel
theorem dX0_canDraw_52 : decode cX0_canDraw 52 = .ok (.iload_n 1, 1) := by decide +kernel
theorem dX0_canDraw_53 : decode cX0_canDraw 53 = .ok (.iload 5, 2) := by decide +kernel
theorem dX0_canDraw_55 : decode cX0_canDraw 55 = .ok (.invokestatic 55, 3) := by decide +kernel
theorem dX0_canDraw_58 : decode cX0_canDraw 58 = .ok (.istore 6, 2) := by decide +kernel
theorem dX0_canDraw_60 : decode cX0_canDraw 60 = .ok (.iconst 0, 1) := by decide +kernel
theorem dX0_canDraw_61 : decode cX0_canDraw 61 = .ok (.aload_n 0, 1) := by decide +kernel
theorem dX0_canDraw_62 : decode cX0_canDraw 62 = .ok (.getfield 23, 3) := by decide +kernel
theorem dX0_canDraw_65 : decode cX0_canDraw 65 = .ok (.getfield 59, 3) := by decide +kernel
theorem dX0_canDraw_68 : decode cX0_canDraw 68 = .ok (.iload 6, 2) := by decide +kernel
theorem dX0_canDraw_70 : decode cX0_canDraw 70 = .ok (.iaload, 1) := by decide +kernel
theorem dX0_canDraw_71 : decode cX0_canDraw 71 = .ok (.iload 4, 2) := by decide +kernel
theorem dX0_canDraw_73 : decode cX0_canDraw 73 = .ok (.isub, 1) := by decide +kernel
theorem dX0_canDraw_74 : decode cX0_canDraw 74 = .ok (.invokestatic 60, 3) := by decide +kernel
theorem dX0_canDraw_77 : decode cX0_canDraw 77 = .ok (.istore 7, 2) := by decide +kernel
theorem dX0_canDraw_79 : decode cX0_canDraw 79 = .ok (.iconst 0, 1) := by decide +kernel
theorem dX0_canDraw_80 : decode cX0_canDraw 80 = .ok (.iload 4, 2) := by decide +kernel
theorem dX0_canDraw_82 : decode cX0_canDraw 82 = .ok (.aload_n 0, 1) := by decide +kernel
theorem dX0_canDraw_83 : decode cX0_canDraw 83 = .ok (.getfield 23, 3) := by decide +kernel
theorem dX0_canDraw_86 : decode cX0_canDraw 86 = .ok (.getfield 59, 3) := by decide +kernel
theorem dX0_canDraw_89 : decode cX0_canDraw 89 = .ok (.iload 6, 2) := by decide +kernel
theorem dX0_canDraw_91 : decode cX0_canDraw 91 = .ok (.iaload, 1) := by decide +kernel
theorem dX0_canDraw_92 : decode cX0_canDraw 92 = .ok (.isub, 1) := by decide +kernel
theorem dX0_canDraw_93 : decode cX0_canDraw 93 = .ok (.invokestatic 60, 3) := by decide +kernel
theorem dX0_canDraw_96 : decode cX0_canDraw 96 = .ok (.istore 4, 2) := by decide +kernel
theorem dX0_canDraw_98 : decode cX0_canDraw 98 = .ok (.iload 7, 2) := by decide +kernel
theorem dX0_canDraw_100 : decode cX0_canDraw 100 = .ok (.ifCond .le 27, 3) := by decide +kernel
theorem dX0_canDraw_103 : decode cX0_canDraw 103 = .ok (.aload_n 0, 1) := by decide +kernel
theorem dX0_canDraw_104 : decode cX0_canDraw 104 = .ok (.getfield 23, 3) := by decide +kernel
theorem dX0_canDraw_107 : decode cX0_canDraw 107 = .ok (.getfield 65, 3) := by decide +kernel
theorem dX0_canDraw_110 : decode cX0_canDraw 110 = .ok (.iload 6, 2) := by decide +kernel
theorem dX0_canDraw_112 : decode cX0_canDraw 112 = .ok (.iaload, 1) := by decide +kernel
theorem dX0_canDraw_113 : decode cX0_canDraw 113 = .ok (.aload_n 0, 1) := by decide +kernel
theorem dX0_canDraw_114 : decode cX0_canDraw 114 = .ok (.getfield 27, 3) := by decide +kernel
theorem dX0_canDraw_117 : decode cX0_canDraw 117 = .ok (.getfield 68, 3) := by decide +kernel
theorem dX0_canDraw_120 : decode cX0_canDraw 120 = .ok (.iload_n 2, 1) := by decide +kernel
theorem dX0_canDraw_121 : decode cX0_canDraw 121 = .ok (.iaload, 1) := by decide +kernel
theorem dX0_canDraw_122 : decode cX0_canDraw 122 = .ok (.if_icmp .eq 5, 3) := by decide +kernel
theorem dX0_canDraw_125 : decode cX0_canDraw 125 = .ok (.iconst 0, 1) := by decide +kernel
theorem dX0_canDraw_126 : decode cX0_canDraw 126 = .ok (.ireturn, 1) := by decide +kernel
theorem dX0_canDraw_127 : decode cX0_canDraw 127 = .ok (.iload_n 3, 1) := by decide +kernel
theorem dX0_canDraw_128 : decode cX0_canDraw 128 = .ok (.iload 7, 2) := by decide +kernel
theorem dX0_canDraw_130 : decode cX0_canDraw 130 = .ok (.isub, 1) := by decide +kernel
theorem dX0_canDraw_131 : decode cX0_canDraw 131 = .ok (.istore_n 3, 1) := by decide +kernel
theorem dX0_canDraw_132 : decode cX0_canDraw 132 = .ok (.iinc 5 1, 3) := by decide +kernel
theorem dX0_canDraw_135 : decode cX0_canDraw 135 = .ok (.goto (-101), 3) := by decide +kernel
theorem dX0_canDraw_138 : decode cX0_canDraw 138 = .ok (.iload_n 3, 1) := by decide +kernel
theorem dX0_canDraw_139 : decode cX0_canDraw 139 = .ok (.ifCond .gt 7, 3) := by decide +kernel
theorem dX0_canDraw_142 : decode cX0_canDraw 142 = .ok (.iconst 1, 1) := by decide +kernel
theorem dX0_canDraw_143 : decode cX0_canDraw 143 = .ok (.goto 4, 3) := by decide +kernel
theorem dX0_canDraw_146 : decode cX0_canDraw 146 = .ok (.iconst 0, 1) := by decide +kernel
theorem dX0_canDraw_147 : decode cX0_canDraw 147 = .ok (.ireturn, 1) := by decide +kernel
theorem v_X0_canDraw : yX0_canDraw.cls = RX0 ∧ yX0_canDraw.cls ≠ "java/lang/invoke/MethodHandle" ∧ yX0_canDraw.cls ≠ "java/lang/invoke/VarHandle" ∧ (parseMethodDescriptor yX0_canDraw.desc).map (fun d => d.parameters.length) = some 2 := ⟨rfl, by decide +kernel, by decide +kernel, by decide +kernel⟩
noncomputable def k_X0_canDraw_0 (κ : gb_K) : gb_C := (o_al 0 (o_gf 0 0 (o_il 1 (o_cv 1 7 2 f_X7_closed (o_zeq (o_al 0 (o_gf 0 1 (o_gf 2 1 (o_il 2 (o_iald (o_is 3 (o_al 0 (o_gf 0 2 (o_il 1 (o_iald (o_is 4 (o_ci 0 (o_is 5 (o_j [0, 1, 2, 3, 4, 5] (κ 34))))))))))))))) (o_ci 0 o_rz))))))
theorem l_X0_canDraw_0 : gb_Li (fun κ => k_X0_canDraw_0 κ) := (gb_li (q_al 0) (gb_li (q_gf 0 0) (gb_li (q_il 1) (gb_li (q_cv 1 7 2 f_X7_closed) (q_zeq (gb_li (q_al 0) (gb_li (q_gf 0 1) (gb_li (q_gf 2 1) (gb_li (q_il 2) (gb_li q_iald (gb_li (q_is 3) (gb_li (q_al 0) (gb_li (q_gf 0 2) (gb_li (q_il 1) (gb_li q_iald (gb_li (q_is 4) (gb_li (q_ci 0) (gb_li (q_is 5) (q_j [0, 1, 2, 3, 4, 5] 34)))))))))))))) (gb_li (q_ci 0) (gb_li0 _)))))))
theorem s_X0_canDraw_0   {κ : gb_K} (hκ : ∀ q, gb_S RX0 cX0_canDraw 8 (gb_rm 1 21) 2 q (κ q)) : gb_S RX0 cX0_canDraw 8 (gb_rm 1 21) 2 0 (k_X0_canDraw_0 κ) := (s_aln 0 rfl dX0_canDraw_0 (s_gf (T := TX0) winX0 rfl (Nat.le_of_ble_eq_true rfl) gw_7 rfl dX0_canDraw_1 (s_iln 1 rfl dX0_canDraw_4 (s_cv (C := RX7) c_X7_closed rfl (gb_l5 gw_8 gw_9 gw_10 gw_11 gw_12) v_X7_closed ⟨rfl, rfl⟩ ⟨Nat.le_of_ble_eq_true rfl, Nat.le_of_ble_eq_true rfl⟩ dX0_canDraw_5 (s_zeq (tgt := 13) (by decide +kernel) dX0_canDraw_8 (s_aln 0 rfl dX0_canDraw_13 (s_gf (T := TX0) winX0 rfl (Nat.le_of_ble_eq_true rfl) gw_1 rfl dX0_canDraw_14 (s_gf (T := TX2) winX2 rfl (Nat.le_of_ble_eq_true rfl) gw_13 rfl dX0_canDraw_17 (s_iln 2 rfl dX0_canDraw_20 (s_iald dX0_canDraw_21 (s_isn 3 rfl (Nat.le_of_ble_eq_true rfl) dX0_canDraw_22 (s_aln 0 rfl dX0_canDraw_23 (s_gf (T := TX0) winX0 rfl (Nat.le_of_ble_eq_true rfl) gw_14 rfl dX0_canDraw_24 (s_iln 1 rfl dX0_canDraw_27 (s_iald dX0_canDraw_28 (s_is (Nat.le_of_ble_eq_true rfl) dX0_canDraw_29 (s_iconst (by decide +kernel) dX0_canDraw_31 (s_is (Nat.le_of_ble_eq_true rfl) dX0_canDraw_32 (s_j (hκ 34))))))))))))))) (s_iconst (by decide +kernel) dX0_canDraw_11 (s_rz rfl dX0_canDraw_12)))))))
noncomputable def k_X0_canDraw_127 (κ : gb_K) : gb_C := (o_il 3 (o_il 7 (o_ib (fun x y => x - y) (o_is 3 (o_inc 5 1 (o_j [0, 1, 2, 3, 4, 5] (κ 34)))))))
theorem l_X0_canDraw_127 : gb_Li (fun κ => k_X0_canDraw_127 κ) := (gb_li (q_il 3) (gb_li (q_il 7) (gb_li (q_ib _) (gb_li (q_is 3) (gb_li (q_inc 5 1) (q_j [0, 1, 2, 3, 4, 5] 34))))))
theorem s_X0_canDraw_127   {κ : gb_K} (hκ : ∀ q, gb_S RX0 cX0_canDraw 8 (gb_rm 1 21) 2 q (κ q)) : gb_S RX0 cX0_canDraw 8 (gb_rm 1 21) 2 127 (k_X0_canDraw_127 κ) := (s_iln 3 rfl dX0_canDraw_127 (s_il dX0_canDraw_128 (s_isub dX0_canDraw_130 (s_isn 3 rfl (Nat.le_of_ble_eq_true rfl) dX0_canDraw_131 (s_inc (by decide +kernel) (Nat.le_of_ble_eq_true rfl) dX0_canDraw_132 (s_goto (tgt := 34) (by decide +kernel) dX0_canDraw_135 (s_j (hκ 34))))))))
noncomputable def k_X0_canDraw_92 (κ : gb_K) : gb_C := (o_ib (fun x y => x - y) (o_mmax (o_is 4 (o_il 7 (o_zle (k_X0_canDraw_127 κ) (o_al 0 (o_gf 0 0 (o_gf 7 5 (o_il 6 (o_iald (o_al 0 (o_gf 0 1 (o_gf 2 0 (o_il 2 (o_iald (o_ceq (k_X0_canDraw_127 κ) (o_ci 0 o_rz)))))))))))))))))
theorem l_X0_canDraw_92 : gb_Li (fun κ => k_X0_canDraw_92 κ) := (gb_li (q_ib _) (gb_li q_mmax (gb_li (q_is 4) (gb_li (q_il 7) (q_zle (l_X0_canDraw_127) (gb_li (q_al 0) (gb_li (q_gf 0 0) (gb_li (q_gf 7 5) (gb_li (q_il 6) (gb_li q_iald (gb_li (q_al 0) (gb_li (q_gf 0 1) (gb_li (q_gf 2 0) (gb_li (q_il 2) (gb_li q_iald (q_ceq (l_X0_canDraw_127) (gb_li (q_ci 0) (gb_li0 _))))))))))))))))))
theorem s_X0_canDraw_92   {κ : gb_K} (hκ : ∀ q, gb_S RX0 cX0_canDraw 8 (gb_rm 1 21) 2 q (κ q)) : gb_S RX0 cX0_canDraw 8 (gb_rm 1 21) 2 92 (k_X0_canDraw_92 κ) := (s_isub dX0_canDraw_92 (s_mmax ⟨Nat.le_of_ble_eq_true rfl, Nat.le_of_ble_eq_true rfl⟩ (gb_l4 gw_15 gw_16 gw_17 gw_18) dX0_canDraw_93 (s_is (Nat.le_of_ble_eq_true rfl) dX0_canDraw_96 (s_il dX0_canDraw_98 (s_zle (tgt := 127) (by decide +kernel) dX0_canDraw_100 (s_X0_canDraw_127 hκ) (s_aln 0 rfl dX0_canDraw_103 (s_gf (T := TX0) winX0 rfl (Nat.le_of_ble_eq_true rfl) gw_7 rfl dX0_canDraw_104 (s_gf (T := TX7) winX7 rfl (Nat.le_of_ble_eq_true rfl) gw_19 rfl dX0_canDraw_107 (s_il dX0_canDraw_110 (s_iald dX0_canDraw_112 (s_aln 0 rfl dX0_canDraw_113 (s_gf (T := TX0) winX0 rfl (Nat.le_of_ble_eq_true rfl) gw_1 rfl dX0_canDraw_114 (s_gf (T := TX2) winX2 rfl (Nat.le_of_ble_eq_true rfl) gw_20 rfl dX0_canDraw_117 (s_iln 2 rfl dX0_canDraw_120 (s_iald dX0_canDraw_121 (s_ceq (tgt := 127) (by decide +kernel) dX0_canDraw_122 (s_X0_canDraw_127 hκ) (s_iconst (by decide +kernel) dX0_canDraw_125 (s_rz rfl dX0_canDraw_126))))))))))))))))))
noncomputable def k_X0_canDraw_147 (κ : gb_K) : gb_C := o_rz
theorem l_X0_canDraw_147 : gb_Li (fun κ => k_X0_canDraw_147 κ) := (gb_li0 _)
theorem s_X0_canDraw_147   {κ : gb_K} (hκ : ∀ q, gb_S RX0 cX0_canDraw 8 (gb_rm 1 21) 2 q (κ q)) : gb_S RX0 cX0_canDraw 8 (gb_rm 1 21) 2 147 (k_X0_canDraw_147 κ) := (s_rz rfl dX0_canDraw_147)
noncomputable def k_X0_canDraw_138 (κ : gb_K) : gb_C := (o_il 3 (o_zgt (o_ci 0 (k_X0_canDraw_147 κ)) (o_ci 1 (k_X0_canDraw_147 κ))))
theorem l_X0_canDraw_138 : gb_Li (fun κ => k_X0_canDraw_138 κ) := (gb_li (q_il 3) (q_zgt (gb_li (q_ci 0) (l_X0_canDraw_147)) (gb_li (q_ci 1) (l_X0_canDraw_147))))
theorem s_X0_canDraw_138   {κ : gb_K} (hκ : ∀ q, gb_S RX0 cX0_canDraw 8 (gb_rm 1 21) 2 q (κ q)) : gb_S RX0 cX0_canDraw 8 (gb_rm 1 21) 2 138 (k_X0_canDraw_138 κ) := (s_iln 3 rfl dX0_canDraw_138 (s_zgt (tgt := 146) (by decide +kernel) dX0_canDraw_139 (s_iconst (by decide +kernel) dX0_canDraw_146 (s_X0_canDraw_147 hκ)) (s_iconst (by decide +kernel) dX0_canDraw_142 (s_goto (tgt := 147) (by decide +kernel) dX0_canDraw_143 (s_X0_canDraw_147 hκ)))))
noncomputable def k_X0_canDraw_34 (κ : gb_K) : gb_C := (o_il 5 (o_al 0 (o_gf 0 0 (o_gf 7 3 (o_il 1 (o_iald (o_cge (k_X0_canDraw_138 κ) (o_il 3 (o_zle (k_X0_canDraw_138 κ) (o_il 1 (o_il 5 (o_cs 2 1 f_X7_place (o_is 6 (o_ci 0 (o_al 0 (o_gf 0 0 (o_gf 7 6 (o_il 6 (o_iald (o_il 4 (o_ib (fun x y => x - y) (o_mmax (o_is 7 (o_ci 0 (o_il 4 (o_al 0 (o_gf 0 0 (o_gf 7 6 (o_il 6 (o_iald (k_X0_canDraw_92 κ)))))))))))))))))))))))))))))))
theorem l_X0_canDraw_34 : gb_Li (fun κ => k_X0_canDraw_34 κ) := (gb_li (q_il 5) (gb_li (q_al 0) (gb_li (q_gf 0 0) (gb_li (q_gf 7 3) (gb_li (q_il 1) (gb_li q_iald (q_cge (l_X0_canDraw_138) (gb_li (q_il 3) (q_zle (l_X0_canDraw_138) (gb_li (q_il 1) (gb_li (q_il 5) (gb_li (q_cs 2 1 f_X7_place) (gb_li (q_is 6) (gb_li (q_ci 0) (gb_li (q_al 0) (gb_li (q_gf 0 0) (gb_li (q_gf 7 6) (gb_li (q_il 6) (gb_li q_iald (gb_li (q_il 4) (gb_li (q_ib _) (gb_li q_mmax (gb_li (q_is 7) (gb_li (q_ci 0) (gb_li (q_il 4) (gb_li (q_al 0) (gb_li (q_gf 0 0) (gb_li (q_gf 7 6) (gb_li (q_il 6) (gb_li q_iald (l_X0_canDraw_92)))))))))))))))))))))))))))))))
theorem s_X0_canDraw_34   {κ : gb_K} (hκ : ∀ q, gb_S RX0 cX0_canDraw 8 (gb_rm 1 21) 2 q (κ q)) : gb_S RX0 cX0_canDraw 8 (gb_rm 1 21) 2 34 (k_X0_canDraw_34 κ) := (s_il dX0_canDraw_34 (s_aln 0 rfl dX0_canDraw_36 (s_gf (T := TX0) winX0 rfl (Nat.le_of_ble_eq_true rfl) gw_7 rfl dX0_canDraw_37 (s_gf (T := TX7) winX7 rfl (Nat.le_of_ble_eq_true rfl) gw_21 rfl dX0_canDraw_40 (s_iln 1 rfl dX0_canDraw_43 (s_iald dX0_canDraw_44 (s_cge (tgt := 138) (by decide +kernel) dX0_canDraw_45 (s_X0_canDraw_138 hκ) (s_iln 3 rfl dX0_canDraw_48 (s_zle (tgt := 138) (by decide +kernel) dX0_canDraw_49 (s_X0_canDraw_138 hκ) (s_iln 1 rfl dX0_canDraw_52 (s_il dX0_canDraw_53 (s_cs c_X7_place (gb_l4 gw_22 gw_23 gw_11 gw_24) v_X7_place.2 ⟨rfl, rfl⟩ ⟨Nat.le_of_ble_eq_true rfl, Nat.le_of_ble_eq_true rfl⟩ dX0_canDraw_55 (s_is (Nat.le_of_ble_eq_true rfl) dX0_canDraw_58 (s_iconst (by decide +kernel) dX0_canDraw_60 (s_aln 0 rfl dX0_canDraw_61 (s_gf (T := TX0) winX0 rfl (Nat.le_of_ble_eq_true rfl) gw_7 rfl dX0_canDraw_62 (s_gf (T := TX7) winX7 rfl (Nat.le_of_ble_eq_true rfl) gw_25 rfl dX0_canDraw_65 (s_il dX0_canDraw_68 (s_iald dX0_canDraw_70 (s_il dX0_canDraw_71 (s_isub dX0_canDraw_73 (s_mmax ⟨Nat.le_of_ble_eq_true rfl, Nat.le_of_ble_eq_true rfl⟩ (gb_l4 gw_15 gw_16 gw_17 gw_18) dX0_canDraw_74 (s_is (Nat.le_of_ble_eq_true rfl) dX0_canDraw_77 (s_iconst (by decide +kernel) dX0_canDraw_79 (s_il dX0_canDraw_80 (s_aln 0 rfl dX0_canDraw_82 (s_gf (T := TX0) winX0 rfl (Nat.le_of_ble_eq_true rfl) gw_7 rfl dX0_canDraw_83 (s_gf (T := TX7) winX7 rfl (Nat.le_of_ble_eq_true rfl) gw_25 rfl dX0_canDraw_86 (s_il dX0_canDraw_89 (s_iald dX0_canDraw_91 (s_X0_canDraw_92 hκ)))))))))))))))))))))))))))))))
noncomputable def B_X0_canDraw : List (Nat × (gb_K → gb_C)) := [(34, fun κ => k_X0_canDraw_34 κ)]
noncomputable def K_X0_canDraw : gb_K := gb_fx (gb_tb (B_X0_canDraw))
theorem L_X0_canDraw : ∀ q, gb_Li (fun κ => gb_tb (B_X0_canDraw) κ q) := gb_tb_li (List.forall_mem_cons.mpr ⟨l_X0_canDraw_34, (fun _ h => absurd h List.not_mem_nil)⟩)
theorem S_X0_canDraw   : ∀ q, gb_S RX0 cX0_canDraw 8 (gb_rm 1 21) 2 q (K_X0_canDraw q) := fun q => gb_fx_S (L_X0_canDraw) (gb_tb_S (List.forall_mem_cons.mpr ⟨fun κ hκ => s_X0_canDraw_34 hκ, (fun _ h => absurd h List.not_mem_nil)⟩)) q
noncomputable def f_X0_canDraw : gb_F := gb_hide (gb_mf 8 (k_X0_canDraw_0 (K_X0_canDraw)))
theorem c_X0_canDraw : ∀ l, gb_Met l yX0_canDraw cX0_canDraw 8 (some .boolean) 2 (gb_rm 1 21) f_X0_canDraw := gb_hide_c (gb_met (own := RX0) (rk := 2) rfl (by decide +kernel) ⟨rfl, rfl⟩ (s_X0_canDraw_0 (S_X0_canDraw)))
theorem dX0_serveFrom_0 : decode cX0_serveFrom 0 = .ok (.iload_n 1, 1) := by decide +kernel
theorem dX0_serveFrom_1 : decode cX0_serveFrom 1 = .ok (.aload_n 0, 1) := by decide +kernel
theorem dX0_serveFrom_2 : decode cX0_serveFrom 2 = .ok (.getfield 31, 3) := by decide +kernel
theorem dX0_serveFrom_5 : decode cX0_serveFrom 5 = .ok (.if_icmp .le 8, 3) := by decide +kernel
theorem dX0_serveFrom_8 : decode cX0_serveFrom 8 = .ok (.aload_n 0, 1) := by decide +kernel
theorem dX0_serveFrom_9 : decode cX0_serveFrom 9 = .ok (.iload_n 1, 1) := by decide +kernel
theorem dX0_serveFrom_10 : decode cX0_serveFrom 10 = .ok (.invokevirtual 72, 3) := by decide +kernel
theorem dX0_serveFrom_13 : decode cX0_serveFrom 13 = .ok (.iload_n 1, 1) := by decide +kernel
theorem dX0_serveFrom_14 : decode cX0_serveFrom 14 = .ok (.aload_n 0, 1) := by decide +kernel
theorem dX0_serveFrom_15 : decode cX0_serveFrom 15 = .ok (.getfield 27, 3) := by decide +kernel
theorem dX0_serveFrom_18 : decode cX0_serveFrom 18 = .ok (.getfield 69, 3) := by decide +kernel
theorem dX0_serveFrom_21 : decode cX0_serveFrom 21 = .ok (.if_icmp .lt 4, 3) := by decide +kernel
theorem dX0_serveFrom_24 : decode cX0_serveFrom 24 = .ok (.return_, 1) := by decide +kernel
theorem dX0_serveFrom_25 : decode cX0_serveFrom 25 = .ok (.iconst 0, 1) := by decide +kernel
theorem dX0_serveFrom_26 : decode cX0_serveFrom 26 = .ok (.istore_n 2, 1) := by decide +kernel
theorem dX0_serveFrom_27 : decode cX0_serveFrom 27 = .ok (.iload_n 2, 1) := by decide +kernel
theorem dX0_serveFrom_28 : decode cX0_serveFrom 28 = .ok (.bipush 6, 2) := by decide +kernel
theorem dX0_serveFrom_30 : decode cX0_serveFrom 30 = .ok (.if_icmp .ge 82, 3) := by decide +kernel
theorem dX0_serveFrom_33 : decode cX0_serveFrom 33 = .ok (.aload_n 0, 1) := by decide +kernel
theorem dX0_serveFrom_34 : decode cX0_serveFrom 34 = .ok (.getfield 31, 3) := by decide +kernel
theorem dX0_serveFrom_37 : decode cX0_serveFrom 37 = .ok (.aload_n 0, 1) := by decide +kernel
theorem dX0_serveFrom_38 : decode cX0_serveFrom 38 = .ok (.getfield 27, 3) := by decide +kernel
theorem dX0_serveFrom_41 : decode cX0_serveFrom 41 = .ok (.getfield 69, 3) := by decide +kernel
theorem dX0_serveFrom_44 : decode cX0_serveFrom 44 = .ok (.if_icmp .ge 68, 3) := by decide +kernel
theorem dX0_serveFrom_47 : decode cX0_serveFrom 47 = .ok (.aload_n 0, 1) := by decide +kernel
theorem dX0_serveFrom_48 : decode cX0_serveFrom 48 = .ok (.iload_n 2, 1) := by decide +kernel
theorem dX0_serveFrom_49 : decode cX0_serveFrom 49 = .ok (.iload_n 1, 1) := by decide +kernel
theorem dX0_serveFrom_50 : decode cX0_serveFrom 50 = .ok (.invokevirtual 76, 3) := by decide +kernel
theorem dX0_serveFrom_53 : decode cX0_serveFrom 53 = .ok (.ifCond .eq 53, 3) := by decide +kernel
theorem dX0_serveFrom_56 : decode cX0_serveFrom 56 = .ok (.aload_n 0, 1) := by decide +kernel
theorem dX0_serveFrom_57 : decode cX0_serveFrom 57 = .ok (.getfield 17, 3) := by decide +kernel
theorem dX0_serveFrom_60 : decode cX0_serveFrom 60 = .ok (.iload_n 1, 1) := by decide +kernel
theorem dX0_serveFrom_61 : decode cX0_serveFrom 61 = .ok (.iload_n 2, 1) := by decide +kernel
theorem dX0_serveFrom_62 : decode cX0_serveFrom 62 = .ok (.iastore, 1) := by decide +kernel
theorem dX0_serveFrom_63 : decode cX0_serveFrom 63 = .ok (.aload_n 0, 1) := by decide +kernel
theorem dX0_serveFrom_64 : decode cX0_serveFrom 64 = .ok (.getfield 9, 3) := by decide +kernel
theorem dX0_serveFrom_67 : decode cX0_serveFrom 67 = .ok (.iload_n 2, 1) := by decide +kernel
theorem dX0_serveFrom_68 : decode cX0_serveFrom 68 = .ok (.dup2, 1) := by decide +kernel
theorem dX0_serveFrom_69 : decode cX0_serveFrom 69 = .ok (.iaload, 1) := by decide +kernel
theorem dX0_serveFrom_70 : decode cX0_serveFrom 70 = .ok (.aload_n 0, 1) := by decide +kernel
theorem dX0_serveFrom_71 : decode cX0_serveFrom 71 = .ok (.getfield 27, 3) := by decide +kernel
theorem dX0_serveFrom_74 : decode cX0_serveFrom 74 = .ok (.getfield 49, 3) := by decide +kernel
theorem dX0_serveFrom_77 : decode cX0_serveFrom 77 = .ok (.iload_n 1, 1) := by decide +kernel
theorem dX0_serveFrom_78 : decode cX0_serveFrom 78 = .ok (.iaload, 1) := by decide +kernel
theorem dX0_serveFrom_79 : decode cX0_serveFrom 79 = .ok (.iadd, 1) := by decide +kernel
theorem dX0_serveFrom_80 : decode cX0_serveFrom 80 = .ok (.iastore, 1) := by decide +kernel
theorem dX0_serveFrom_81 : decode cX0_serveFrom 81 = .ok (.aload_n 0, 1) := by decide +kernel
theorem dX0_serveFrom_82 : decode cX0_serveFrom 82 = .ok (.iload_n 1, 1) := by decide +kernel
theorem dX0_serveFrom_83 : decode cX0_serveFrom 83 = .ok (.iconst 1, 1) := by decide +kernel
theorem dX0_serveFrom_84 : decode cX0_serveFrom 84 = .ok (.iadd, 1) := by decide +kernel
theorem dX0_serveFrom_85 : decode cX0_serveFrom 85 = .ok (.invokestatic 35, 3) := by decide +kernel
theorem dX0_serveFrom_88 : decode cX0_serveFrom 88 = .ok (.aload_n 0, 1) := by decide +kernel
theorem dX0_serveFrom_89 : decode cX0_serveFrom 89 = .ok (.getfield 9, 3) := by decide +kernel
theorem dX0_serveFrom_92 : decode cX0_serveFrom 92 = .ok (.iload_n 2, 1) := by decide +kernel
theorem dX0_serveFrom_93 : decode cX0_serveFrom 93 = .ok (.dup2, 1) := by decide +kernel
theorem dX0_serveFrom_94 : decode cX0_serveFrom 94 = .ok (.iaload, 1) := by decide +kernel
theorem dX0_serveFrom_95 : decode cX0_serveFrom 95 = .ok (.aload_n 0, 1) := by decide +kernel
theorem dX0_serveFrom_96 : decode cX0_serveFrom 96 = .ok (.getfield 27, 3) := by decide +kernel
theorem dX0_serveFrom_99 : decode cX0_serveFrom 99 = .ok (.getfield 49, 3) := by decide +kernel
theorem dX0_serveFrom_102 : decode cX0_serveFrom 102 = .ok (.iload_n 1, 1) := by decide +kernel
theorem dX0_serveFrom_103 : decode cX0_serveFrom 103 = .ok (.iaload, 1) := by decide +kernel
theorem dX0_serveFrom_104 : decode cX0_serveFrom 104 = .ok (.isub, 1) := by decide +kernel
theorem dX0_serveFrom_105 : decode cX0_serveFrom 105 = .ok (.iastore, 1) := by decide +kernel
theorem dX0_serveFrom_106 : decode cX0_serveFrom 106 = .ok (.iinc 2 1, 3) := by decide +kernel
theorem dX0_serveFrom_109 : decode cX0_serveFrom 109 = .ok (.goto (-82), 3) := by decide +kernel
theorem dX0_serveFrom_112 : decode cX0_serveFrom 112 = .ok (.return_, 1) := by decide +kernel
theorem v_X0_serveFrom : yX0_serveFrom.cls = RX0 ∧ yX0_serveFrom.cls ≠ "java/lang/invoke/MethodHandle" ∧ yX0_serveFrom.cls ≠ "java/lang/invoke/VarHandle" ∧ (parseMethodDescriptor yX0_serveFrom.desc).map (fun d => d.parameters.length) = some 2 := ⟨rfl, by decide +kernel, by decide +kernel, by decide +kernel⟩
noncomputable def k_X0_serveFrom_13 (r : gb_F) (κ : gb_K) : gb_C := (o_il 1 (o_al 0 (o_gf 0 1 (o_gf 2 3 (o_clt (o_ci 0 (o_is 2 (o_j [0, 1, 2] (κ 27)))) o_rv)))))
theorem l_X0_serveFrom_13 (r : gb_F) : gb_Li (fun κ => k_X0_serveFrom_13 r κ) := (gb_li (q_il 1) (gb_li (q_al 0) (gb_li (q_gf 0 1) (gb_li (q_gf 2 3) (q_clt (gb_li (q_ci 0) (gb_li (q_is 2) (q_j [0, 1, 2] 27))) (gb_li0 _))))))
theorem s_X0_serveFrom_13 {R : Room} {r : gb_F} {fr lo : Nat} (hr : (∀ l, gb_Met l yX0_serveFrom cX0_serveFrom 3 none 0 (gb_rm fr lo) r) ∧ fr + 1 ≤ R.frames ∧ 8 + (3 + 11) + lo ≤ R.locals) (hR : 2 ≤ R.frames ∧ 48 ≤ R.locals) {κ : gb_K} (hκ : ∀ q, gb_S RX0 cX0_serveFrom 3 R 0 q (κ q)) : gb_S RX0 cX0_serveFrom 3 R 0 13 (k_X0_serveFrom_13 r κ) := (s_iln 1 rfl dX0_serveFrom_13 (s_aln 0 rfl dX0_serveFrom_14 (s_gf (T := TX0) winX0 rfl (Nat.le_of_ble_eq_true rfl) gw_1 rfl dX0_serveFrom_15 (s_gf (T := TX2) winX2 rfl (Nat.le_of_ble_eq_true rfl) gw_2 rfl dX0_serveFrom_18 (s_clt (tgt := 25) (by decide +kernel) dX0_serveFrom_21 (s_iconst (by decide +kernel) dX0_serveFrom_25 (s_isn 2 rfl (Nat.le_of_ble_eq_true rfl) dX0_serveFrom_26 (s_j (hκ 27)))) (s_rv rfl dX0_serveFrom_24))))))
noncomputable def k_X0_serveFrom_0 (r : gb_F) (κ : gb_K) : gb_C := (o_il 1 (o_al 0 (o_gf 0 5 (o_cle (k_X0_serveFrom_13 r κ) (o_al 0 (o_il 1 (o_cv 1 0 0 f_X0_takeWay (k_X0_serveFrom_13 r κ))))))))
theorem l_X0_serveFrom_0 (r : gb_F) : gb_Li (fun κ => k_X0_serveFrom_0 r κ) := (gb_li (q_il 1) (gb_li (q_al 0) (gb_li (q_gf 0 5) (q_cle (l_X0_serveFrom_13 r) (gb_li (q_al 0) (gb_li (q_il 1) (gb_li (q_cv 1 0 0 f_X0_takeWay) (l_X0_serveFrom_13 r))))))))
theorem s_X0_serveFrom_0 {R : Room} {r : gb_F} {fr lo : Nat} (hr : (∀ l, gb_Met l yX0_serveFrom cX0_serveFrom 3 none 0 (gb_rm fr lo) r) ∧ fr + 1 ≤ R.frames ∧ 8 + (3 + 11) + lo ≤ R.locals) (hR : 2 ≤ R.frames ∧ 48 ≤ R.locals) {κ : gb_K} (hκ : ∀ q, gb_S RX0 cX0_serveFrom 3 R 0 q (κ q)) : gb_S RX0 cX0_serveFrom 3 R 0 0 (k_X0_serveFrom_0 r κ) := (s_iln 1 rfl dX0_serveFrom_0 (s_aln 0 rfl dX0_serveFrom_1 (s_gf (T := TX0) winX0 rfl (Nat.le_of_ble_eq_true rfl) gw_0 rfl dX0_serveFrom_2 (s_cle (tgt := 13) (by decide +kernel) dX0_serveFrom_5 (s_X0_serveFrom_13 hr hR hκ) (s_aln 0 rfl dX0_serveFrom_8 (s_iln 1 rfl dX0_serveFrom_9 (s_cv (C := RX0) c_X0_takeWay rfl (gb_l5 gw_26 gw_27 gw_28 gw_29 gw_30) v_X0_takeWay ⟨rfl, rfl⟩ ⟨Nat.le_trans (Nat.le_of_ble_eq_true rfl) hR.1, Nat.le_trans (Nat.le_of_ble_eq_true rfl) hR.2⟩ dX0_serveFrom_10 (s_X0_serveFrom_13 hr hR hκ))))))))
noncomputable def k_X0_serveFrom_106 (r : gb_F) (κ : gb_K) : gb_C := (o_inc 2 1 (o_j [0, 1, 2] (κ 27)))
theorem l_X0_serveFrom_106 (r : gb_F) : gb_Li (fun κ => k_X0_serveFrom_106 r κ) := (gb_li (q_inc 2 1) (q_j [0, 1, 2] 27))
theorem s_X0_serveFrom_106 {R : Room} {r : gb_F} {fr lo : Nat} (hr : (∀ l, gb_Met l yX0_serveFrom cX0_serveFrom 3 none 0 (gb_rm fr lo) r) ∧ fr + 1 ≤ R.frames ∧ 8 + (3 + 11) + lo ≤ R.locals) (hR : 2 ≤ R.frames ∧ 48 ≤ R.locals) {κ : gb_K} (hκ : ∀ q, gb_S RX0 cX0_serveFrom 3 R 0 q (κ q)) : gb_S RX0 cX0_serveFrom 3 R 0 106 (k_X0_serveFrom_106 r κ) := (s_inc (by decide +kernel) (Nat.le_of_ble_eq_true rfl) dX0_serveFrom_106 (s_goto (tgt := 27) (by decide +kernel) dX0_serveFrom_109 (s_j (hκ 27))))
noncomputable def k_X0_serveFrom_80 (r : gb_F) (κ : gb_K) : gb_C := (o_iast (o_al 0 (o_il 1 (o_ci 1 (o_ib (fun x y => x + y) (o_cs 2 0 r (o_al 0 (o_gf 0 2 (o_il 2 (o_dup2 (o_iald (o_al 0 (o_gf 0 1 (o_gf 2 1 (o_il 1 (o_iald (o_ib (fun x y => x - y) (o_iast (k_X0_serveFrom_106 r κ)))))))))))))))))))
theorem l_X0_serveFrom_80 (r : gb_F) : gb_Li (fun κ => k_X0_serveFrom_80 r κ) := (gb_li q_iast (gb_li (q_al 0) (gb_li (q_il 1) (gb_li (q_ci 1) (gb_li (q_ib _) (gb_li (q_cs 2 0 r) (gb_li (q_al 0) (gb_li (q_gf 0 2) (gb_li (q_il 2) (gb_li q_dup2 (gb_li q_iald (gb_li (q_al 0) (gb_li (q_gf 0 1) (gb_li (q_gf 2 1) (gb_li (q_il 1) (gb_li q_iald (gb_li (q_ib _) (gb_li q_iast (l_X0_serveFrom_106 r)))))))))))))))))))
theorem s_X0_serveFrom_80 {R : Room} {r : gb_F} {fr lo : Nat} (hr : (∀ l, gb_Met l yX0_serveFrom cX0_serveFrom 3 none 0 (gb_rm fr lo) r) ∧ fr + 1 ≤ R.frames ∧ 8 + (3 + 11) + lo ≤ R.locals) (hR : 2 ≤ R.frames ∧ 48 ≤ R.locals) {κ : gb_K} (hκ : ∀ q, gb_S RX0 cX0_serveFrom 3 R 0 q (κ q)) : gb_S RX0 cX0_serveFrom 3 R 0 80 (k_X0_serveFrom_80 r κ) := (s_iast dX0_serveFrom_80 (s_aln 0 rfl dX0_serveFrom_81 (s_iln 1 rfl dX0_serveFrom_82 (s_iconst (by decide +kernel) dX0_serveFrom_83 (s_iadd dX0_serveFrom_84 (s_cs hr.1 (gb_l4 gw_31 gw_32 gw_29 gw_33) v_X0_serveFrom.2 ⟨rfl, rfl⟩ ⟨hr.2.1, hr.2.2⟩ dX0_serveFrom_85 (s_aln 0 rfl dX0_serveFrom_88 (s_gf (T := TX0) winX0 rfl (Nat.le_of_ble_eq_true rfl) gw_14 rfl dX0_serveFrom_89 (s_iln 2 rfl dX0_serveFrom_92 (s_dup2 dX0_serveFrom_93 (s_iald dX0_serveFrom_94 (s_aln 0 rfl dX0_serveFrom_95 (s_gf (T := TX0) winX0 rfl (Nat.le_of_ble_eq_true rfl) gw_1 rfl dX0_serveFrom_96 (s_gf (T := TX2) winX2 rfl (Nat.le_of_ble_eq_true rfl) gw_13 rfl dX0_serveFrom_99 (s_iln 1 rfl dX0_serveFrom_102 (s_iald dX0_serveFrom_103 (s_isub dX0_serveFrom_104 (s_iast dX0_serveFrom_105 (s_X0_serveFrom_106 hr hR hκ)))))))))))))))))))
noncomputable def k_X0_serveFrom_112 (r : gb_F) (κ : gb_K) : gb_C := o_rv
theorem l_X0_serveFrom_112 (r : gb_F) : gb_Li (fun κ => k_X0_serveFrom_112 r κ) := (gb_li0 _)
theorem s_X0_serveFrom_112 {R : Room} {r : gb_F} {fr lo : Nat} (hr : (∀ l, gb_Met l yX0_serveFrom cX0_serveFrom 3 none 0 (gb_rm fr lo) r) ∧ fr + 1 ≤ R.frames ∧ 8 + (3 + 11) + lo ≤ R.locals) (hR : 2 ≤ R.frames ∧ 48 ≤ R.locals) {κ : gb_K} (hκ : ∀ q, gb_S RX0 cX0_serveFrom 3 R 0 q (κ q)) : gb_S RX0 cX0_serveFrom 3 R 0 112 (k_X0_serveFrom_112 r κ) := (s_rv rfl dX0_serveFrom_112)
noncomputable def k_X0_serveFrom_27 (r : gb_F) (κ : gb_K) : gb_C := (o_il 2 (o_ci 6 (o_cge (k_X0_serveFrom_112 r κ) (o_al 0 (o_gf 0 5 (o_al 0 (o_gf 0 1 (o_gf 2 3 (o_cge (k_X0_serveFrom_112 r κ) (o_al 0 (o_il 2 (o_il 1 (o_cv 2 0 2 f_X0_canDraw (o_zeq (k_X0_serveFrom_106 r κ) (o_al 0 (o_gf 0 3 (o_il 1 (o_il 2 (o_iast (o_al 0 (o_gf 0 2 (o_il 2 (o_dup2 (o_iald (o_al 0 (o_gf 0 1 (o_gf 2 1 (o_il 1 (o_iald (o_ib (fun x y => x + y) (k_X0_serveFrom_80 r κ)))))))))))))))))))))))))))))))
theorem l_X0_serveFrom_27 (r : gb_F) : gb_Li (fun κ => k_X0_serveFrom_27 r κ) := (gb_li (q_il 2) (gb_li (q_ci 6) (q_cge (l_X0_serveFrom_112 r) (gb_li (q_al 0) (gb_li (q_gf 0 5) (gb_li (q_al 0) (gb_li (q_gf 0 1) (gb_li (q_gf 2 3) (q_cge (l_X0_serveFrom_112 r) (gb_li (q_al 0) (gb_li (q_il 2) (gb_li (q_il 1) (gb_li (q_cv 2 0 2 f_X0_canDraw) (q_zeq (l_X0_serveFrom_106 r) (gb_li (q_al 0) (gb_li (q_gf 0 3) (gb_li (q_il 1) (gb_li (q_il 2) (gb_li q_iast (gb_li (q_al 0) (gb_li (q_gf 0 2) (gb_li (q_il 2) (gb_li q_dup2 (gb_li q_iald (gb_li (q_al 0) (gb_li (q_gf 0 1) (gb_li (q_gf 2 1) (gb_li (q_il 1) (gb_li q_iald (gb_li (q_ib _) (l_X0_serveFrom_80 r)))))))))))))))))))))))))))))))
theorem s_X0_serveFrom_27 {R : Room} {r : gb_F} {fr lo : Nat} (hr : (∀ l, gb_Met l yX0_serveFrom cX0_serveFrom 3 none 0 (gb_rm fr lo) r) ∧ fr + 1 ≤ R.frames ∧ 8 + (3 + 11) + lo ≤ R.locals) (hR : 2 ≤ R.frames ∧ 48 ≤ R.locals) {κ : gb_K} (hκ : ∀ q, gb_S RX0 cX0_serveFrom 3 R 0 q (κ q)) : gb_S RX0 cX0_serveFrom 3 R 0 27 (k_X0_serveFrom_27 r κ) := (s_iln 2 rfl dX0_serveFrom_27 (s_bipush (by decide +kernel) dX0_serveFrom_28 (s_cge (tgt := 112) (by decide +kernel) dX0_serveFrom_30 (s_X0_serveFrom_112 hr hR hκ) (s_aln 0 rfl dX0_serveFrom_33 (s_gf (T := TX0) winX0 rfl (Nat.le_of_ble_eq_true rfl) gw_0 rfl dX0_serveFrom_34 (s_aln 0 rfl dX0_serveFrom_37 (s_gf (T := TX0) winX0 rfl (Nat.le_of_ble_eq_true rfl) gw_1 rfl dX0_serveFrom_38 (s_gf (T := TX2) winX2 rfl (Nat.le_of_ble_eq_true rfl) gw_2 rfl dX0_serveFrom_41 (s_cge (tgt := 112) (by decide +kernel) dX0_serveFrom_44 (s_X0_serveFrom_112 hr hR hκ) (s_aln 0 rfl dX0_serveFrom_47 (s_iln 2 rfl dX0_serveFrom_48 (s_iln 1 rfl dX0_serveFrom_49 (s_cv (C := RX0) c_X0_canDraw rfl (gb_l5 gw_34 gw_35 gw_36 gw_29 gw_37) v_X0_canDraw ⟨rfl, rfl⟩ ⟨Nat.le_trans (Nat.le_of_ble_eq_true rfl) hR.1, Nat.le_trans (Nat.le_of_ble_eq_true rfl) hR.2⟩ dX0_serveFrom_50 (s_zeq (tgt := 106) (by decide +kernel) dX0_serveFrom_53 (s_X0_serveFrom_106 hr hR hκ) (s_aln 0 rfl dX0_serveFrom_56 (s_gf (T := TX0) winX0 rfl (Nat.le_of_ble_eq_true rfl) gw_4 rfl dX0_serveFrom_57 (s_iln 1 rfl dX0_serveFrom_60 (s_iln 2 rfl dX0_serveFrom_61 (s_iast dX0_serveFrom_62 (s_aln 0 rfl dX0_serveFrom_63 (s_gf (T := TX0) winX0 rfl (Nat.le_of_ble_eq_true rfl) gw_14 rfl dX0_serveFrom_64 (s_iln 2 rfl dX0_serveFrom_67 (s_dup2 dX0_serveFrom_68 (s_iald dX0_serveFrom_69 (s_aln 0 rfl dX0_serveFrom_70 (s_gf (T := TX0) winX0 rfl (Nat.le_of_ble_eq_true rfl) gw_1 rfl dX0_serveFrom_71 (s_gf (T := TX2) winX2 rfl (Nat.le_of_ble_eq_true rfl) gw_13 rfl dX0_serveFrom_74 (s_iln 1 rfl dX0_serveFrom_77 (s_iald dX0_serveFrom_78 (s_iadd dX0_serveFrom_79 (s_X0_serveFrom_80 hr hR hκ)))))))))))))))))))))))))))))))
noncomputable def B_X0_serveFrom (r : gb_F) : List (Nat × (gb_K → gb_C)) := [(27, fun κ => k_X0_serveFrom_27 r κ)]
noncomputable def K_X0_serveFrom (r : gb_F) : gb_K := gb_fx (gb_tb (B_X0_serveFrom r))
theorem L_X0_serveFrom (r : gb_F) : ∀ q, gb_Li (fun κ => gb_tb (B_X0_serveFrom r) κ q) := gb_tb_li (List.forall_mem_cons.mpr ⟨l_X0_serveFrom_27 r, (fun _ h => absurd h List.not_mem_nil)⟩)
theorem S_X0_serveFrom {R : Room} {r : gb_F} {fr lo : Nat} (hr : (∀ l, gb_Met l yX0_serveFrom cX0_serveFrom 3 none 0 (gb_rm fr lo) r) ∧ fr + 1 ≤ R.frames ∧ 8 + (3 + 11) + lo ≤ R.locals) (hR : 2 ≤ R.frames ∧ 48 ≤ R.locals) : ∀ q, gb_S RX0 cX0_serveFrom 3 R 0 q (K_X0_serveFrom r q) := fun q => gb_fx_S (L_X0_serveFrom r) (gb_tb_S (List.forall_mem_cons.mpr ⟨fun κ hκ => s_X0_serveFrom_27 hr hR hκ, (fun _ h => absurd h List.not_mem_nil)⟩)) q
noncomputable def g_X0_serveFrom : Nat → gb_F
  | 0 => fun _ _ => none
  | n + 1 => gb_mf 3 (k_X0_serveFrom_0 (g_X0_serveFrom n) (K_X0_serveFrom (g_X0_serveFrom n)))
theorem h_X0_serveFrom : ∀ (n : Nat) l, gb_Met l yX0_serveFrom cX0_serveFrom 3 none 0 (gb_rm (2 + n) (48 + 22 * n)) (g_X0_serveFrom n)
  | 0 => gb_met0
  | n + 1 => gb_met (own := RX0) (rk := 0) rfl (by decide +kernel) ⟨rfl, rfl⟩ (s_X0_serveFrom_0 ⟨h_X0_serveFrom n, by show _ ≤ _ + (n + 1); omega, by show _ ≤ _ + 22 * (n + 1); omega⟩ ⟨by show _ ≤ _ + (n + 1); omega, by show _ ≤ _ + 22 * (n + 1); omega⟩ (S_X0_serveFrom ⟨h_X0_serveFrom n, by show _ ≤ _ + (n + 1); omega, by show _ ≤ _ + 22 * (n + 1); omega⟩ ⟨by show _ ≤ _ + (n + 1); omega, by show _ ≤ _ + 22 * (n + 1); omega⟩))
noncomputable def f_X0_serveFrom : gb_F := gb_hide (g_X0_serveFrom 8)
theorem c_X0_serveFrom : ∀ l, gb_Met l yX0_serveFrom cX0_serveFrom 3 none 0 (gb_rm 10 224) f_X0_serveFrom := gb_hide_c (h_X0_serveFrom 8)
theorem dX0_serve_0 : decode cX0_serve 0 = .ok (.aload_n 0, 1) := by decide +kernel
theorem dX0_serve_1 : decode cX0_serve 1 = .ok (.iconst 0, 1) := by decide +kernel
theorem dX0_serve_2 : decode cX0_serve 2 = .ok (.putfield 31, 3) := by decide +kernel
theorem dX0_serve_5 : decode cX0_serve 5 = .ok (.aload_n 0, 1) := by decide +kernel
theorem dX0_serve_6 : decode cX0_serve 6 = .ok (.iconst 0, 1) := by decide +kernel
theorem dX0_serve_7 : decode cX0_serve 7 = .ok (.invokestatic 35, 3) := by decide +kernel
theorem dX0_serve_10 : decode cX0_serve 10 = .ok (.aload_n 0, 1) := by decide +kernel
theorem dX0_serve_11 : decode cX0_serve 11 = .ok (.getfield 31, 3) := by decide +kernel
theorem dX0_serve_14 : decode cX0_serve 14 = .ok (.ireturn, 1) := by decide +kernel
theorem v_X0_serve : yX0_serve.cls = RX0 ∧ yX0_serve.cls ≠ "java/lang/invoke/MethodHandle" ∧ yX0_serve.cls ≠ "java/lang/invoke/VarHandle" ∧ (parseMethodDescriptor yX0_serve.desc).map (fun d => d.parameters.length) = some 0 := ⟨rfl, by decide +kernel, by decide +kernel, by decide +kernel⟩
noncomputable def k_X0_serve_0 (κ : gb_K) : gb_C := (o_al 0 (o_ci 0 (o_pf 0 5 (o_al 0 (o_ci 0 (o_cs 2 0 f_X0_serveFrom (o_al 0 (o_gf 0 5 o_ri))))))))
theorem l_X0_serve_0 : gb_Li (fun κ => k_X0_serve_0 κ) := (gb_li (q_al 0) (gb_li (q_ci 0) (gb_li (q_pf 0 5) (gb_li (q_al 0) (gb_li (q_ci 0) (gb_li (q_cs 2 0 f_X0_serveFrom) (gb_li (q_al 0) (gb_li (q_gf 0 5) (gb_li0 _)))))))))
theorem s_X0_serve_0   {κ : gb_K} (hκ : ∀ q, gb_S RX0 cX0_serve 1 (gb_rm 11 246) 1 q (κ q)) : gb_S RX0 cX0_serve 1 (gb_rm 11 246) 1 0 (k_X0_serve_0 κ) := (s_aln 0 rfl dX0_serve_0 (s_iconst (by decide +kernel) dX0_serve_1 (s_pf (T := TX0) winX0 rfl (Nat.le_of_ble_eq_true rfl) tyX0_ok nmX0 rfl (by decide +kernel) gw_0 rfl dX0_serve_2 (s_aln 0 rfl dX0_serve_5 (s_iconst (by decide +kernel) dX0_serve_6 (s_cs c_X0_serveFrom (gb_l4 gw_31 gw_32 gw_29 gw_33) v_X0_serveFrom.2 ⟨rfl, rfl⟩ ⟨Nat.le_of_ble_eq_true rfl, Nat.le_of_ble_eq_true rfl⟩ dX0_serve_7 (s_aln 0 rfl dX0_serve_10 (s_gf (T := TX0) winX0 rfl (Nat.le_of_ble_eq_true rfl) gw_0 rfl dX0_serve_11 (s_ri rfl dX0_serve_14)))))))))
noncomputable def f_X0_serve : gb_F := gb_hide (gb_mf 1 (k_X0_serve_0 gb_n))
theorem c_X0_serve : ∀ l, gb_Met l yX0_serve cX0_serve 1 (some .int) 1 (gb_rm 11 246) f_X0_serve := gb_hide_c (gb_met (own := RX0) (rk := 1) rfl (by decide +kernel) ⟨rfl, rfl⟩ (s_X0_serve_0 gb_S_n))
theorem dX0_pickFrom_0 : decode cX0_pickFrom 0 = .ok (.iload_n 2, 1) := by decide +kernel
theorem dX0_pickFrom_1 : decode cX0_pickFrom 1 = .ok (.aload_n 0, 1) := by decide +kernel
theorem dX0_pickFrom_2 : decode cX0_pickFrom 2 = .ok (.getfield 27, 3) := by decide +kernel
theorem dX0_pickFrom_5 : decode cX0_pickFrom 5 = .ok (.getfield 69, 3) := by decide +kernel
theorem dX0_pickFrom_8 : decode cX0_pickFrom 8 = .ok (.iadd, 1) := by decide +kernel
theorem dX0_pickFrom_9 : decode cX0_pickFrom 9 = .ok (.iload_n 1, 1) := by decide +kernel
theorem dX0_pickFrom_10 : decode cX0_pickFrom 10 = .ok (.isub, 1) := by decide +kernel
theorem dX0_pickFrom_11 : decode cX0_pickFrom 11 = .ok (.aload_n 0, 1) := by decide +kernel
theorem dX0_pickFrom_12 : decode cX0_pickFrom 12 = .ok (.getfield 31, 3) := by decide +kernel
theorem dX0_pickFrom_15 : decode cX0_pickFrom 15 = .ok (.if_icmp .le 14, 3) := by decide +kernel
theorem dX0_pickFrom_18 : decode cX0_pickFrom 18 = .ok (.iload_n 1, 1) := by decide +kernel
theorem dX0_pickFrom_19 : decode cX0_pickFrom 19 = .ok (.aload_n 0, 1) := by decide +kernel
theorem dX0_pickFrom_20 : decode cX0_pickFrom 20 = .ok (.getfield 27, 3) := by decide +kernel
theorem dX0_pickFrom_23 : decode cX0_pickFrom 23 = .ok (.getfield 69, 3) := by decide +kernel
theorem dX0_pickFrom_26 : decode cX0_pickFrom 26 = .ok (.if_icmp .le 4, 3) := by decide +kernel
theorem dX0_pickFrom_29 : decode cX0_pickFrom 29 = .ok (.return_, 1) := by decide +kernel
theorem dX0_pickFrom_30 : decode cX0_pickFrom 30 = .ok (.iload_n 1, 1) := by decide +kernel
theorem dX0_pickFrom_31 : decode cX0_pickFrom 31 = .ok (.aload_n 0, 1) := by decide +kernel
theorem dX0_pickFrom_32 : decode cX0_pickFrom 32 = .ok (.getfield 27, 3) := by decide +kernel
theorem dX0_pickFrom_35 : decode cX0_pickFrom 35 = .ok (.getfield 69, 3) := by decide +kernel
theorem dX0_pickFrom_38 : decode cX0_pickFrom 38 = .ok (.if_icmp .ne 9, 3) := by decide +kernel
theorem dX0_pickFrom_41 : decode cX0_pickFrom 41 = .ok (.aload_n 0, 1) := by decide +kernel
theorem dX0_pickFrom_42 : decode cX0_pickFrom 42 = .ok (.iload_n 2, 1) := by decide +kernel
theorem dX0_pickFrom_43 : decode cX0_pickFrom 43 = .ok (.invokevirtual 72, 3) := by decide +kernel
theorem dX0_pickFrom_46 : decode cX0_pickFrom 46 = .ok (.return_, 1) := by decide +kernel
theorem dX0_pickFrom_47 : decode cX0_pickFrom 47 = .ok (.iconst 0, 1) := by decide +kernel
theorem dX0_pickFrom_48 : decode cX0_pickFrom 48 = .ok (.istore_n 3, 1) := by decide +kernel
theorem dX0_pickFrom_49 : decode cX0_pickFrom 49 = .ok (.iload_n 3, 1) := by decide +kernel
theorem dX0_pickFrom_50 : decode cX0_pickFrom 50 = .ok (.bipush 6, 2) := by decide +kernel
theorem dX0_pickFrom_52 : decode cX0_pickFrom 52 = .ok (.if_icmp .ge 71, 3) := by decide +kernel
theorem dX0_pickFrom_55 : decode cX0_pickFrom 55 = .ok (.aload_n 0, 1) := by decide +kernel
theorem dX0_pickFrom_56 : decode cX0_pickFrom 56 = .ok (.iload_n 3, 1) := by decide +kernel
theorem dX0_pickFrom_57 : decode cX0_pickFrom 57 = .ok (.iload_n 1, 1) := by decide +kernel
theorem dX0_pickFrom_58 : decode cX0_pickFrom 58 = .ok (.invokevirtual 76, 3) := by decide +kernel
theorem dX0_pickFrom_61 : decode cX0_pickFrom 61 = .ok (.ifCond .eq 56, 3) := by decide +kernel
theorem dX0_pickFrom_64 : decode cX0_pickFrom 64 = .ok (.aload_n 0, 1) := by decide +kernel
theorem dX0_pickFrom_65 : decode cX0_pickFrom 65 = .ok (.getfield 17, 3) := by decide +kernel
theorem dX0_pickFrom_68 : decode cX0_pickFrom 68 = .ok (.iload_n 1, 1) := by decide +kernel
theorem dX0_pickFrom_69 : decode cX0_pickFrom 69 = .ok (.iload_n 3, 1) := by decide +kernel
theorem dX0_pickFrom_70 : decode cX0_pickFrom 70 = .ok (.iastore, 1) := by decide +kernel
theorem dX0_pickFrom_71 : decode cX0_pickFrom 71 = .ok (.aload_n 0, 1) := by decide +kernel
theorem dX0_pickFrom_72 : decode cX0_pickFrom 72 = .ok (.getfield 9, 3) := by decide +kernel
theorem dX0_pickFrom_75 : decode cX0_pickFrom 75 = .ok (.iload_n 3, 1) := by decide +kernel
theorem dX0_pickFrom_76 : decode cX0_pickFrom 76 = .ok (.dup2, 1) := by decide +kernel
theorem dX0_pickFrom_77 : decode cX0_pickFrom 77 = .ok (.iaload, 1) := by decide +kernel
theorem dX0_pickFrom_78 : decode cX0_pickFrom 78 = .ok (.aload_n 0, 1) := by decide +kernel
theorem dX0_pickFrom_79 : decode cX0_pickFrom 79 = .ok (.getfield 27, 3) := by decide +kernel
theorem dX0_pickFrom_82 : decode cX0_pickFrom 82 = .ok (.getfield 49, 3) := by decide +kernel
theorem dX0_pickFrom_85 : decode cX0_pickFrom 85 = .ok (.iload_n 1, 1) := by decide +kernel
theorem dX0_pickFrom_86 : decode cX0_pickFrom 86 = .ok (.iaload, 1) := by decide +kernel
theorem dX0_pickFrom_87 : decode cX0_pickFrom 87 = .ok (.iadd, 1) := by decide +kernel
theorem dX0_pickFrom_88 : decode cX0_pickFrom 88 = .ok (.iastore, 1) := by decide +kernel
theorem dX0_pickFrom_89 : decode cX0_pickFrom 89 = .ok (.aload_n 0, 1) := by decide +kernel
theorem dX0_pickFrom_90 : decode cX0_pickFrom 90 = .ok (.iload_n 1, 1) := by decide +kernel
theorem dX0_pickFrom_91 : decode cX0_pickFrom 91 = .ok (.iconst 1, 1) := by decide +kernel
theorem dX0_pickFrom_92 : decode cX0_pickFrom 92 = .ok (.iadd, 1) := by decide +kernel
theorem dX0_pickFrom_93 : decode cX0_pickFrom 93 = .ok (.iload_n 2, 1) := by decide +kernel
theorem dX0_pickFrom_94 : decode cX0_pickFrom 94 = .ok (.iconst 1, 1) := by decide +kernel
theorem dX0_pickFrom_95 : decode cX0_pickFrom 95 = .ok (.iadd, 1) := by decide +kernel
theorem dX0_pickFrom_96 : decode cX0_pickFrom 96 = .ok (.invokestatic 39, 3) := by decide +kernel
theorem dX0_pickFrom_99 : decode cX0_pickFrom 99 = .ok (.aload_n 0, 1) := by decide +kernel
theorem dX0_pickFrom_100 : decode cX0_pickFrom 100 = .ok (.getfield 9, 3) := by decide +kernel
theorem dX0_pickFrom_103 : decode cX0_pickFrom 103 = .ok (.iload_n 3, 1) := by decide +kernel
theorem dX0_pickFrom_104 : decode cX0_pickFrom 104 = .ok (.dup2, 1) := by decide +kernel
theorem dX0_pickFrom_105 : decode cX0_pickFrom 105 = .ok (.iaload, 1) := by decide +kernel
theorem dX0_pickFrom_106 : decode cX0_pickFrom 106 = .ok (.aload_n 0, 1) := by decide +kernel
theorem dX0_pickFrom_107 : decode cX0_pickFrom 107 = .ok (.getfield 27, 3) := by decide +kernel
theorem dX0_pickFrom_110 : decode cX0_pickFrom 110 = .ok (.getfield 49, 3) := by decide +kernel
theorem dX0_pickFrom_113 : decode cX0_pickFrom 113 = .ok (.iload_n 1, 1) := by decide +kernel
theorem dX0_pickFrom_114 : decode cX0_pickFrom 114 = .ok (.iaload, 1) := by decide +kernel
theorem dX0_pickFrom_115 : decode cX0_pickFrom 115 = .ok (.isub, 1) := by decide +kernel
theorem dX0_pickFrom_116 : decode cX0_pickFrom 116 = .ok (.iastore, 1) := by decide +kernel
theorem dX0_pickFrom_117 : decode cX0_pickFrom 117 = .ok (.iinc 3 1, 3) := by decide +kernel
theorem dX0_pickFrom_120 : decode cX0_pickFrom 120 = .ok (.goto (-71), 3) := by decide +kernel
theorem dX0_pickFrom_123 : decode cX0_pickFrom 123 = .ok (.aload_n 0, 1) := by decide +kernel
theorem dX0_pickFrom_124 : decode cX0_pickFrom 124 = .ok (.getfield 17, 3) := by decide +kernel
theorem dX0_pickFrom_127 : decode cX0_pickFrom 127 = .ok (.iload_n 1, 1) := by decide +kernel
theorem dX0_pickFrom_128 : decode cX0_pickFrom 128 = .ok (.bipush 6, 2) := by decide +kernel
theorem dX0_pickFrom_130 : decode cX0_pickFrom 130 = .ok (.iastore, 1) := by decide +kernel
theorem dX0_pickFrom_131 : decode cX0_pickFrom 131 = .ok (.aload_n 0, 1) := by decide +kernel
theorem dX0_pickFrom_132 : decode cX0_pickFrom 132 = .ok (.iload_n 1, 1) := by decide +kernel
theorem dX0_pickFrom_133 : decode cX0_pickFrom 133 = .ok (.iconst 1, 1) := by decide +kernel
theorem dX0_pickFrom_134 : decode cX0_pickFrom 134 = .ok (.iadd, 1) := by decide +kernel
theorem dX0_pickFrom_135 : decode cX0_pickFrom 135 = .ok (.iload_n 2, 1) := by decide +kernel
theorem dX0_pickFrom_136 : decode cX0_pickFrom 136 = .ok (.invokestatic 39, 3) := by decide +kernel
theorem dX0_pickFrom_139 : decode cX0_pickFrom 139 = .ok (.return_, 1) := by decide +kernel
theorem v_X0_pickFrom : yX0_pickFrom.cls = RX0 ∧ yX0_pickFrom.cls ≠ "java/lang/invoke/MethodHandle" ∧ yX0_pickFrom.cls ≠ "java/lang/invoke/VarHandle" ∧ (parseMethodDescriptor yX0_pickFrom.desc).map (fun d => d.parameters.length) = some 3 := ⟨rfl, by decide +kernel, by decide +kernel, by decide +kernel⟩
noncomputable def k_X0_pickFrom_29 (r : gb_F) (κ : gb_K) : gb_C := o_rv
theorem l_X0_pickFrom_29 (r : gb_F) : gb_Li (fun κ => k_X0_pickFrom_29 r κ) := (gb_li0 _)
theorem s_X0_pickFrom_29 {R : Room} {r : gb_F} {fr lo : Nat} (hr : (∀ l, gb_Met l yX0_pickFrom cX0_pickFrom 4 none 0 (gb_rm fr lo) r) ∧ fr + 1 ≤ R.frames ∧ 8 + (4 + 11) + lo ≤ R.locals) (hR : 2 ≤ R.frames ∧ 48 ≤ R.locals) {κ : gb_K} (hκ : ∀ q, gb_S RX0 cX0_pickFrom 4 R 0 q (κ q)) : gb_S RX0 cX0_pickFrom 4 R 0 29 (k_X0_pickFrom_29 r κ) := (s_rv rfl dX0_pickFrom_29)
noncomputable def k_X0_pickFrom_0 (r : gb_F) (κ : gb_K) : gb_C := (o_il 2 (o_al 0 (o_gf 0 1 (o_gf 2 3 (o_ib (fun x y => x + y) (o_il 1 (o_ib (fun x y => x - y) (o_al 0 (o_gf 0 5 (o_cle (k_X0_pickFrom_29 r κ) (o_il 1 (o_al 0 (o_gf 0 1 (o_gf 2 3 (o_cle (o_il 1 (o_al 0 (o_gf 0 1 (o_gf 2 3 (o_ceq (o_al 0 (o_il 2 (o_cv 1 0 0 f_X0_takeWay o_rv))) (o_ci 0 (o_is 3 (o_j [0, 1, 2, 3] (κ 49))))))))) (k_X0_pickFrom_29 r κ))))))))))))))))
theorem l_X0_pickFrom_0 (r : gb_F) : gb_Li (fun κ => k_X0_pickFrom_0 r κ) := (gb_li (q_il 2) (gb_li (q_al 0) (gb_li (q_gf 0 1) (gb_li (q_gf 2 3) (gb_li (q_ib _) (gb_li (q_il 1) (gb_li (q_ib _) (gb_li (q_al 0) (gb_li (q_gf 0 5) (q_cle (l_X0_pickFrom_29 r) (gb_li (q_il 1) (gb_li (q_al 0) (gb_li (q_gf 0 1) (gb_li (q_gf 2 3) (q_cle (gb_li (q_il 1) (gb_li (q_al 0) (gb_li (q_gf 0 1) (gb_li (q_gf 2 3) (q_ceq (gb_li (q_al 0) (gb_li (q_il 2) (gb_li (q_cv 1 0 0 f_X0_takeWay) (gb_li0 _)))) (gb_li (q_ci 0) (gb_li (q_is 3) (q_j [0, 1, 2, 3] 49)))))))) (l_X0_pickFrom_29 r))))))))))))))))
theorem s_X0_pickFrom_0 {R : Room} {r : gb_F} {fr lo : Nat} (hr : (∀ l, gb_Met l yX0_pickFrom cX0_pickFrom 4 none 0 (gb_rm fr lo) r) ∧ fr + 1 ≤ R.frames ∧ 8 + (4 + 11) + lo ≤ R.locals) (hR : 2 ≤ R.frames ∧ 48 ≤ R.locals) {κ : gb_K} (hκ : ∀ q, gb_S RX0 cX0_pickFrom 4 R 0 q (κ q)) : gb_S RX0 cX0_pickFrom 4 R 0 0 (k_X0_pickFrom_0 r κ) := (s_iln 2 rfl dX0_pickFrom_0 (s_aln 0 rfl dX0_pickFrom_1 (s_gf (T := TX0) winX0 rfl (Nat.le_of_ble_eq_true rfl) gw_1 rfl dX0_pickFrom_2 (s_gf (T := TX2) winX2 rfl (Nat.le_of_ble_eq_true rfl) gw_2 rfl dX0_pickFrom_5 (s_iadd dX0_pickFrom_8 (s_iln 1 rfl dX0_pickFrom_9 (s_isub dX0_pickFrom_10 (s_aln 0 rfl dX0_pickFrom_11 (s_gf (T := TX0) winX0 rfl (Nat.le_of_ble_eq_true rfl) gw_0 rfl dX0_pickFrom_12 (s_cle (tgt := 29) (by decide +kernel) dX0_pickFrom_15 (s_X0_pickFrom_29 hr hR hκ) (s_iln 1 rfl dX0_pickFrom_18 (s_aln 0 rfl dX0_pickFrom_19 (s_gf (T := TX0) winX0 rfl (Nat.le_of_ble_eq_true rfl) gw_1 rfl dX0_pickFrom_20 (s_gf (T := TX2) winX2 rfl (Nat.le_of_ble_eq_true rfl) gw_2 rfl dX0_pickFrom_23 (s_cle (tgt := 30) (by decide +kernel) dX0_pickFrom_26 (s_iln 1 rfl dX0_pickFrom_30 (s_aln 0 rfl dX0_pickFrom_31 (s_gf (T := TX0) winX0 rfl (Nat.le_of_ble_eq_true rfl) gw_1 rfl dX0_pickFrom_32 (s_gf (T := TX2) winX2 rfl (Nat.le_of_ble_eq_true rfl) gw_2 rfl dX0_pickFrom_35 (s_cne (tgt := 47) (by decide +kernel) dX0_pickFrom_38 (s_iconst (by decide +kernel) dX0_pickFrom_47 (s_isn 3 rfl (Nat.le_of_ble_eq_true rfl) dX0_pickFrom_48 (s_j (hκ 49)))) (s_aln 0 rfl dX0_pickFrom_41 (s_iln 2 rfl dX0_pickFrom_42 (s_cv (C := RX0) c_X0_takeWay rfl (gb_l5 gw_26 gw_27 gw_28 gw_29 gw_30) v_X0_takeWay ⟨rfl, rfl⟩ ⟨Nat.le_trans (Nat.le_of_ble_eq_true rfl) hR.1, Nat.le_trans (Nat.le_of_ble_eq_true rfl) hR.2⟩ dX0_pickFrom_43 (s_rv rfl dX0_pickFrom_46))))))))) (s_X0_pickFrom_29 hr hR hκ))))))))))))))))
noncomputable def k_X0_pickFrom_117 (r : gb_F) (κ : gb_K) : gb_C := (o_inc 3 1 (o_j [0, 1, 2, 3] (κ 49)))
theorem l_X0_pickFrom_117 (r : gb_F) : gb_Li (fun κ => k_X0_pickFrom_117 r κ) := (gb_li (q_inc 3 1) (q_j [0, 1, 2, 3] 49))
theorem s_X0_pickFrom_117 {R : Room} {r : gb_F} {fr lo : Nat} (hr : (∀ l, gb_Met l yX0_pickFrom cX0_pickFrom 4 none 0 (gb_rm fr lo) r) ∧ fr + 1 ≤ R.frames ∧ 8 + (4 + 11) + lo ≤ R.locals) (hR : 2 ≤ R.frames ∧ 48 ≤ R.locals) {κ : gb_K} (hκ : ∀ q, gb_S RX0 cX0_pickFrom 4 R 0 q (κ q)) : gb_S RX0 cX0_pickFrom 4 R 0 117 (k_X0_pickFrom_117 r κ) := (s_inc (by decide +kernel) (Nat.le_of_ble_eq_true rfl) dX0_pickFrom_117 (s_goto (tgt := 49) (by decide +kernel) dX0_pickFrom_120 (s_j (hκ 49))))
noncomputable def k_X0_pickFrom_94 (r : gb_F) (κ : gb_K) : gb_C := (o_ci 1 (o_ib (fun x y => x + y) (o_cs 3 0 r (o_al 0 (o_gf 0 2 (o_il 3 (o_dup2 (o_iald (o_al 0 (o_gf 0 1 (o_gf 2 1 (o_il 1 (o_iald (o_ib (fun x y => x - y) (o_iast (k_X0_pickFrom_117 r κ))))))))))))))))
theorem l_X0_pickFrom_94 (r : gb_F) : gb_Li (fun κ => k_X0_pickFrom_94 r κ) := (gb_li (q_ci 1) (gb_li (q_ib _) (gb_li (q_cs 3 0 r) (gb_li (q_al 0) (gb_li (q_gf 0 2) (gb_li (q_il 3) (gb_li q_dup2 (gb_li q_iald (gb_li (q_al 0) (gb_li (q_gf 0 1) (gb_li (q_gf 2 1) (gb_li (q_il 1) (gb_li q_iald (gb_li (q_ib _) (gb_li q_iast (l_X0_pickFrom_117 r))))))))))))))))
theorem s_X0_pickFrom_94 {R : Room} {r : gb_F} {fr lo : Nat} (hr : (∀ l, gb_Met l yX0_pickFrom cX0_pickFrom 4 none 0 (gb_rm fr lo) r) ∧ fr + 1 ≤ R.frames ∧ 8 + (4 + 11) + lo ≤ R.locals) (hR : 2 ≤ R.frames ∧ 48 ≤ R.locals) {κ : gb_K} (hκ : ∀ q, gb_S RX0 cX0_pickFrom 4 R 0 q (κ q)) : gb_S RX0 cX0_pickFrom 4 R 0 94 (k_X0_pickFrom_94 r κ) := (s_iconst (by decide +kernel) dX0_pickFrom_94 (s_iadd dX0_pickFrom_95 (s_cs hr.1 (gb_l4 gw_38 gw_39 gw_29 gw_40) v_X0_pickFrom.2 ⟨rfl, rfl⟩ ⟨hr.2.1, hr.2.2⟩ dX0_pickFrom_96 (s_aln 0 rfl dX0_pickFrom_99 (s_gf (T := TX0) winX0 rfl (Nat.le_of_ble_eq_true rfl) gw_14 rfl dX0_pickFrom_100 (s_iln 3 rfl dX0_pickFrom_103 (s_dup2 dX0_pickFrom_104 (s_iald dX0_pickFrom_105 (s_aln 0 rfl dX0_pickFrom_106 (s_gf (T := TX0) winX0 rfl (Nat.le_of_ble_eq_true rfl) gw_1 rfl dX0_pickFrom_107 (s_gf (T := TX2) winX2 rfl (Nat.le_of_ble_eq_true rfl) gw_13 rfl dX0_pickFrom_110 (s_iln 1 rfl dX0_pickFrom_113 (s_iald dX0_pickFrom_114 (s_isub dX0_pickFrom_115 (s_iast dX0_pickFrom_116 (s_X0_pickFrom_117 hr hR hκ))))))))))))))))
noncomputable def k_X0_pickFrom_49 (r : gb_F) (κ : gb_K) : gb_C := (o_il 3 (o_ci 6 (o_cge (o_al 0 (o_gf 0 3 (o_il 1 (o_ci 6 (o_iast (o_al 0 (o_il 1 (o_ci 1 (o_ib (fun x y => x + y) (o_il 2 (o_cs 3 0 r o_rv))))))))))) (o_al 0 (o_il 3 (o_il 1 (o_cv 2 0 2 f_X0_canDraw (o_zeq (k_X0_pickFrom_117 r κ) (o_al 0 (o_gf 0 3 (o_il 1 (o_il 3 (o_iast (o_al 0 (o_gf 0 2 (o_il 3 (o_dup2 (o_iald (o_al 0 (o_gf 0 1 (o_gf 2 1 (o_il 1 (o_iald (o_ib (fun x y => x + y) (o_iast (o_al 0 (o_il 1 (o_ci 1 (o_ib (fun x y => x + y) (o_il 2 (k_X0_pickFrom_94 r κ)))))))))))))))))))))))))))))))
theorem l_X0_pickFrom_49 (r : gb_F) : gb_Li (fun κ => k_X0_pickFrom_49 r κ) := (gb_li (q_il 3) (gb_li (q_ci 6) (q_cge (gb_li (q_al 0) (gb_li (q_gf 0 3) (gb_li (q_il 1) (gb_li (q_ci 6) (gb_li q_iast (gb_li (q_al 0) (gb_li (q_il 1) (gb_li (q_ci 1) (gb_li (q_ib _) (gb_li (q_il 2) (gb_li (q_cs 3 0 r) (gb_li0 _)))))))))))) (gb_li (q_al 0) (gb_li (q_il 3) (gb_li (q_il 1) (gb_li (q_cv 2 0 2 f_X0_canDraw) (q_zeq (l_X0_pickFrom_117 r) (gb_li (q_al 0) (gb_li (q_gf 0 3) (gb_li (q_il 1) (gb_li (q_il 3) (gb_li q_iast (gb_li (q_al 0) (gb_li (q_gf 0 2) (gb_li (q_il 3) (gb_li q_dup2 (gb_li q_iald (gb_li (q_al 0) (gb_li (q_gf 0 1) (gb_li (q_gf 2 1) (gb_li (q_il 1) (gb_li q_iald (gb_li (q_ib _) (gb_li q_iast (gb_li (q_al 0) (gb_li (q_il 1) (gb_li (q_ci 1) (gb_li (q_ib _) (gb_li (q_il 2) (l_X0_pickFrom_94 r)))))))))))))))))))))))))))))))
theorem s_X0_pickFrom_49 {R : Room} {r : gb_F} {fr lo : Nat} (hr : (∀ l, gb_Met l yX0_pickFrom cX0_pickFrom 4 none 0 (gb_rm fr lo) r) ∧ fr + 1 ≤ R.frames ∧ 8 + (4 + 11) + lo ≤ R.locals) (hR : 2 ≤ R.frames ∧ 48 ≤ R.locals) {κ : gb_K} (hκ : ∀ q, gb_S RX0 cX0_pickFrom 4 R 0 q (κ q)) : gb_S RX0 cX0_pickFrom 4 R 0 49 (k_X0_pickFrom_49 r κ) := (s_iln 3 rfl dX0_pickFrom_49 (s_bipush (by decide +kernel) dX0_pickFrom_50 (s_cge (tgt := 123) (by decide +kernel) dX0_pickFrom_52 (s_aln 0 rfl dX0_pickFrom_123 (s_gf (T := TX0) winX0 rfl (Nat.le_of_ble_eq_true rfl) gw_4 rfl dX0_pickFrom_124 (s_iln 1 rfl dX0_pickFrom_127 (s_bipush (by decide +kernel) dX0_pickFrom_128 (s_iast dX0_pickFrom_130 (s_aln 0 rfl dX0_pickFrom_131 (s_iln 1 rfl dX0_pickFrom_132 (s_iconst (by decide +kernel) dX0_pickFrom_133 (s_iadd dX0_pickFrom_134 (s_iln 2 rfl dX0_pickFrom_135 (s_cs hr.1 (gb_l4 gw_38 gw_39 gw_29 gw_40) v_X0_pickFrom.2 ⟨rfl, rfl⟩ ⟨hr.2.1, hr.2.2⟩ dX0_pickFrom_136 (s_rv rfl dX0_pickFrom_139)))))))))))) (s_aln 0 rfl dX0_pickFrom_55 (s_iln 3 rfl dX0_pickFrom_56 (s_iln 1 rfl dX0_pickFrom_57 (s_cv (C := RX0) c_X0_canDraw rfl (gb_l5 gw_34 gw_35 gw_36 gw_29 gw_37) v_X0_canDraw ⟨rfl, rfl⟩ ⟨Nat.le_trans (Nat.le_of_ble_eq_true rfl) hR.1, Nat.le_trans (Nat.le_of_ble_eq_true rfl) hR.2⟩ dX0_pickFrom_58 (s_zeq (tgt := 117) (by decide +kernel) dX0_pickFrom_61 (s_X0_pickFrom_117 hr hR hκ) (s_aln 0 rfl dX0_pickFrom_64 (s_gf (T := TX0) winX0 rfl (Nat.le_of_ble_eq_true rfl) gw_4 rfl dX0_pickFrom_65 (s_iln 1 rfl dX0_pickFrom_68 (s_iln 3 rfl dX0_pickFrom_69 (s_iast dX0_pickFrom_70 (s_aln 0 rfl dX0_pickFrom_71 (s_gf (T := TX0) winX0 rfl (Nat.le_of_ble_eq_true rfl) gw_14 rfl dX0_pickFrom_72 (s_iln 3 rfl dX0_pickFrom_75 (s_dup2 dX0_pickFrom_76 (s_iald dX0_pickFrom_77 (s_aln 0 rfl dX0_pickFrom_78 (s_gf (T := TX0) winX0 rfl (Nat.le_of_ble_eq_true rfl) gw_1 rfl dX0_pickFrom_79 (s_gf (T := TX2) winX2 rfl (Nat.le_of_ble_eq_true rfl) gw_13 rfl dX0_pickFrom_82 (s_iln 1 rfl dX0_pickFrom_85 (s_iald dX0_pickFrom_86 (s_iadd dX0_pickFrom_87 (s_iast dX0_pickFrom_88 (s_aln 0 rfl dX0_pickFrom_89 (s_iln 1 rfl dX0_pickFrom_90 (s_iconst (by decide +kernel) dX0_pickFrom_91 (s_iadd dX0_pickFrom_92 (s_iln 2 rfl dX0_pickFrom_93 (s_X0_pickFrom_94 hr hR hκ)))))))))))))))))))))))))))))))
noncomputable def B_X0_pickFrom (r : gb_F) : List (Nat × (gb_K → gb_C)) := [(49, fun κ => k_X0_pickFrom_49 r κ)]
noncomputable def K_X0_pickFrom (r : gb_F) : gb_K := gb_fx (gb_tb (B_X0_pickFrom r))
theorem L_X0_pickFrom (r : gb_F) : ∀ q, gb_Li (fun κ => gb_tb (B_X0_pickFrom r) κ q) := gb_tb_li (List.forall_mem_cons.mpr ⟨l_X0_pickFrom_49 r, (fun _ h => absurd h List.not_mem_nil)⟩)
theorem S_X0_pickFrom {R : Room} {r : gb_F} {fr lo : Nat} (hr : (∀ l, gb_Met l yX0_pickFrom cX0_pickFrom 4 none 0 (gb_rm fr lo) r) ∧ fr + 1 ≤ R.frames ∧ 8 + (4 + 11) + lo ≤ R.locals) (hR : 2 ≤ R.frames ∧ 48 ≤ R.locals) : ∀ q, gb_S RX0 cX0_pickFrom 4 R 0 q (K_X0_pickFrom r q) := fun q => gb_fx_S (L_X0_pickFrom r) (gb_tb_S (List.forall_mem_cons.mpr ⟨fun κ hκ => s_X0_pickFrom_49 hr hR hκ, (fun _ h => absurd h List.not_mem_nil)⟩)) q
noncomputable def g_X0_pickFrom : Nat → gb_F
  | 0 => fun _ _ => none
  | n + 1 => gb_mf 4 (k_X0_pickFrom_0 (g_X0_pickFrom n) (K_X0_pickFrom (g_X0_pickFrom n)))
theorem h_X0_pickFrom : ∀ (n : Nat) l, gb_Met l yX0_pickFrom cX0_pickFrom 4 none 0 (gb_rm (2 + n) (48 + 23 * n)) (g_X0_pickFrom n)
  | 0 => gb_met0
  | n + 1 => gb_met (own := RX0) (rk := 0) rfl (by decide +kernel) ⟨rfl, rfl⟩ (s_X0_pickFrom_0 ⟨h_X0_pickFrom n, by show _ ≤ _ + (n + 1); omega, by show _ ≤ _ + 23 * (n + 1); omega⟩ ⟨by show _ ≤ _ + (n + 1); omega, by show _ ≤ _ + 23 * (n + 1); omega⟩ (S_X0_pickFrom ⟨h_X0_pickFrom n, by show _ ≤ _ + (n + 1); omega, by show _ ≤ _ + 23 * (n + 1); omega⟩ ⟨by show _ ≤ _ + (n + 1); omega, by show _ ≤ _ + 23 * (n + 1); omega⟩))
noncomputable def f_X0_pickFrom : gb_F := gb_hide (g_X0_pickFrom 8)
theorem c_X0_pickFrom : ∀ l, gb_Met l yX0_pickFrom cX0_pickFrom 4 none 0 (gb_rm 10 232) f_X0_pickFrom := gb_hide_c (h_X0_pickFrom 8)
theorem dX0_pick_0 : decode cX0_pick 0 = .ok (.aload_n 0, 1) := by decide +kernel
theorem dX0_pick_1 : decode cX0_pick 1 = .ok (.iconst (-1), 1) := by decide +kernel
theorem dX0_pick_2 : decode cX0_pick 2 = .ok (.putfield 31, 3) := by decide +kernel
theorem dX0_pick_5 : decode cX0_pick 5 = .ok (.aload_n 0, 1) := by decide +kernel
theorem dX0_pick_6 : decode cX0_pick 6 = .ok (.iconst 0, 1) := by decide +kernel
theorem dX0_pick_7 : decode cX0_pick 7 = .ok (.iconst 0, 1) := by decide +kernel
theorem dX0_pick_8 : decode cX0_pick 8 = .ok (.invokestatic 39, 3) := by decide +kernel
theorem dX0_pick_11 : decode cX0_pick 11 = .ok (.aload_n 0, 1) := by decide +kernel
theorem dX0_pick_12 : decode cX0_pick 12 = .ok (.getfield 31, 3) := by decide +kernel
theorem dX0_pick_15 : decode cX0_pick 15 = .ok (.ireturn, 1) := by decide +kernel
theorem v_X0_pick : yX0_pick.cls = RX0 ∧ yX0_pick.cls ≠ "java/lang/invoke/MethodHandle" ∧ yX0_pick.cls ≠ "java/lang/invoke/VarHandle" ∧ (parseMethodDescriptor yX0_pick.desc).map (fun d => d.parameters.length) = some 0 := ⟨rfl, by decide +kernel, by decide +kernel, by decide +kernel⟩
noncomputable def k_X0_pick_0 (κ : gb_K) : gb_C := (o_al 0 (o_ci (-1) (o_pf 0 5 (o_al 0 (o_ci 0 (o_ci 0 (o_cs 3 0 f_X0_pickFrom (o_al 0 (o_gf 0 5 o_ri)))))))))
theorem l_X0_pick_0 : gb_Li (fun κ => k_X0_pick_0 κ) := (gb_li (q_al 0) (gb_li (q_ci (-1)) (gb_li (q_pf 0 5) (gb_li (q_al 0) (gb_li (q_ci 0) (gb_li (q_ci 0) (gb_li (q_cs 3 0 f_X0_pickFrom) (gb_li (q_al 0) (gb_li (q_gf 0 5) (gb_li0 _))))))))))
theorem s_X0_pick_0   {κ : gb_K} (hκ : ∀ q, gb_S RX0 cX0_pick 1 (gb_rm 11 255) 1 q (κ q)) : gb_S RX0 cX0_pick 1 (gb_rm 11 255) 1 0 (k_X0_pick_0 κ) := (s_aln 0 rfl dX0_pick_0 (s_iconst (by decide +kernel) dX0_pick_1 (s_pf (T := TX0) winX0 rfl (Nat.le_of_ble_eq_true rfl) tyX0_ok nmX0 rfl (by decide +kernel) gw_0 rfl dX0_pick_2 (s_aln 0 rfl dX0_pick_5 (s_iconst (by decide +kernel) dX0_pick_6 (s_iconst (by decide +kernel) dX0_pick_7 (s_cs c_X0_pickFrom (gb_l4 gw_38 gw_39 gw_29 gw_40) v_X0_pickFrom.2 ⟨rfl, rfl⟩ ⟨Nat.le_of_ble_eq_true rfl, Nat.le_of_ble_eq_true rfl⟩ dX0_pick_8 (s_aln 0 rfl dX0_pick_11 (s_gf (T := TX0) winX0 rfl (Nat.le_of_ble_eq_true rfl) gw_0 rfl dX0_pick_12 (s_ri rfl dX0_pick_15))))))))))
noncomputable def f_X0_pick : gb_F := gb_hide (gb_mf 1 (k_X0_pick_0 gb_n))
theorem c_X0_pick : ∀ l, gb_Met l yX0_pick cX0_pick 1 (some .int) 1 (gb_rm 11 255) f_X0_pick := gb_hide_c (gb_met (own := RX0) (rk := 1) rfl (by decide +kernel) ⟨rfl, rfl⟩ (s_X0_pick_0 gb_S_n))
theorem dX7_copyBin_0 : decode cX7_copyBin 0 = .ok (.aload_n 0, 1) := by decide +kernel
theorem dX7_copyBin_1 : decode cX7_copyBin 1 = .ok (.getfield 18, 3) := by decide +kernel
theorem dX7_copyBin_4 : decode cX7_copyBin 4 = .ok (.iload_n 2, 1) := by decide +kernel
theorem dX7_copyBin_5 : decode cX7_copyBin 5 = .ok (.aload_n 1, 1) := by decide +kernel
theorem dX7_copyBin_6 : decode cX7_copyBin 6 = .ok (.getfield 18, 3) := by decide +kernel
theorem dX7_copyBin_9 : decode cX7_copyBin 9 = .ok (.iload_n 2, 1) := by decide +kernel
theorem dX7_copyBin_10 : decode cX7_copyBin 10 = .ok (.iaload, 1) := by decide +kernel
theorem dX7_copyBin_11 : decode cX7_copyBin 11 = .ok (.iastore, 1) := by decide +kernel
theorem dX7_copyBin_12 : decode cX7_copyBin 12 = .ok (.aload_n 0, 1) := by decide +kernel
theorem dX7_copyBin_13 : decode cX7_copyBin 13 = .ok (.getfield 21, 3) := by decide +kernel
theorem dX7_copyBin_16 : decode cX7_copyBin 16 = .ok (.iload_n 2, 1) := by decide +kernel
theorem dX7_copyBin_17 : decode cX7_copyBin 17 = .ok (.aload_n 1, 1) := by decide +kernel
theorem dX7_copyBin_18 : decode cX7_copyBin 18 = .ok (.getfield 21, 3) := by decide +kernel
theorem dX7_copyBin_21 : decode cX7_copyBin 21 = .ok (.iload_n 2, 1) := by decide +kernel
theorem dX7_copyBin_22 : decode cX7_copyBin 22 = .ok (.iaload, 1) := by decide +kernel
theorem dX7_copyBin_23 : decode cX7_copyBin 23 = .ok (.iastore, 1) := by decide +kernel
theorem dX7_copyBin_24 : decode cX7_copyBin 24 = .ok (.iconst 0, 1) := by decide +kernel
theorem dX7_copyBin_25 : decode cX7_copyBin 25 = .ok (.istore_n 3, 1) := by decide +kernel
theorem dX7_copyBin_26 : decode cX7_copyBin 26 = .ok (.iload_n 3, 1) := by decide +kernel
theorem dX7_copyBin_27 : decode cX7_copyBin 27 = .ok (.bipush 6, 2) := by decide +kernel
theorem dX7_copyBin_29 : decode cX7_copyBin 29 = .ok (.if_icmp .ge 31, 3) := by decide +kernel
theorem dX7_copyBin_32 : decode cX7_copyBin 32 = .ok (.aload_n 0, 1) := by decide +kernel
theorem dX7_copyBin_33 : decode cX7_copyBin 33 = .ok (.getfield 33, 3) := by decide +kernel
theorem dX7_copyBin_36 : decode cX7_copyBin 36 = .ok (.iload_n 2, 1) := by decide +kernel
theorem dX7_copyBin_37 : decode cX7_copyBin 37 = .ok (.bipush 6, 2) := by decide +kernel
theorem dX7_copyBin_39 : decode cX7_copyBin 39 = .ok (.imul, 1) := by decide +kernel
theorem dX7_copyBin_40 : decode cX7_copyBin 40 = .ok (.iload_n 3, 1) := by decide +kernel
theorem dX7_copyBin_41 : decode cX7_copyBin 41 = .ok (.iadd, 1) := by decide +kernel
theorem dX7_copyBin_42 : decode cX7_copyBin 42 = .ok (.aload_n 1, 1) := by decide +kernel
theorem dX7_copyBin_43 : decode cX7_copyBin 43 = .ok (.getfield 33, 3) := by decide +kernel
theorem dX7_copyBin_46 : decode cX7_copyBin 46 = .ok (.iload_n 2, 1) := by decide +kernel
theorem dX7_copyBin_47 : decode cX7_copyBin 47 = .ok (.bipush 6, 2) := by decide +kernel
theorem dX7_copyBin_49 : decode cX7_copyBin 49 = .ok (.imul, 1) := by decide +kernel
theorem dX7_copyBin_50 : decode cX7_copyBin 50 = .ok (.iload_n 3, 1) := by decide +kernel
theorem dX7_copyBin_51 : decode cX7_copyBin 51 = .ok (.iadd, 1) := by decide +kernel
theorem dX7_copyBin_52 : decode cX7_copyBin 52 = .ok (.iaload, 1) := by decide +kernel
theorem dX7_copyBin_53 : decode cX7_copyBin 53 = .ok (.iastore, 1) := by decide +kernel
theorem dX7_copyBin_54 : decode cX7_copyBin 54 = .ok (.iinc 3 1, 3) := by decide +kernel
theorem dX7_copyBin_57 : decode cX7_copyBin 57 = .ok (.goto (-31), 3) := by decide +kernel
theorem dX7_copyBin_60 : decode cX7_copyBin 60 = .ok (.iconst 0, 1) := by decide +kernel
theorem dX7_copyBin_61 : decode cX7_copyBin 61 = .ok (.istore_n 3, 1) := by decide +kernel
theorem dX7_copyBin_62 : decode cX7_copyBin 62 = .ok (.iload_n 3, 1) := by decide +kernel
theorem dX7_copyBin_63 : decode cX7_copyBin 63 = .ok (.aload_n 1, 1) := by decide +kernel
theorem dX7_copyBin_64 : decode cX7_copyBin 64 = .ok (.getfield 18, 3) := by decide +kernel
theorem dX7_copyBin_67 : decode cX7_copyBin 67 = .ok (.iload_n 2, 1) := by decide +kernel
theorem dX7_copyBin_68 : decode cX7_copyBin 68 = .ok (.iaload, 1) := by decide +kernel
theorem dX7_copyBin_69 : decode cX7_copyBin 69 = .ok (.if_icmp .ge 58, 3) := by decide +kernel
theorem dX7_copyBin_72 : decode cX7_copyBin 72 = .ok (.iload_n 2, 1) := by decide +kernel
theorem dX7_copyBin_73 : decode cX7_copyBin 73 = .ok (.iload_n 3, 1) := by decide +kernel
theorem dX7_copyBin_74 : decode cX7_copyBin 74 = .ok (.invokestatic 51, 3) := by decide +kernel
theorem dX7_copyBin_77 : decode cX7_copyBin 77 = .ok (.istore 4, 2) := by decide +kernel
theorem dX7_copyBin_79 : decode cX7_copyBin 79 = .ok (.aload_n 0, 1) := by decide +kernel
theorem dX7_copyBin_80 : decode cX7_copyBin 80 = .ok (.getfield 24, 3) := by decide +kernel
theorem dX7_copyBin_83 : decode cX7_copyBin 83 = .ok (.iload 4, 2) := by decide +kernel
theorem dX7_copyBin_85 : decode cX7_copyBin 85 = .ok (.aload_n 1, 1) := by decide +kernel
theorem dX7_copyBin_86 : decode cX7_copyBin 86 = .ok (.getfield 24, 3) := by decide +kernel
theorem dX7_copyBin_89 : decode cX7_copyBin 89 = .ok (.iload 4, 2) := by decide +kernel
theorem dX7_copyBin_91 : decode cX7_copyBin 91 = .ok (.iaload, 1) := by decide +kernel
theorem dX7_copyBin_92 : decode cX7_copyBin 92 = .ok (.iastore, 1) := by decide +kernel
theorem dX7_copyBin_93 : decode cX7_copyBin 93 = .ok (.aload_n 0, 1) := by decide +kernel
theorem dX7_copyBin_94 : decode cX7_copyBin 94 = .ok (.getfield 27, 3) := by decide +kernel
theorem dX7_copyBin_97 : decode cX7_copyBin 97 = .ok (.iload 4, 2) := by decide +kernel
theorem dX7_copyBin_99 : decode cX7_copyBin 99 = .ok (.aload_n 1, 1) := by decide +kernel
theorem dX7_copyBin_100 : decode cX7_copyBin 100 = .ok (.getfield 27, 3) := by decide +kernel
theorem dX7_copyBin_103 : decode cX7_copyBin 103 = .ok (.iload 4, 2) := by decide +kernel
theorem dX7_copyBin_105 : decode cX7_copyBin 105 = .ok (.iaload, 1) := by decide +kernel
theorem dX7_copyBin_106 : decode cX7_copyBin 106 = .ok (.iastore, 1) := by decide +kernel
theorem dX7_copyBin_107 : decode cX7_copyBin 107 = .ok (.aload_n 0, 1) := by decide +kernel
theorem dX7_copyBin_108 : decode cX7_copyBin 108 = .ok (.getfield 30, 3) := by decide +kernel
theorem dX7_copyBin_111 : decode cX7_copyBin 111 = .ok (.iload 4, 2) := by decide +kernel
theorem dX7_copyBin_113 : decode cX7_copyBin 113 = .ok (.aload_n 1, 1) := by decide +kernel
theorem dX7_copyBin_114 : decode cX7_copyBin 114 = .ok (.getfield 30, 3) := by decide +kernel
theorem dX7_copyBin_117 : decode cX7_copyBin 117 = .ok (.iload 4, 2) := by decide +kernel
theorem dX7_copyBin_119 : decode cX7_copyBin 119 = .ok (.iaload, 1) := by decide +kernel
theorem dX7_copyBin_120 : decode cX7_copyBin 120 = .ok (.iastore, 1) := by decide +kernel
theorem dX7_copyBin_121 : decode cX7_copyBin 121 = .ok (.iinc 3 1, 3) := by decide +kernel
theorem dX7_copyBin_124 : decode cX7_copyBin 124 = .ok (.goto (-62), 3) := by decide +kernel
theorem dX7_copyBin_127 : decode cX7_copyBin 127 = .ok (.return_, 1) := by decide +kernel
theorem v_X7_copyBin : yX7_copyBin.cls = RX7 ∧ yX7_copyBin.cls ≠ "java/lang/invoke/MethodHandle" ∧ yX7_copyBin.cls ≠ "java/lang/invoke/VarHandle" ∧ (parseMethodDescriptor yX7_copyBin.desc).map (fun d => d.parameters.length) = some 2 := ⟨rfl, by decide +kernel, by decide +kernel, by decide +kernel⟩
noncomputable def k_X7_copyBin_0 (κ : gb_K) : gb_C := (o_al 0 (o_gf 7 3 (o_il 2 (o_al 1 (o_gf 7 3 (o_il 2 (o_iald (o_iast (o_al 0 (o_gf 7 4 (o_il 2 (o_al 1 (o_gf 7 4 (o_il 2 (o_iald (o_iast (o_ci 0 (o_is 3 (o_j [0, 1, 2, 3] (κ 26))))))))))))))))))))
theorem l_X7_copyBin_0 : gb_Li (fun κ => k_X7_copyBin_0 κ) := (gb_li (q_al 0) (gb_li (q_gf 7 3) (gb_li (q_il 2) (gb_li (q_al 1) (gb_li (q_gf 7 3) (gb_li (q_il 2) (gb_li q_iald (gb_li q_iast (gb_li (q_al 0) (gb_li (q_gf 7 4) (gb_li (q_il 2) (gb_li (q_al 1) (gb_li (q_gf 7 4) (gb_li (q_il 2) (gb_li q_iald (gb_li q_iast (gb_li (q_ci 0) (gb_li (q_is 3) (q_j [0, 1, 2, 3] 26)))))))))))))))))))
theorem s_X7_copyBin_0   {κ : gb_K} (hκ : ∀ q, gb_S RX7 cX7_copyBin 5 (gb_rm 1 21) 0 q (κ q)) : gb_S RX7 cX7_copyBin 5 (gb_rm 1 21) 0 0 (k_X7_copyBin_0 κ) := (s_aln 0 rfl dX7_copyBin_0 (s_gf (T := TX7) winX7 rfl (Nat.le_of_ble_eq_true rfl) gw_41 rfl dX7_copyBin_1 (s_iln 2 rfl dX7_copyBin_4 (s_aln 1 rfl dX7_copyBin_5 (s_gf (T := TX7) winX7 rfl (Nat.le_of_ble_eq_true rfl) gw_41 rfl dX7_copyBin_6 (s_iln 2 rfl dX7_copyBin_9 (s_iald dX7_copyBin_10 (s_iast dX7_copyBin_11 (s_aln 0 rfl dX7_copyBin_12 (s_gf (T := TX7) winX7 rfl (Nat.le_of_ble_eq_true rfl) gw_42 rfl dX7_copyBin_13 (s_iln 2 rfl dX7_copyBin_16 (s_aln 1 rfl dX7_copyBin_17 (s_gf (T := TX7) winX7 rfl (Nat.le_of_ble_eq_true rfl) gw_42 rfl dX7_copyBin_18 (s_iln 2 rfl dX7_copyBin_21 (s_iald dX7_copyBin_22 (s_iast dX7_copyBin_23 (s_iconst (by decide +kernel) dX7_copyBin_24 (s_isn 3 rfl (Nat.le_of_ble_eq_true rfl) dX7_copyBin_25 (s_j (hκ 26))))))))))))))))))))
noncomputable def k_X7_copyBin_26 (κ : gb_K) : gb_C := (o_il 3 (o_ci 6 (o_cge (o_ci 0 (o_is 3 (o_j [0, 1, 2, 3] (κ 62)))) (o_al 0 (o_gf 7 8 (o_il 2 (o_ci 6 (o_ib (fun x y => x * y) (o_il 3 (o_ib (fun x y => x + y) (o_al 1 (o_gf 7 8 (o_il 2 (o_ci 6 (o_ib (fun x y => x * y) (o_il 3 (o_ib (fun x y => x + y) (o_iald (o_iast (o_inc 3 1 (o_j [0, 1, 2, 3] (κ 26))))))))))))))))))))))
theorem l_X7_copyBin_26 : gb_Li (fun κ => k_X7_copyBin_26 κ) := (gb_li (q_il 3) (gb_li (q_ci 6) (q_cge (gb_li (q_ci 0) (gb_li (q_is 3) (q_j [0, 1, 2, 3] 62))) (gb_li (q_al 0) (gb_li (q_gf 7 8) (gb_li (q_il 2) (gb_li (q_ci 6) (gb_li (q_ib _) (gb_li (q_il 3) (gb_li (q_ib _) (gb_li (q_al 1) (gb_li (q_gf 7 8) (gb_li (q_il 2) (gb_li (q_ci 6) (gb_li (q_ib _) (gb_li (q_il 3) (gb_li (q_ib _) (gb_li q_iald (gb_li q_iast (gb_li (q_inc 3 1) (q_j [0, 1, 2, 3] 26)))))))))))))))))))))
theorem s_X7_copyBin_26   {κ : gb_K} (hκ : ∀ q, gb_S RX7 cX7_copyBin 5 (gb_rm 1 21) 0 q (κ q)) : gb_S RX7 cX7_copyBin 5 (gb_rm 1 21) 0 26 (k_X7_copyBin_26 κ) := (s_iln 3 rfl dX7_copyBin_26 (s_bipush (by decide +kernel) dX7_copyBin_27 (s_cge (tgt := 60) (by decide +kernel) dX7_copyBin_29 (s_iconst (by decide +kernel) dX7_copyBin_60 (s_isn 3 rfl (Nat.le_of_ble_eq_true rfl) dX7_copyBin_61 (s_j (hκ 62)))) (s_aln 0 rfl dX7_copyBin_32 (s_gf (T := TX7) winX7 rfl (Nat.le_of_ble_eq_true rfl) gw_43 rfl dX7_copyBin_33 (s_iln 2 rfl dX7_copyBin_36 (s_bipush (by decide +kernel) dX7_copyBin_37 (s_imul dX7_copyBin_39 (s_iln 3 rfl dX7_copyBin_40 (s_iadd dX7_copyBin_41 (s_aln 1 rfl dX7_copyBin_42 (s_gf (T := TX7) winX7 rfl (Nat.le_of_ble_eq_true rfl) gw_43 rfl dX7_copyBin_43 (s_iln 2 rfl dX7_copyBin_46 (s_bipush (by decide +kernel) dX7_copyBin_47 (s_imul dX7_copyBin_49 (s_iln 3 rfl dX7_copyBin_50 (s_iadd dX7_copyBin_51 (s_iald dX7_copyBin_52 (s_iast dX7_copyBin_53 (s_inc (by decide +kernel) (Nat.le_of_ble_eq_true rfl) dX7_copyBin_54 (s_goto (tgt := 26) (by decide +kernel) dX7_copyBin_57 (s_j (hκ 26)))))))))))))))))))))))
noncomputable def k_X7_copyBin_114 (κ : gb_K) : gb_C := (o_gf 7 7 (o_il 4 (o_iald (o_iast (o_inc 3 1 (o_j [0, 1, 2, 3] (κ 62)))))))
theorem l_X7_copyBin_114 : gb_Li (fun κ => k_X7_copyBin_114 κ) := (gb_li (q_gf 7 7) (gb_li (q_il 4) (gb_li q_iald (gb_li q_iast (gb_li (q_inc 3 1) (q_j [0, 1, 2, 3] 62))))))
theorem s_X7_copyBin_114   {κ : gb_K} (hκ : ∀ q, gb_S RX7 cX7_copyBin 5 (gb_rm 1 21) 0 q (κ q)) : gb_S RX7 cX7_copyBin 5 (gb_rm 1 21) 0 114 (k_X7_copyBin_114 κ) := (s_gf (T := TX7) winX7 rfl (Nat.le_of_ble_eq_true rfl) gw_44 rfl dX7_copyBin_114 (s_il dX7_copyBin_117 (s_iald dX7_copyBin_119 (s_iast dX7_copyBin_120 (s_inc (by decide +kernel) (Nat.le_of_ble_eq_true rfl) dX7_copyBin_121 (s_goto (tgt := 62) (by decide +kernel) dX7_copyBin_124 (s_j (hκ 62))))))))
noncomputable def k_X7_copyBin_62 (κ : gb_K) : gb_C := (o_il 3 (o_al 1 (o_gf 7 3 (o_il 2 (o_iald (o_cge o_rv (o_il 2 (o_il 3 (o_cs 2 1 f_X7_place (o_is 4 (o_al 0 (o_gf 7 5 (o_il 4 (o_al 1 (o_gf 7 5 (o_il 4 (o_iald (o_iast (o_al 0 (o_gf 7 6 (o_il 4 (o_al 1 (o_gf 7 6 (o_il 4 (o_iald (o_iast (o_al 0 (o_gf 7 7 (o_il 4 (o_al 1 (k_X7_copyBin_114 κ)))))))))))))))))))))))))))))))
theorem l_X7_copyBin_62 : gb_Li (fun κ => k_X7_copyBin_62 κ) := (gb_li (q_il 3) (gb_li (q_al 1) (gb_li (q_gf 7 3) (gb_li (q_il 2) (gb_li q_iald (q_cge (gb_li0 _) (gb_li (q_il 2) (gb_li (q_il 3) (gb_li (q_cs 2 1 f_X7_place) (gb_li (q_is 4) (gb_li (q_al 0) (gb_li (q_gf 7 5) (gb_li (q_il 4) (gb_li (q_al 1) (gb_li (q_gf 7 5) (gb_li (q_il 4) (gb_li q_iald (gb_li q_iast (gb_li (q_al 0) (gb_li (q_gf 7 6) (gb_li (q_il 4) (gb_li (q_al 1) (gb_li (q_gf 7 6) (gb_li (q_il 4) (gb_li q_iald (gb_li q_iast (gb_li (q_al 0) (gb_li (q_gf 7 7) (gb_li (q_il 4) (gb_li (q_al 1) (l_X7_copyBin_114)))))))))))))))))))))))))))))))
theorem s_X7_copyBin_62   {κ : gb_K} (hκ : ∀ q, gb_S RX7 cX7_copyBin 5 (gb_rm 1 21) 0 q (κ q)) : gb_S RX7 cX7_copyBin 5 (gb_rm 1 21) 0 62 (k_X7_copyBin_62 κ) := (s_iln 3 rfl dX7_copyBin_62 (s_aln 1 rfl dX7_copyBin_63 (s_gf (T := TX7) winX7 rfl (Nat.le_of_ble_eq_true rfl) gw_41 rfl dX7_copyBin_64 (s_iln 2 rfl dX7_copyBin_67 (s_iald dX7_copyBin_68 (s_cge (tgt := 127) (by decide +kernel) dX7_copyBin_69 (s_rv rfl dX7_copyBin_127) (s_iln 2 rfl dX7_copyBin_72 (s_iln 3 rfl dX7_copyBin_73 (s_cs c_X7_place (gb_l4 gw_45 gw_23 gw_11 gw_24) v_X7_place.2 ⟨rfl, rfl⟩ ⟨Nat.le_of_ble_eq_true rfl, Nat.le_of_ble_eq_true rfl⟩ dX7_copyBin_74 (s_is (Nat.le_of_ble_eq_true rfl) dX7_copyBin_77 (s_aln 0 rfl dX7_copyBin_79 (s_gf (T := TX7) winX7 rfl (Nat.le_of_ble_eq_true rfl) gw_46 rfl dX7_copyBin_80 (s_il dX7_copyBin_83 (s_aln 1 rfl dX7_copyBin_85 (s_gf (T := TX7) winX7 rfl (Nat.le_of_ble_eq_true rfl) gw_46 rfl dX7_copyBin_86 (s_il dX7_copyBin_89 (s_iald dX7_copyBin_91 (s_iast dX7_copyBin_92 (s_aln 0 rfl dX7_copyBin_93 (s_gf (T := TX7) winX7 rfl (Nat.le_of_ble_eq_true rfl) gw_47 rfl dX7_copyBin_94 (s_il dX7_copyBin_97 (s_aln 1 rfl dX7_copyBin_99 (s_gf (T := TX7) winX7 rfl (Nat.le_of_ble_eq_true rfl) gw_47 rfl dX7_copyBin_100 (s_il dX7_copyBin_103 (s_iald dX7_copyBin_105 (s_iast dX7_copyBin_106 (s_aln 0 rfl dX7_copyBin_107 (s_gf (T := TX7) winX7 rfl (Nat.le_of_ble_eq_true rfl) gw_44 rfl dX7_copyBin_108 (s_il dX7_copyBin_111 (s_aln 1 rfl dX7_copyBin_113 (s_X7_copyBin_114 hκ)))))))))))))))))))))))))))))))
noncomputable def B_X7_copyBin : List (Nat × (gb_K → gb_C)) := [(26, fun κ => k_X7_copyBin_26 κ), (62, fun κ => k_X7_copyBin_62 κ)]
noncomputable def K_X7_copyBin : gb_K := gb_fx (gb_tb (B_X7_copyBin))
theorem L_X7_copyBin : ∀ q, gb_Li (fun κ => gb_tb (B_X7_copyBin) κ q) := gb_tb_li (List.forall_mem_cons.mpr ⟨l_X7_copyBin_26, List.forall_mem_cons.mpr ⟨l_X7_copyBin_62, (fun _ h => absurd h List.not_mem_nil)⟩⟩)
theorem S_X7_copyBin   : ∀ q, gb_S RX7 cX7_copyBin 5 (gb_rm 1 21) 0 q (K_X7_copyBin q) := fun q => gb_fx_S (L_X7_copyBin) (gb_tb_S (List.forall_mem_cons.mpr ⟨fun κ hκ => s_X7_copyBin_26 hκ, List.forall_mem_cons.mpr ⟨fun κ hκ => s_X7_copyBin_62 hκ, (fun _ h => absurd h List.not_mem_nil)⟩⟩)) q
noncomputable def f_X7_copyBin : gb_F := gb_hide (gb_mf 5 (k_X7_copyBin_0 (K_X7_copyBin)))
theorem c_X7_copyBin : ∀ l, gb_Met l yX7_copyBin cX7_copyBin 5 none 0 (gb_rm 1 21) f_X7_copyBin := gb_hide_c (gb_met (own := RX7) (rk := 0) rfl (by decide +kernel) ⟨rfl, rfl⟩ (s_X7_copyBin_0 (S_X7_copyBin)))
theorem dX7_copy_0 : decode cX7_copy 0 = .ok (.iconst 0, 1) := by decide +kernel
theorem dX7_copy_1 : decode cX7_copy 1 = .ok (.istore_n 2, 1) := by decide +kernel
theorem dX7_copy_2 : decode cX7_copy 2 = .ok (.iload_n 2, 1) := by decide +kernel
theorem dX7_copy_3 : decode cX7_copy 3 = .ok (.bipush 6, 2) := by decide +kernel
theorem dX7_copy_5 : decode cX7_copy 5 = .ok (.if_icmp .ge 21, 3) := by decide +kernel
theorem dX7_copy_8 : decode cX7_copy 8 = .ok (.aload_n 0, 1) := by decide +kernel
theorem dX7_copy_9 : decode cX7_copy 9 = .ok (.getfield 9, 3) := by decide +kernel
theorem dX7_copy_12 : decode cX7_copy 12 = .ok (.iload_n 2, 1) := by decide +kernel
theorem dX7_copy_13 : decode cX7_copy 13 = .ok (.aload_n 1, 1) := by decide +kernel
theorem dX7_copy_14 : decode cX7_copy 14 = .ok (.getfield 9, 3) := by decide +kernel
theorem dX7_copy_17 : decode cX7_copy 17 = .ok (.iload_n 2, 1) := by decide +kernel
theorem dX7_copy_18 : decode cX7_copy 18 = .ok (.iaload, 1) := by decide +kernel
theorem dX7_copy_19 : decode cX7_copy 19 = .ok (.iastore, 1) := by decide +kernel
theorem dX7_copy_20 : decode cX7_copy 20 = .ok (.iinc 2 1, 3) := by decide +kernel
theorem dX7_copy_23 : decode cX7_copy 23 = .ok (.goto (-21), 3) := by decide +kernel
theorem dX7_copy_26 : decode cX7_copy 26 = .ok (.iconst 0, 1) := by decide +kernel
theorem dX7_copy_27 : decode cX7_copy 27 = .ok (.istore_n 2, 1) := by decide +kernel
theorem dX7_copy_28 : decode cX7_copy 28 = .ok (.iload_n 2, 1) := by decide +kernel
theorem dX7_copy_29 : decode cX7_copy 29 = .ok (.bipush 6, 2) := by decide +kernel
theorem dX7_copy_31 : decode cX7_copy 31 = .ok (.if_icmp .ge 27, 3) := by decide +kernel
theorem dX7_copy_34 : decode cX7_copy 34 = .ok (.aload_n 0, 1) := by decide +kernel
theorem dX7_copy_35 : decode cX7_copy 35 = .ok (.getfield 15, 3) := by decide +kernel
theorem dX7_copy_38 : decode cX7_copy 38 = .ok (.iload_n 2, 1) := by decide +kernel
theorem dX7_copy_39 : decode cX7_copy 39 = .ok (.aload_n 1, 1) := by decide +kernel
theorem dX7_copy_40 : decode cX7_copy 40 = .ok (.getfield 15, 3) := by decide +kernel
theorem dX7_copy_43 : decode cX7_copy 43 = .ok (.iload_n 2, 1) := by decide +kernel
theorem dX7_copy_44 : decode cX7_copy 44 = .ok (.iaload, 1) := by decide +kernel
theorem dX7_copy_45 : decode cX7_copy 45 = .ok (.iastore, 1) := by decide +kernel
theorem dX7_copy_46 : decode cX7_copy 46 = .ok (.aload_n 0, 1) := by decide +kernel
theorem dX7_copy_47 : decode cX7_copy 47 = .ok (.aload_n 1, 1) := by decide +kernel
theorem dX7_copy_48 : decode cX7_copy 48 = .ok (.iload_n 2, 1) := by decide +kernel
theorem dX7_copy_49 : decode cX7_copy 49 = .ok (.invokevirtual 40, 3) := by decide +kernel
theorem dX7_copy_52 : decode cX7_copy 52 = .ok (.iinc 2 1, 3) := by decide +kernel
theorem dX7_copy_55 : decode cX7_copy 55 = .ok (.goto (-27), 3) := by decide +kernel
theorem dX7_copy_58 : decode cX7_copy 58 = .ok (.aload_n 0, 1) := by decide +kernel
theorem dX7_copy_59 : decode cX7_copy 59 = .ok (.aload_n 1, 1) := by decide +kernel
theorem dX7_copy_60 : decode cX7_copy 60 = .ok (.getfield 44, 3) := by decide +kernel
theorem dX7_copy_63 : decode cX7_copy 63 = .ok (.putfield 44, 3) := by decide +kernel
theorem dX7_copy_66 : decode cX7_copy 66 = .ok (.aload_n 0, 1) := by decide +kernel
theorem dX7_copy_67 : decode cX7_copy 67 = .ok (.aload_n 1, 1) := by decide +kernel
theorem dX7_copy_68 : decode cX7_copy 68 = .ok (.getfield 48, 3) := by decide +kernel
theorem dX7_copy_71 : decode cX7_copy 71 = .ok (.putfield 48, 3) := by decide +kernel
theorem dX7_copy_74 : decode cX7_copy 74 = .ok (.return_, 1) := by decide +kernel
theorem v_X7_copy : yX7_copy.cls = RX7 ∧ yX7_copy.cls ≠ "java/lang/invoke/MethodHandle" ∧ yX7_copy.cls ≠ "java/lang/invoke/VarHandle" ∧ (parseMethodDescriptor yX7_copy.desc).map (fun d => d.parameters.length) = some 1 := ⟨rfl, by decide +kernel, by decide +kernel, by decide +kernel⟩
noncomputable def k_X7_copy_0 (κ : gb_K) : gb_C := (o_ci 0 (o_is 2 (o_j [0, 1, 2] (κ 2))))
theorem l_X7_copy_0 : gb_Li (fun κ => k_X7_copy_0 κ) := (gb_li (q_ci 0) (gb_li (q_is 2) (q_j [0, 1, 2] 2)))
theorem s_X7_copy_0   {κ : gb_K} (hκ : ∀ q, gb_S RX7 cX7_copy 3 (gb_rm 2 45) 0 q (κ q)) : gb_S RX7 cX7_copy 3 (gb_rm 2 45) 0 0 (k_X7_copy_0 κ) := (s_iconst (by decide +kernel) dX7_copy_0 (s_isn 2 rfl (Nat.le_of_ble_eq_true rfl) dX7_copy_1 (s_j (hκ 2))))
noncomputable def k_X7_copy_2 (κ : gb_K) : gb_C := (o_il 2 (o_ci 6 (o_cge (o_ci 0 (o_is 2 (o_j [0, 1, 2] (κ 28)))) (o_al 0 (o_gf 7 1 (o_il 2 (o_al 1 (o_gf 7 1 (o_il 2 (o_iald (o_iast (o_inc 2 1 (o_j [0, 1, 2] (κ 2))))))))))))))
theorem l_X7_copy_2 : gb_Li (fun κ => k_X7_copy_2 κ) := (gb_li (q_il 2) (gb_li (q_ci 6) (q_cge (gb_li (q_ci 0) (gb_li (q_is 2) (q_j [0, 1, 2] 28))) (gb_li (q_al 0) (gb_li (q_gf 7 1) (gb_li (q_il 2) (gb_li (q_al 1) (gb_li (q_gf 7 1) (gb_li (q_il 2) (gb_li q_iald (gb_li q_iast (gb_li (q_inc 2 1) (q_j [0, 1, 2] 2)))))))))))))
theorem s_X7_copy_2   {κ : gb_K} (hκ : ∀ q, gb_S RX7 cX7_copy 3 (gb_rm 2 45) 0 q (κ q)) : gb_S RX7 cX7_copy 3 (gb_rm 2 45) 0 2 (k_X7_copy_2 κ) := (s_iln 2 rfl dX7_copy_2 (s_bipush (by decide +kernel) dX7_copy_3 (s_cge (tgt := 26) (by decide +kernel) dX7_copy_5 (s_iconst (by decide +kernel) dX7_copy_26 (s_isn 2 rfl (Nat.le_of_ble_eq_true rfl) dX7_copy_27 (s_j (hκ 28)))) (s_aln 0 rfl dX7_copy_8 (s_gf (T := TX7) winX7 rfl (Nat.le_of_ble_eq_true rfl) gw_48 rfl dX7_copy_9 (s_iln 2 rfl dX7_copy_12 (s_aln 1 rfl dX7_copy_13 (s_gf (T := TX7) winX7 rfl (Nat.le_of_ble_eq_true rfl) gw_48 rfl dX7_copy_14 (s_iln 2 rfl dX7_copy_17 (s_iald dX7_copy_18 (s_iast dX7_copy_19 (s_inc (by decide +kernel) (Nat.le_of_ble_eq_true rfl) dX7_copy_20 (s_goto (tgt := 2) (by decide +kernel) dX7_copy_23 (s_j (hκ 2)))))))))))))))
noncomputable def k_X7_copy_28 (κ : gb_K) : gb_C := (o_il 2 (o_ci 6 (o_cge (o_al 0 (o_al 1 (o_gf 7 9 (o_pf 7 9 (o_al 0 (o_al 1 (o_gf 7 10 (o_pf 7 10 o_rv)))))))) (o_al 0 (o_gf 7 2 (o_il 2 (o_al 1 (o_gf 7 2 (o_il 2 (o_iald (o_iast (o_al 0 (o_al 1 (o_il 2 (o_cv 2 7 0 f_X7_copyBin (o_inc 2 1 (o_j [0, 1, 2] (κ 28))))))))))))))))))
theorem l_X7_copy_28 : gb_Li (fun κ => k_X7_copy_28 κ) := (gb_li (q_il 2) (gb_li (q_ci 6) (q_cge (gb_li (q_al 0) (gb_li (q_al 1) (gb_li (q_gf 7 9) (gb_li (q_pf 7 9) (gb_li (q_al 0) (gb_li (q_al 1) (gb_li (q_gf 7 10) (gb_li (q_pf 7 10) (gb_li0 _))))))))) (gb_li (q_al 0) (gb_li (q_gf 7 2) (gb_li (q_il 2) (gb_li (q_al 1) (gb_li (q_gf 7 2) (gb_li (q_il 2) (gb_li q_iald (gb_li q_iast (gb_li (q_al 0) (gb_li (q_al 1) (gb_li (q_il 2) (gb_li (q_cv 2 7 0 f_X7_copyBin) (gb_li (q_inc 2 1) (q_j [0, 1, 2] 28)))))))))))))))))
theorem s_X7_copy_28   {κ : gb_K} (hκ : ∀ q, gb_S RX7 cX7_copy 3 (gb_rm 2 45) 0 q (κ q)) : gb_S RX7 cX7_copy 3 (gb_rm 2 45) 0 28 (k_X7_copy_28 κ) := (s_iln 2 rfl dX7_copy_28 (s_bipush (by decide +kernel) dX7_copy_29 (s_cge (tgt := 58) (by decide +kernel) dX7_copy_31 (s_aln 0 rfl dX7_copy_58 (s_aln 1 rfl dX7_copy_59 (s_gf (T := TX7) winX7 rfl (Nat.le_of_ble_eq_true rfl) gw_5 rfl dX7_copy_60 (s_pf (T := TX7) winX7 rfl (Nat.le_of_ble_eq_true rfl) tyX7_ok nmX7 rfl (by decide +kernel) gw_5 rfl dX7_copy_63 (s_aln 0 rfl dX7_copy_66 (s_aln 1 rfl dX7_copy_67 (s_gf (T := TX7) winX7 rfl (Nat.le_of_ble_eq_true rfl) gw_49 rfl dX7_copy_68 (s_pf (T := TX7) winX7 rfl (Nat.le_of_ble_eq_true rfl) tyX7_ok nmX7 rfl (by decide +kernel) gw_49 rfl dX7_copy_71 (s_rv rfl dX7_copy_74))))))))) (s_aln 0 rfl dX7_copy_34 (s_gf (T := TX7) winX7 rfl (Nat.le_of_ble_eq_true rfl) gw_6 rfl dX7_copy_35 (s_iln 2 rfl dX7_copy_38 (s_aln 1 rfl dX7_copy_39 (s_gf (T := TX7) winX7 rfl (Nat.le_of_ble_eq_true rfl) gw_6 rfl dX7_copy_40 (s_iln 2 rfl dX7_copy_43 (s_iald dX7_copy_44 (s_iast dX7_copy_45 (s_aln 0 rfl dX7_copy_46 (s_aln 1 rfl dX7_copy_47 (s_iln 2 rfl dX7_copy_48 (s_cv (C := RX7) c_X7_copyBin rfl (gb_l5 gw_50 gw_51 gw_52 gw_11 gw_53) v_X7_copyBin ⟨rfl, rfl⟩ ⟨Nat.le_of_ble_eq_true rfl, Nat.le_of_ble_eq_true rfl⟩ dX7_copy_49 (s_inc (by decide +kernel) (Nat.le_of_ble_eq_true rfl) dX7_copy_52 (s_goto (tgt := 28) (by decide +kernel) dX7_copy_55 (s_j (hκ 28)))))))))))))))))))
noncomputable def B_X7_copy : List (Nat × (gb_K → gb_C)) := [(2, fun κ => k_X7_copy_2 κ), (28, fun κ => k_X7_copy_28 κ)]
noncomputable def K_X7_copy : gb_K := gb_fx (gb_tb (B_X7_copy))
theorem L_X7_copy : ∀ q, gb_Li (fun κ => gb_tb (B_X7_copy) κ q) := gb_tb_li (List.forall_mem_cons.mpr ⟨l_X7_copy_2, List.forall_mem_cons.mpr ⟨l_X7_copy_28, (fun _ h => absurd h List.not_mem_nil)⟩⟩)
theorem S_X7_copy   : ∀ q, gb_S RX7 cX7_copy 3 (gb_rm 2 45) 0 q (K_X7_copy q) := fun q => gb_fx_S (L_X7_copy) (gb_tb_S (List.forall_mem_cons.mpr ⟨fun κ hκ => s_X7_copy_2 hκ, List.forall_mem_cons.mpr ⟨fun κ hκ => s_X7_copy_28 hκ, (fun _ h => absurd h List.not_mem_nil)⟩⟩)) q
noncomputable def f_X7_copy : gb_F := gb_hide (gb_mf 3 (k_X7_copy_0 (K_X7_copy)))
theorem c_X7_copy : ∀ l, gb_Met l yX7_copy cX7_copy 3 none 0 (gb_rm 2 45) f_X7_copy := gb_hide_c (gb_met (own := RX7) (rk := 0) rfl (by decide +kernel) ⟨rfl, rfl⟩ (s_X7_copy_0 (S_X7_copy)))
theorem dX1_start_0 : decode cX1_start 0 = .ok (.aload_n 0, 1) := by decide +kernel
theorem dX1_start_1 : decode cX1_start 1 = .ok (.getfield 25, 3) := by decide +kernel
theorem dX1_start_4 : decode cX1_start 4 = .ok (.aload_n 1, 1) := by decide +kernel
theorem dX1_start_5 : decode cX1_start 5 = .ok (.invokevirtual 56, 3) := by decide +kernel
theorem dX1_start_8 : decode cX1_start 8 = .ok (.aload_n 0, 1) := by decide +kernel
theorem dX1_start_9 : decode cX1_start 9 = .ok (.iload_n 2, 1) := by decide +kernel
theorem dX1_start_10 : decode cX1_start 10 = .ok (.putfield 60, 3) := by decide +kernel
theorem dX1_start_13 : decode cX1_start 13 = .ok (.return_, 1) := by decide +kernel
theorem v_X1_start : yX1_start.cls = RX1 ∧ yX1_start.cls ≠ "java/lang/invoke/MethodHandle" ∧ yX1_start.cls ≠ "java/lang/invoke/VarHandle" ∧ (parseMethodDescriptor yX1_start.desc).map (fun d => d.parameters.length) = some 2 := ⟨rfl, by decide +kernel, by decide +kernel, by decide +kernel⟩
noncomputable def k_X1_start_0 (κ : gb_K) : gb_C := (o_al 0 (o_gf 1 0 (o_al 1 (o_cv 1 7 0 f_X7_copy (o_al 0 (o_il 2 (o_pf 1 4 o_rv)))))))
theorem l_X1_start_0 : gb_Li (fun κ => k_X1_start_0 κ) := (gb_li (q_al 0) (gb_li (q_gf 1 0) (gb_li (q_al 1) (gb_li (q_cv 1 7 0 f_X7_copy) (gb_li (q_al 0) (gb_li (q_il 2) (gb_li (q_pf 1 4) (gb_li0 _))))))))
theorem s_X1_start_0   {κ : gb_K} (hκ : ∀ q, gb_S RX1 cX1_start 3 (gb_rm 3 67) 0 q (κ q)) : gb_S RX1 cX1_start 3 (gb_rm 3 67) 0 0 (k_X1_start_0 κ) := (s_aln 0 rfl dX1_start_0 (s_gf (T := TX1) winX1 rfl (Nat.le_of_ble_eq_true rfl) gw_54 rfl dX1_start_1 (s_aln 1 rfl dX1_start_4 (s_cv (C := RX7) c_X7_copy rfl (gb_l5 gw_55 gw_56 gw_57 gw_11 gw_58) v_X7_copy ⟨rfl, rfl⟩ ⟨Nat.le_of_ble_eq_true rfl, Nat.le_of_ble_eq_true rfl⟩ dX1_start_5 (s_aln 0 rfl dX1_start_8 (s_iln 2 rfl dX1_start_9 (s_pf (T := TX1) winX1 rfl (Nat.le_of_ble_eq_true rfl) tyX1_ok nmX1 rfl (by decide +kernel) gw_59 rfl dX1_start_10 (s_rv rfl dX1_start_13))))))))
noncomputable def f_X1_start : gb_F := gb_hide (gb_mf 3 (k_X1_start_0 gb_n))
theorem c_X1_start : ∀ l, gb_Met l yX1_start cX1_start 3 none 0 (gb_rm 3 67) f_X1_start := gb_hide_c (gb_met (own := RX1) (rk := 0) rfl (by decide +kernel) ⟨rfl, rfl⟩ (s_X1_start_0 gb_S_n))
theorem dX7_gradesIn_0 : decode cX7_gradesIn 0 = .ok (.iconst 0, 1) := by decide +kernel
theorem dX7_gradesIn_1 : decode cX7_gradesIn 1 = .ok (.istore_n 2, 1) := by decide +kernel
theorem dX7_gradesIn_2 : decode cX7_gradesIn 2 = .ok (.iconst 0, 1) := by decide +kernel
theorem dX7_gradesIn_3 : decode cX7_gradesIn 3 = .ok (.istore_n 3, 1) := by decide +kernel
theorem dX7_gradesIn_4 : decode cX7_gradesIn 4 = .ok (.iload_n 3, 1) := by decide +kernel
theorem dX7_gradesIn_5 : decode cX7_gradesIn 5 = .ok (.bipush 6, 2) := by decide +kernel
theorem dX7_gradesIn_7 : decode cX7_gradesIn 7 = .ok (.if_icmp .ge 29, 3) := by decide +kernel
theorem dX7_gradesIn_10 : decode cX7_gradesIn 10 = .ok (.aload_n 0, 1) := by decide +kernel
theorem dX7_gradesIn_11 : decode cX7_gradesIn 11 = .ok (.getfield 33, 3) := by decide +kernel
theorem dX7_gradesIn_14 : decode cX7_gradesIn 14 = .ok (.iload_n 1, 1) := by decide +kernel
theorem dX7_gradesIn_15 : decode cX7_gradesIn 15 = .ok (.bipush 6, 2) := by decide +kernel
theorem dX7_gradesIn_17 : decode cX7_gradesIn 17 = .ok (.imul, 1) := by decide +kernel
theorem dX7_gradesIn_18 : decode cX7_gradesIn 18 = .ok (.iload_n 3, 1) := by decide +kernel
theorem dX7_gradesIn_19 : decode cX7_gradesIn 19 = .ok (.iadd, 1) := by decide +kernel
theorem dX7_gradesIn_20 : decode cX7_gradesIn 20 = .ok (.iaload, 1) := by decide +kernel
theorem dX7_gradesIn_21 : decode cX7_gradesIn 21 = .ok (.ifCond .le 9, 3) := by decide +kernel
theorem dX7_gradesIn_24 : decode cX7_gradesIn 24 = .ok (.iload_n 2, 1) := by decide +kernel
theorem dX7_gradesIn_25 : decode cX7_gradesIn 25 = .ok (.iconst 1, 1) := by decide +kernel
theorem dX7_gradesIn_26 : decode cX7_gradesIn 26 = .ok (.iload_n 3, 1) := by decide +kernel
theorem dX7_gradesIn_27 : decode cX7_gradesIn 27 = .ok (.ishl, 1) := by decide +kernel
theorem dX7_gradesIn_28 : decode cX7_gradesIn 28 = .ok (.ior, 1) := by decide +kernel
theorem dX7_gradesIn_29 : decode cX7_gradesIn 29 = .ok (.istore_n 2, 1) := by decide +kernel
theorem dX7_gradesIn_30 : decode cX7_gradesIn 30 = .ok (.iinc 3 1, 3) := by decide +kernel
theorem dX7_gradesIn_33 : decode cX7_gradesIn 33 = .ok (.goto (-29), 3) := by decide +kernel
theorem dX7_gradesIn_36 : decode cX7_gradesIn 36 = .ok (.iload_n 2, 1) := by decide +kernel
theorem dX7_gradesIn_37 : decode cX7_gradesIn 37 = .ok (.ireturn, 1) := by decide +kernel
theorem v_X7_gradesIn : yX7_gradesIn.cls = RX7 ∧ yX7_gradesIn.cls ≠ "java/lang/invoke/MethodHandle" ∧ yX7_gradesIn.cls ≠ "java/lang/invoke/VarHandle" ∧ (parseMethodDescriptor yX7_gradesIn.desc).map (fun d => d.parameters.length) = some 1 := ⟨rfl, by decide +kernel, by decide +kernel, by decide +kernel⟩
noncomputable def k_X7_gradesIn_0 (κ : gb_K) : gb_C := (o_ci 0 (o_is 2 (o_ci 0 (o_is 3 (o_j [0, 1, 2, 3] (κ 4))))))
theorem l_X7_gradesIn_0 : gb_Li (fun κ => k_X7_gradesIn_0 κ) := (gb_li (q_ci 0) (gb_li (q_is 2) (gb_li (q_ci 0) (gb_li (q_is 3) (q_j [0, 1, 2, 3] 4)))))
theorem s_X7_gradesIn_0   {κ : gb_K} (hκ : ∀ q, gb_S RX7 cX7_gradesIn 4 (gb_rm 0 0) 1 q (κ q)) : gb_S RX7 cX7_gradesIn 4 (gb_rm 0 0) 1 0 (k_X7_gradesIn_0 κ) := (s_iconst (by decide +kernel) dX7_gradesIn_0 (s_isn 2 rfl (Nat.le_of_ble_eq_true rfl) dX7_gradesIn_1 (s_iconst (by decide +kernel) dX7_gradesIn_2 (s_isn 3 rfl (Nat.le_of_ble_eq_true rfl) dX7_gradesIn_3 (s_j (hκ 4))))))
noncomputable def k_X7_gradesIn_30 (κ : gb_K) : gb_C := (o_inc 3 1 (o_j [0, 1, 2, 3] (κ 4)))
theorem l_X7_gradesIn_30 : gb_Li (fun κ => k_X7_gradesIn_30 κ) := (gb_li (q_inc 3 1) (q_j [0, 1, 2, 3] 4))
theorem s_X7_gradesIn_30   {κ : gb_K} (hκ : ∀ q, gb_S RX7 cX7_gradesIn 4 (gb_rm 0 0) 1 q (κ q)) : gb_S RX7 cX7_gradesIn 4 (gb_rm 0 0) 1 30 (k_X7_gradesIn_30 κ) := (s_inc (by decide +kernel) (Nat.le_of_ble_eq_true rfl) dX7_gradesIn_30 (s_goto (tgt := 4) (by decide +kernel) dX7_gradesIn_33 (s_j (hκ 4))))
noncomputable def k_X7_gradesIn_4 (κ : gb_K) : gb_C := (o_il 3 (o_ci 6 (o_cge (o_il 2 o_ri) (o_al 0 (o_gf 7 8 (o_il 1 (o_ci 6 (o_ib (fun x y => x * y) (o_il 3 (o_ib (fun x y => x + y) (o_iald (o_zle (k_X7_gradesIn_30 κ) (o_il 2 (o_ci 1 (o_il 3 (o_ib (fun x y => x <<< (y &&& 31)) (o_ib (fun x y => x ||| y) (o_is 2 (k_X7_gradesIn_30 κ)))))))))))))))))))
theorem l_X7_gradesIn_4 : gb_Li (fun κ => k_X7_gradesIn_4 κ) := (gb_li (q_il 3) (gb_li (q_ci 6) (q_cge (gb_li (q_il 2) (gb_li0 _)) (gb_li (q_al 0) (gb_li (q_gf 7 8) (gb_li (q_il 1) (gb_li (q_ci 6) (gb_li (q_ib _) (gb_li (q_il 3) (gb_li (q_ib _) (gb_li q_iald (q_zle (l_X7_gradesIn_30) (gb_li (q_il 2) (gb_li (q_ci 1) (gb_li (q_il 3) (gb_li (q_ib _) (gb_li (q_ib _) (gb_li (q_is 2) (l_X7_gradesIn_30)))))))))))))))))))
theorem s_X7_gradesIn_4   {κ : gb_K} (hκ : ∀ q, gb_S RX7 cX7_gradesIn 4 (gb_rm 0 0) 1 q (κ q)) : gb_S RX7 cX7_gradesIn 4 (gb_rm 0 0) 1 4 (k_X7_gradesIn_4 κ) := (s_iln 3 rfl dX7_gradesIn_4 (s_bipush (by decide +kernel) dX7_gradesIn_5 (s_cge (tgt := 36) (by decide +kernel) dX7_gradesIn_7 (s_iln 2 rfl dX7_gradesIn_36 (s_ri rfl dX7_gradesIn_37)) (s_aln 0 rfl dX7_gradesIn_10 (s_gf (T := TX7) winX7 rfl (Nat.le_of_ble_eq_true rfl) gw_43 rfl dX7_gradesIn_11 (s_iln 1 rfl dX7_gradesIn_14 (s_bipush (by decide +kernel) dX7_gradesIn_15 (s_imul dX7_gradesIn_17 (s_iln 3 rfl dX7_gradesIn_18 (s_iadd dX7_gradesIn_19 (s_iald dX7_gradesIn_20 (s_zle (tgt := 30) (by decide +kernel) dX7_gradesIn_21 (s_X7_gradesIn_30 hκ) (s_iln 2 rfl dX7_gradesIn_24 (s_iconst (by decide +kernel) dX7_gradesIn_25 (s_iln 3 rfl dX7_gradesIn_26 (s_ishl dX7_gradesIn_27 (s_ior dX7_gradesIn_28 (s_isn 2 rfl (Nat.le_of_ble_eq_true rfl) dX7_gradesIn_29 (s_X7_gradesIn_30 hκ)))))))))))))))))))
noncomputable def B_X7_gradesIn : List (Nat × (gb_K → gb_C)) := [(4, fun κ => k_X7_gradesIn_4 κ)]
noncomputable def K_X7_gradesIn : gb_K := gb_fx (gb_tb (B_X7_gradesIn))
theorem L_X7_gradesIn : ∀ q, gb_Li (fun κ => gb_tb (B_X7_gradesIn) κ q) := gb_tb_li (List.forall_mem_cons.mpr ⟨l_X7_gradesIn_4, (fun _ h => absurd h List.not_mem_nil)⟩)
theorem S_X7_gradesIn   : ∀ q, gb_S RX7 cX7_gradesIn 4 (gb_rm 0 0) 1 q (K_X7_gradesIn q) := fun q => gb_fx_S (L_X7_gradesIn) (gb_tb_S (List.forall_mem_cons.mpr ⟨fun κ hκ => s_X7_gradesIn_4 hκ, (fun _ h => absurd h List.not_mem_nil)⟩)) q
noncomputable def f_X7_gradesIn : gb_F := gb_hide (gb_mf 4 (k_X7_gradesIn_0 (K_X7_gradesIn)))
theorem c_X7_gradesIn : ∀ l, gb_Met l yX7_gradesIn cX7_gradesIn 4 (some .int) 1 (gb_rm 0 0) f_X7_gradesIn := gb_hide_c (gb_met (own := RX7) (rk := 1) rfl (by decide +kernel) ⟨rfl, rfl⟩ (s_X7_gradesIn_0 (S_X7_gradesIn)))
theorem dX7_onTop_0 : decode cX7_onTop 0 = .ok (.aload_n 0, 1) := by decide +kernel
theorem dX7_onTop_1 : decode cX7_onTop 1 = .ok (.getfield 18, 3) := by decide +kernel
theorem dX7_onTop_4 : decode cX7_onTop 4 = .ok (.iload_n 1, 1) := by decide +kernel
theorem dX7_onTop_5 : decode cX7_onTop 5 = .ok (.iaload, 1) := by decide +kernel
theorem dX7_onTop_6 : decode cX7_onTop 6 = .ok (.ifCond .ne 5, 3) := by decide +kernel
theorem dX7_onTop_9 : decode cX7_onTop 9 = .ok (.iconst 0, 1) := by decide +kernel
theorem dX7_onTop_10 : decode cX7_onTop 10 = .ok (.ireturn, 1) := by decide +kernel
theorem dX7_onTop_11 : decode cX7_onTop 11 = .ok (.iload_n 1, 1) := by decide +kernel
theorem dX7_onTop_12 : decode cX7_onTop 12 = .ok (.aload_n 0, 1) := by decide +kernel
theorem dX7_onTop_13 : decode cX7_onTop 13 = .ok (.getfield 18, 3) := by decide +kernel
theorem dX7_onTop_16 : decode cX7_onTop 16 = .ok (.iload_n 1, 1) := by decide +kernel
theorem dX7_onTop_17 : decode cX7_onTop 17 = .ok (.iaload, 1) := by decide +kernel
theorem dX7_onTop_18 : decode cX7_onTop 18 = .ok (.iconst 1, 1) := by decide +kernel
theorem dX7_onTop_19 : decode cX7_onTop 19 = .ok (.isub, 1) := by decide +kernel
theorem dX7_onTop_20 : decode cX7_onTop 20 = .ok (.invokestatic 51, 3) := by decide +kernel
theorem dX7_onTop_23 : decode cX7_onTop 23 = .ok (.istore 4, 2) := by decide +kernel
theorem dX7_onTop_25 : decode cX7_onTop 25 = .ok (.aload_n 0, 1) := by decide +kernel
theorem dX7_onTop_26 : decode cX7_onTop 26 = .ok (.getfield 24, 3) := by decide +kernel
theorem dX7_onTop_29 : decode cX7_onTop 29 = .ok (.iload 4, 2) := by decide +kernel
theorem dX7_onTop_31 : decode cX7_onTop 31 = .ok (.iaload, 1) := by decide +kernel
theorem dX7_onTop_32 : decode cX7_onTop 32 = .ok (.iload_n 2, 1) := by decide +kernel
theorem dX7_onTop_33 : decode cX7_onTop 33 = .ok (.if_icmp .ne 18, 3) := by decide +kernel
theorem dX7_onTop_36 : decode cX7_onTop 36 = .ok (.aload_n 0, 1) := by decide +kernel
theorem dX7_onTop_37 : decode cX7_onTop 37 = .ok (.getfield 30, 3) := by decide +kernel
theorem dX7_onTop_40 : decode cX7_onTop 40 = .ok (.iload 4, 2) := by decide +kernel
theorem dX7_onTop_42 : decode cX7_onTop 42 = .ok (.iaload, 1) := by decide +kernel
theorem dX7_onTop_43 : decode cX7_onTop 43 = .ok (.iload_n 3, 1) := by decide +kernel
theorem dX7_onTop_44 : decode cX7_onTop 44 = .ok (.if_icmp .ne 7, 3) := by decide +kernel
theorem dX7_onTop_47 : decode cX7_onTop 47 = .ok (.iconst 1, 1) := by decide +kernel
theorem dX7_onTop_48 : decode cX7_onTop 48 = .ok (.goto 4, 3) := by decide +kernel
theorem dX7_onTop_51 : decode cX7_onTop 51 = .ok (.iconst 0, 1) := by decide +kernel
theorem dX7_onTop_52 : decode cX7_onTop 52 = .ok (.ireturn, 1) := by decide +kernel
theorem v_X7_onTop : yX7_onTop.cls = RX7 ∧ yX7_onTop.cls ≠ "java/lang/invoke/MethodHandle" ∧ yX7_onTop.cls ≠ "java/lang/invoke/VarHandle" ∧ (parseMethodDescriptor yX7_onTop.desc).map (fun d => d.parameters.length) = some 3 := ⟨rfl, by decide +kernel, by decide +kernel, by decide +kernel⟩
noncomputable def k_X7_onTop_52 (κ : gb_K) : gb_C := o_rz
theorem l_X7_onTop_52 : gb_Li (fun κ => k_X7_onTop_52 κ) := (gb_li0 _)
theorem s_X7_onTop_52   {κ : gb_K} (hκ : ∀ q, gb_S RX7 cX7_onTop 5 (gb_rm 1 21) 2 q (κ q)) : gb_S RX7 cX7_onTop 5 (gb_rm 1 21) 2 52 (k_X7_onTop_52 κ) := (s_rz rfl dX7_onTop_52)
noncomputable def k_X7_onTop_51 (κ : gb_K) : gb_C := (o_ci 0 (k_X7_onTop_52 κ))
theorem l_X7_onTop_51 : gb_Li (fun κ => k_X7_onTop_51 κ) := (gb_li (q_ci 0) (l_X7_onTop_52))
theorem s_X7_onTop_51   {κ : gb_K} (hκ : ∀ q, gb_S RX7 cX7_onTop 5 (gb_rm 1 21) 2 q (κ q)) : gb_S RX7 cX7_onTop 5 (gb_rm 1 21) 2 51 (k_X7_onTop_51 κ) := (s_iconst (by decide +kernel) dX7_onTop_51 (s_X7_onTop_52 hκ))
noncomputable def k_X7_onTop_0 (κ : gb_K) : gb_C := (o_al 0 (o_gf 7 3 (o_il 1 (o_iald (o_zeq (o_ci 0 o_rz) (o_il 1 (o_al 0 (o_gf 7 3 (o_il 1 (o_iald (o_ci 1 (o_ib (fun x y => x - y) (o_cs 2 1 f_X7_place (o_is 4 (o_al 0 (o_gf 7 5 (o_il 4 (o_iald (o_il 2 (o_ceq (o_al 0 (o_gf 7 7 (o_il 4 (o_iald (o_il 3 (o_ceq (o_ci 1 (k_X7_onTop_52 κ)) (k_X7_onTop_51 κ))))))) (k_X7_onTop_51 κ)))))))))))))))))))))
theorem l_X7_onTop_0 : gb_Li (fun κ => k_X7_onTop_0 κ) := (gb_li (q_al 0) (gb_li (q_gf 7 3) (gb_li (q_il 1) (gb_li q_iald (q_zeq (gb_li (q_ci 0) (gb_li0 _)) (gb_li (q_il 1) (gb_li (q_al 0) (gb_li (q_gf 7 3) (gb_li (q_il 1) (gb_li q_iald (gb_li (q_ci 1) (gb_li (q_ib _) (gb_li (q_cs 2 1 f_X7_place) (gb_li (q_is 4) (gb_li (q_al 0) (gb_li (q_gf 7 5) (gb_li (q_il 4) (gb_li q_iald (gb_li (q_il 2) (q_ceq (gb_li (q_al 0) (gb_li (q_gf 7 7) (gb_li (q_il 4) (gb_li q_iald (gb_li (q_il 3) (q_ceq (gb_li (q_ci 1) (l_X7_onTop_52)) (l_X7_onTop_51))))))) (l_X7_onTop_51)))))))))))))))))))))
theorem s_X7_onTop_0   {κ : gb_K} (hκ : ∀ q, gb_S RX7 cX7_onTop 5 (gb_rm 1 21) 2 q (κ q)) : gb_S RX7 cX7_onTop 5 (gb_rm 1 21) 2 0 (k_X7_onTop_0 κ) := (s_aln 0 rfl dX7_onTop_0 (s_gf (T := TX7) winX7 rfl (Nat.le_of_ble_eq_true rfl) gw_41 rfl dX7_onTop_1 (s_iln 1 rfl dX7_onTop_4 (s_iald dX7_onTop_5 (s_zne (tgt := 11) (by decide +kernel) dX7_onTop_6 (s_iln 1 rfl dX7_onTop_11 (s_aln 0 rfl dX7_onTop_12 (s_gf (T := TX7) winX7 rfl (Nat.le_of_ble_eq_true rfl) gw_41 rfl dX7_onTop_13 (s_iln 1 rfl dX7_onTop_16 (s_iald dX7_onTop_17 (s_iconst (by decide +kernel) dX7_onTop_18 (s_isub dX7_onTop_19 (s_cs c_X7_place (gb_l4 gw_45 gw_23 gw_11 gw_24) v_X7_place.2 ⟨rfl, rfl⟩ ⟨Nat.le_of_ble_eq_true rfl, Nat.le_of_ble_eq_true rfl⟩ dX7_onTop_20 (s_is (Nat.le_of_ble_eq_true rfl) dX7_onTop_23 (s_aln 0 rfl dX7_onTop_25 (s_gf (T := TX7) winX7 rfl (Nat.le_of_ble_eq_true rfl) gw_46 rfl dX7_onTop_26 (s_il dX7_onTop_29 (s_iald dX7_onTop_31 (s_iln 2 rfl dX7_onTop_32 (s_cne (tgt := 51) (by decide +kernel) dX7_onTop_33 (s_X7_onTop_51 hκ) (s_aln 0 rfl dX7_onTop_36 (s_gf (T := TX7) winX7 rfl (Nat.le_of_ble_eq_true rfl) gw_44 rfl dX7_onTop_37 (s_il dX7_onTop_40 (s_iald dX7_onTop_42 (s_iln 3 rfl dX7_onTop_43 (s_cne (tgt := 51) (by decide +kernel) dX7_onTop_44 (s_X7_onTop_51 hκ) (s_iconst (by decide +kernel) dX7_onTop_47 (s_goto (tgt := 52) (by decide +kernel) dX7_onTop_48 (s_X7_onTop_52 hκ)))))))))))))))))))))))) (s_iconst (by decide +kernel) dX7_onTop_9 (s_rz rfl dX7_onTop_10)))))))
noncomputable def f_X7_onTop : gb_F := gb_hide (gb_mf 5 (k_X7_onTop_0 gb_n))
theorem c_X7_onTop : ∀ l, gb_Met l yX7_onTop cX7_onTop 5 (some .boolean) 2 (gb_rm 1 21) f_X7_onTop := gb_hide_c (gb_met (own := RX7) (rk := 2) rfl (by decide +kernel) ⟨rfl, rfl⟩ (s_X7_onTop_0 gb_S_n))
theorem dX7_why_0 : decode cX7_why 0 = .ok (.aload_n 0, 1) := by decide +kernel
theorem dX7_why_1 : decode cX7_why 1 = .ok (.iload_n 1, 1) := by decide +kernel
theorem dX7_why_2 : decode cX7_why 2 = .ok (.invokevirtual 60, 3) := by decide +kernel
theorem dX7_why_5 : decode cX7_why 5 = .ok (.ifCond .eq 6, 3) := by decide +kernel
theorem dX7_why_8 : decode cX7_why 8 = .ok (.bipush (-2), 2) := by decide +kernel
theorem dX7_why_10 : decode cX7_why 10 = .ok (.ireturn, 1) := by decide +kernel
theorem dX7_why_11 : decode cX7_why 11 = .ok (.aload_n 0, 1) := by decide +kernel
theorem dX7_why_12 : decode cX7_why 12 = .ok (.getfield 21, 3) := by decide +kernel
theorem dX7_why_15 : decode cX7_why 15 = .ok (.iload_n 1, 1) := by decide +kernel
theorem dX7_why_16 : decode cX7_why 16 = .ok (.iaload, 1) := by decide +kernel
theorem dX7_why_17 : decode cX7_why 17 = .ok (.iload_n 3, 1) := by decide +kernel
theorem dX7_why_18 : decode cX7_why 18 = .ok (.iadd, 1) := by decide +kernel
theorem dX7_why_19 : decode cX7_why 19 = .ok (.aload_n 0, 1) := by decide +kernel
theorem dX7_why_20 : decode cX7_why 20 = .ok (.getfield 36, 3) := by decide +kernel
theorem dX7_why_23 : decode cX7_why 23 = .ok (.getfield 64, 3) := by decide +kernel
theorem dX7_why_26 : decode cX7_why 26 = .ok (.iload_n 1, 1) := by decide +kernel
theorem dX7_why_27 : decode cX7_why 27 = .ok (.iaload, 1) := by decide +kernel
theorem dX7_why_28 : decode cX7_why 28 = .ok (.if_icmp .le 6, 3) := by decide +kernel
theorem dX7_why_31 : decode cX7_why 31 = .ok (.bipush (-4), 2) := by decide +kernel
theorem dX7_why_33 : decode cX7_why 33 = .ok (.ireturn, 1) := by decide +kernel
theorem dX7_why_34 : decode cX7_why 34 = .ok (.aload_n 0, 1) := by decide +kernel
theorem dX7_why_35 : decode cX7_why 35 = .ok (.iload_n 1, 1) := by decide +kernel
theorem dX7_why_36 : decode cX7_why 36 = .ok (.invokevirtual 67, 3) := by decide +kernel
theorem dX7_why_39 : decode cX7_why 39 = .ok (.aload_n 0, 1) := by decide +kernel
theorem dX7_why_40 : decode cX7_why 40 = .ok (.getfield 36, 3) := by decide +kernel
theorem dX7_why_43 : decode cX7_why 43 = .ok (.getfield 71, 3) := by decide +kernel
theorem dX7_why_46 : decode cX7_why 46 = .ok (.iload_n 2, 1) := by decide +kernel
theorem dX7_why_47 : decode cX7_why 47 = .ok (.iaload, 1) := by decide +kernel
theorem dX7_why_48 : decode cX7_why 48 = .ok (.iand, 1) := by decide +kernel
theorem dX7_why_49 : decode cX7_why 49 = .ok (.ifCond .eq 6, 3) := by decide +kernel
theorem dX7_why_52 : decode cX7_why 52 = .ok (.bipush (-5), 2) := by decide +kernel
theorem dX7_why_54 : decode cX7_why 54 = .ok (.ireturn, 1) := by decide +kernel
theorem dX7_why_55 : decode cX7_why 55 = .ok (.aload_n 0, 1) := by decide +kernel
theorem dX7_why_56 : decode cX7_why 56 = .ok (.getfield 18, 3) := by decide +kernel
theorem dX7_why_59 : decode cX7_why 59 = .ok (.iload_n 1, 1) := by decide +kernel
theorem dX7_why_60 : decode cX7_why 60 = .ok (.iaload, 1) := by decide +kernel
theorem dX7_why_61 : decode cX7_why 61 = .ok (.bipush 6, 2) := by decide +kernel
theorem dX7_why_63 : decode cX7_why 63 = .ok (.if_icmp .lt 18, 3) := by decide +kernel
theorem dX7_why_66 : decode cX7_why 66 = .ok (.aload_n 0, 1) := by decide +kernel
theorem dX7_why_67 : decode cX7_why 67 = .ok (.iload_n 1, 1) := by decide +kernel
theorem dX7_why_68 : decode cX7_why 68 = .ok (.iload_n 2, 1) := by decide +kernel
theorem dX7_why_69 : decode cX7_why 69 = .ok (.iload 4, 2) := by decide +kernel
theorem dX7_why_71 : decode cX7_why 71 = .ok (.invokevirtual 74, 3) := by decide +kernel
theorem dX7_why_74 : decode cX7_why 74 = .ok (.ifCond .ne 7, 3) := by decide +kernel
theorem dX7_why_77 : decode cX7_why 77 = .ok (.iconst 1, 1) := by decide +kernel
theorem dX7_why_78 : decode cX7_why 78 = .ok (.goto 4, 3) := by decide +kernel
theorem dX7_why_81 : decode cX7_why 81 = .ok (.iconst 0, 1) := by decide +kernel
theorem dX7_why_82 : decode cX7_why 82 = .ok (.istore 5, 2) := by decide +kernel
theorem dX7_why_84 : decode cX7_why 84 = .ok (.iload 5, 2) := by decide +kernel
theorem dX7_why_86 : decode cX7_why 86 = .ok (.ifCond .eq 8, 3) := by decide +kernel
theorem dX7_why_89 : decode cX7_why 89 = .ok (.bipush (-6), 2) := by decide +kernel
theorem dX7_why_91 : decode cX7_why 91 = .ok (.goto 4, 3) := by decide +kernel
theorem dX7_why_94 : decode cX7_why 94 = .ok (.iconst 0, 1) := by decide +kernel
theorem dX7_why_95 : decode cX7_why 95 = .ok (.ireturn, 1) := by decide +kernel
theorem v_X7_why : yX7_why.cls = RX7 ∧ yX7_why.cls ≠ "java/lang/invoke/MethodHandle" ∧ yX7_why.cls ≠ "java/lang/invoke/VarHandle" ∧ (parseMethodDescriptor yX7_why.desc).map (fun d => d.parameters.length) = some 4 := ⟨rfl, by decide +kernel, by decide +kernel, by decide +kernel⟩
noncomputable def k_X7_why_95 (κ : gb_K) : gb_C := o_ri
theorem l_X7_why_95 : gb_Li (fun κ => k_X7_why_95 κ) := (gb_li0 _)
theorem s_X7_why_95   {κ : gb_K} (hκ : ∀ q, gb_S RX7 cX7_why 6 (gb_rm 2 45) 1 q (κ q)) : gb_S RX7 cX7_why 6 (gb_rm 2 45) 1 95 (k_X7_why_95 κ) := (s_ri rfl dX7_why_95)
noncomputable def k_X7_why_82 (κ : gb_K) : gb_C := (o_is 5 (o_il 5 (o_zeq (o_ci 0 (k_X7_why_95 κ)) (o_ci (-6) (k_X7_why_95 κ)))))
theorem l_X7_why_82 : gb_Li (fun κ => k_X7_why_82 κ) := (gb_li (q_is 5) (gb_li (q_il 5) (q_zeq (gb_li (q_ci 0) (l_X7_why_95)) (gb_li (q_ci (-6)) (l_X7_why_95)))))
theorem s_X7_why_82   {κ : gb_K} (hκ : ∀ q, gb_S RX7 cX7_why 6 (gb_rm 2 45) 1 q (κ q)) : gb_S RX7 cX7_why 6 (gb_rm 2 45) 1 82 (k_X7_why_82 κ) := (s_is (Nat.le_of_ble_eq_true rfl) dX7_why_82 (s_il dX7_why_84 (s_zeq (tgt := 94) (by decide +kernel) dX7_why_86 (s_iconst (by decide +kernel) dX7_why_94 (s_X7_why_95 hκ)) (s_bipush (by decide +kernel) dX7_why_89 (s_goto (tgt := 95) (by decide +kernel) dX7_why_91 (s_X7_why_95 hκ))))))
noncomputable def k_X7_why_81 (κ : gb_K) : gb_C := (o_ci 0 (k_X7_why_82 κ))
theorem l_X7_why_81 : gb_Li (fun κ => k_X7_why_81 κ) := (gb_li (q_ci 0) (l_X7_why_82))
theorem s_X7_why_81   {κ : gb_K} (hκ : ∀ q, gb_S RX7 cX7_why 6 (gb_rm 2 45) 1 q (κ q)) : gb_S RX7 cX7_why 6 (gb_rm 2 45) 1 81 (k_X7_why_81 κ) := (s_iconst (by decide +kernel) dX7_why_81 (s_X7_why_82 hκ))
noncomputable def k_X7_why_61 (κ : gb_K) : gb_C := (o_ci 6 (o_clt (k_X7_why_81 κ) (o_al 0 (o_il 1 (o_il 2 (o_il 4 (o_cv 3 7 2 f_X7_onTop (o_zeq (o_ci 1 (k_X7_why_82 κ)) (k_X7_why_81 κ)))))))))
theorem l_X7_why_61 : gb_Li (fun κ => k_X7_why_61 κ) := (gb_li (q_ci 6) (q_clt (l_X7_why_81) (gb_li (q_al 0) (gb_li (q_il 1) (gb_li (q_il 2) (gb_li (q_il 4) (gb_li (q_cv 3 7 2 f_X7_onTop) (q_zeq (gb_li (q_ci 1) (l_X7_why_82)) (l_X7_why_81)))))))))
theorem s_X7_why_61   {κ : gb_K} (hκ : ∀ q, gb_S RX7 cX7_why 6 (gb_rm 2 45) 1 q (κ q)) : gb_S RX7 cX7_why 6 (gb_rm 2 45) 1 61 (k_X7_why_61 κ) := (s_bipush (by decide +kernel) dX7_why_61 (s_clt (tgt := 81) (by decide +kernel) dX7_why_63 (s_X7_why_81 hκ) (s_aln 0 rfl dX7_why_66 (s_iln 1 rfl dX7_why_67 (s_iln 2 rfl dX7_why_68 (s_il dX7_why_69 (s_cv (C := RX7) c_X7_onTop rfl (gb_l5 gw_60 gw_61 gw_62 gw_11 gw_63) v_X7_onTop ⟨rfl, rfl⟩ ⟨Nat.le_of_ble_eq_true rfl, Nat.le_of_ble_eq_true rfl⟩ dX7_why_71 (s_zne (tgt := 81) (by decide +kernel) dX7_why_74 (s_X7_why_81 hκ) (s_iconst (by decide +kernel) dX7_why_77 (s_goto (tgt := 82) (by decide +kernel) dX7_why_78 (s_X7_why_82 hκ)))))))))))
noncomputable def k_X7_why_0 (κ : gb_K) : gb_C := (o_al 0 (o_il 1 (o_cv 1 7 2 f_X7_closed (o_zeq (o_al 0 (o_gf 7 4 (o_il 1 (o_iald (o_il 3 (o_ib (fun x y => x + y) (o_al 0 (o_gf 7 0 (o_gf 5 2 (o_il 1 (o_iald (o_cle (o_al 0 (o_il 1 (o_cv 1 7 1 f_X7_gradesIn (o_al 0 (o_gf 7 0 (o_gf 5 4 (o_il 2 (o_iald (o_ib (fun x y => x &&& y) (o_zeq (o_al 0 (o_gf 7 3 (o_il 1 (o_iald (k_X7_why_61 κ))))) (o_ci (-5) o_ri))))))))))) (o_ci (-4) o_ri))))))))))))) (o_ci (-2) o_ri)))))
theorem l_X7_why_0 : gb_Li (fun κ => k_X7_why_0 κ) := (gb_li (q_al 0) (gb_li (q_il 1) (gb_li (q_cv 1 7 2 f_X7_closed) (q_zeq (gb_li (q_al 0) (gb_li (q_gf 7 4) (gb_li (q_il 1) (gb_li q_iald (gb_li (q_il 3) (gb_li (q_ib _) (gb_li (q_al 0) (gb_li (q_gf 7 0) (gb_li (q_gf 5 2) (gb_li (q_il 1) (gb_li q_iald (q_cle (gb_li (q_al 0) (gb_li (q_il 1) (gb_li (q_cv 1 7 1 f_X7_gradesIn) (gb_li (q_al 0) (gb_li (q_gf 7 0) (gb_li (q_gf 5 4) (gb_li (q_il 2) (gb_li q_iald (gb_li (q_ib _) (q_zeq (gb_li (q_al 0) (gb_li (q_gf 7 3) (gb_li (q_il 1) (gb_li q_iald (l_X7_why_61))))) (gb_li (q_ci (-5)) (gb_li0 _)))))))))))) (gb_li (q_ci (-4)) (gb_li0 _)))))))))))))) (gb_li (q_ci (-2)) (gb_li0 _))))))
theorem s_X7_why_0   {κ : gb_K} (hκ : ∀ q, gb_S RX7 cX7_why 6 (gb_rm 2 45) 1 q (κ q)) : gb_S RX7 cX7_why 6 (gb_rm 2 45) 1 0 (k_X7_why_0 κ) := (s_aln 0 rfl dX7_why_0 (s_iln 1 rfl dX7_why_1 (s_cv (C := RX7) c_X7_closed rfl (gb_l5 gw_64 gw_9 gw_10 gw_11 gw_12) v_X7_closed ⟨rfl, rfl⟩ ⟨Nat.le_of_ble_eq_true rfl, Nat.le_of_ble_eq_true rfl⟩ dX7_why_2 (s_zeq (tgt := 11) (by decide +kernel) dX7_why_5 (s_aln 0 rfl dX7_why_11 (s_gf (T := TX7) winX7 rfl (Nat.le_of_ble_eq_true rfl) gw_42 rfl dX7_why_12 (s_iln 1 rfl dX7_why_15 (s_iald dX7_why_16 (s_iln 3 rfl dX7_why_17 (s_iadd dX7_why_18 (s_aln 0 rfl dX7_why_19 (s_gf (T := TX7) winX7 rfl (Nat.le_of_ble_eq_true rfl) gw_65 rfl dX7_why_20 (s_gf (T := TX5) winX5 rfl (Nat.le_of_ble_eq_true rfl) gw_66 rfl dX7_why_23 (s_iln 1 rfl dX7_why_26 (s_iald dX7_why_27 (s_cle (tgt := 34) (by decide +kernel) dX7_why_28 (s_aln 0 rfl dX7_why_34 (s_iln 1 rfl dX7_why_35 (s_cv (C := RX7) c_X7_gradesIn rfl (gb_l5 gw_67 gw_68 gw_69 gw_11 gw_70) v_X7_gradesIn ⟨rfl, rfl⟩ ⟨Nat.le_of_ble_eq_true rfl, Nat.le_of_ble_eq_true rfl⟩ dX7_why_36 (s_aln 0 rfl dX7_why_39 (s_gf (T := TX7) winX7 rfl (Nat.le_of_ble_eq_true rfl) gw_65 rfl dX7_why_40 (s_gf (T := TX5) winX5 rfl (Nat.le_of_ble_eq_true rfl) gw_71 rfl dX7_why_43 (s_iln 2 rfl dX7_why_46 (s_iald dX7_why_47 (s_iand dX7_why_48 (s_zeq (tgt := 55) (by decide +kernel) dX7_why_49 (s_aln 0 rfl dX7_why_55 (s_gf (T := TX7) winX7 rfl (Nat.le_of_ble_eq_true rfl) gw_41 rfl dX7_why_56 (s_iln 1 rfl dX7_why_59 (s_iald dX7_why_60 (s_X7_why_61 hκ))))) (s_bipush (by decide +kernel) dX7_why_52 (s_ri rfl dX7_why_54)))))))))))) (s_bipush (by decide +kernel) dX7_why_31 (s_ri rfl dX7_why_33)))))))))))))) (s_bipush (by decide +kernel) dX7_why_8 (s_ri rfl dX7_why_10))))))
noncomputable def f_X7_why : gb_F := gb_hide (gb_mf 6 (k_X7_why_0 gb_n))
theorem c_X7_why : ∀ l, gb_Met l yX7_why cX7_why 6 (some .int) 1 (gb_rm 2 45) f_X7_why := gb_hide_c (gb_met (own := RX7) (rk := 1) rfl (by decide +kernel) ⟨rfl, rfl⟩ (s_X7_why_0 gb_S_n))
theorem dX1_mayLie_0 : decode cX1_mayLie 0 = .ok (.iload_n 1, 1) := by decide +kernel
theorem dX1_mayLie_1 : decode cX1_mayLie 1 = .ok (.aload_n 0, 1) := by decide +kernel
theorem dX1_mayLie_2 : decode cX1_mayLie 2 = .ok (.getfield 60, 3) := by decide +kernel
theorem dX1_mayLie_5 : decode cX1_mayLie 5 = .ok (.if_icmp .eq 45, 3) := by decide +kernel
theorem dX1_mayLie_8 : decode cX1_mayLie 8 = .ok (.aload_n 0, 1) := by decide +kernel
theorem dX1_mayLie_9 : decode cX1_mayLie 9 = .ok (.getfield 25, 3) := by decide +kernel
theorem dX1_mayLie_12 : decode cX1_mayLie 12 = .ok (.iload_n 1, 1) := by decide +kernel
theorem dX1_mayLie_13 : decode cX1_mayLie 13 = .ok (.aload_n 0, 1) := by decide +kernel
theorem dX1_mayLie_14 : decode cX1_mayLie 14 = .ok (.getfield 29, 3) := by decide +kernel
theorem dX1_mayLie_17 : decode cX1_mayLie 17 = .ok (.getfield 70, 3) := by decide +kernel
theorem dX1_mayLie_20 : decode cX1_mayLie 20 = .ok (.iload_n 2, 1) := by decide +kernel
theorem dX1_mayLie_21 : decode cX1_mayLie 21 = .ok (.iaload, 1) := by decide +kernel
theorem dX1_mayLie_22 : decode cX1_mayLie 22 = .ok (.aload_n 0, 1) := by decide +kernel
theorem dX1_mayLie_23 : decode cX1_mayLie 23 = .ok (.getfield 29, 3) := by decide +kernel
theorem dX1_mayLie_26 : decode cX1_mayLie 26 = .ok (.getfield 73, 3) := by decide +kernel
theorem dX1_mayLie_29 : decode cX1_mayLie 29 = .ok (.iload_n 2, 1) := by decide +kernel
theorem dX1_mayLie_30 : decode cX1_mayLie 30 = .ok (.iaload, 1) := by decide +kernel
theorem dX1_mayLie_31 : decode cX1_mayLie 31 = .ok (.aload_n 0, 1) := by decide +kernel
theorem dX1_mayLie_32 : decode cX1_mayLie 32 = .ok (.getfield 29, 3) := by decide +kernel
theorem dX1_mayLie_35 : decode cX1_mayLie 35 = .ok (.getfield 76, 3) := by decide +kernel
theorem dX1_mayLie_38 : decode cX1_mayLie 38 = .ok (.iload_n 2, 1) := by decide +kernel
theorem dX1_mayLie_39 : decode cX1_mayLie 39 = .ok (.iaload, 1) := by decide +kernel
theorem dX1_mayLie_40 : decode cX1_mayLie 40 = .ok (.invokevirtual 79, 3) := by decide +kernel
theorem dX1_mayLie_43 : decode cX1_mayLie 43 = .ok (.ifCond .ne 7, 3) := by decide +kernel
theorem dX1_mayLie_46 : decode cX1_mayLie 46 = .ok (.iconst 1, 1) := by decide +kernel
theorem dX1_mayLie_47 : decode cX1_mayLie 47 = .ok (.goto 4, 3) := by decide +kernel
theorem dX1_mayLie_50 : decode cX1_mayLie 50 = .ok (.iconst 0, 1) := by decide +kernel
theorem dX1_mayLie_51 : decode cX1_mayLie 51 = .ok (.ireturn, 1) := by decide +kernel
theorem v_X1_mayLie : yX1_mayLie.cls = RX1 ∧ yX1_mayLie.cls ≠ "java/lang/invoke/MethodHandle" ∧ yX1_mayLie.cls ≠ "java/lang/invoke/VarHandle" ∧ (parseMethodDescriptor yX1_mayLie.desc).map (fun d => d.parameters.length) = some 2 := ⟨rfl, by decide +kernel, by decide +kernel, by decide +kernel⟩
noncomputable def k_X1_mayLie_51 (κ : gb_K) : gb_C := o_rz
theorem l_X1_mayLie_51 : gb_Li (fun κ => k_X1_mayLie_51 κ) := (gb_li0 _)
theorem s_X1_mayLie_51   {κ : gb_K} (hκ : ∀ q, gb_S RX1 cX1_mayLie 3 (gb_rm 3 70) 2 q (κ q)) : gb_S RX1 cX1_mayLie 3 (gb_rm 3 70) 2 51 (k_X1_mayLie_51 κ) := (s_rz rfl dX1_mayLie_51)
noncomputable def k_X1_mayLie_50 (κ : gb_K) : gb_C := (o_ci 0 (k_X1_mayLie_51 κ))
theorem l_X1_mayLie_50 : gb_Li (fun κ => k_X1_mayLie_50 κ) := (gb_li (q_ci 0) (l_X1_mayLie_51))
theorem s_X1_mayLie_50   {κ : gb_K} (hκ : ∀ q, gb_S RX1 cX1_mayLie 3 (gb_rm 3 70) 2 q (κ q)) : gb_S RX1 cX1_mayLie 3 (gb_rm 3 70) 2 50 (k_X1_mayLie_50 κ) := (s_iconst (by decide +kernel) dX1_mayLie_50 (s_X1_mayLie_51 hκ))
noncomputable def k_X1_mayLie_0 (κ : gb_K) : gb_C := (o_il 1 (o_al 0 (o_gf 1 4 (o_ceq (k_X1_mayLie_50 κ) (o_al 0 (o_gf 1 0 (o_il 1 (o_al 0 (o_gf 1 1 (o_gf 2 0 (o_il 2 (o_iald (o_al 0 (o_gf 1 1 (o_gf 2 1 (o_il 2 (o_iald (o_al 0 (o_gf 1 1 (o_gf 2 2 (o_il 2 (o_iald (o_cv 4 7 1 f_X7_why (o_zeq (o_ci 1 (k_X1_mayLie_51 κ)) (k_X1_mayLie_50 κ)))))))))))))))))))))))))
theorem l_X1_mayLie_0 : gb_Li (fun κ => k_X1_mayLie_0 κ) := (gb_li (q_il 1) (gb_li (q_al 0) (gb_li (q_gf 1 4) (q_ceq (l_X1_mayLie_50) (gb_li (q_al 0) (gb_li (q_gf 1 0) (gb_li (q_il 1) (gb_li (q_al 0) (gb_li (q_gf 1 1) (gb_li (q_gf 2 0) (gb_li (q_il 2) (gb_li q_iald (gb_li (q_al 0) (gb_li (q_gf 1 1) (gb_li (q_gf 2 1) (gb_li (q_il 2) (gb_li q_iald (gb_li (q_al 0) (gb_li (q_gf 1 1) (gb_li (q_gf 2 2) (gb_li (q_il 2) (gb_li q_iald (gb_li (q_cv 4 7 1 f_X7_why) (q_zeq (gb_li (q_ci 1) (l_X1_mayLie_51)) (l_X1_mayLie_50)))))))))))))))))))))))))
theorem s_X1_mayLie_0   {κ : gb_K} (hκ : ∀ q, gb_S RX1 cX1_mayLie 3 (gb_rm 3 70) 2 q (κ q)) : gb_S RX1 cX1_mayLie 3 (gb_rm 3 70) 2 0 (k_X1_mayLie_0 κ) := (s_iln 1 rfl dX1_mayLie_0 (s_aln 0 rfl dX1_mayLie_1 (s_gf (T := TX1) winX1 rfl (Nat.le_of_ble_eq_true rfl) gw_59 rfl dX1_mayLie_2 (s_ceq (tgt := 50) (by decide +kernel) dX1_mayLie_5 (s_X1_mayLie_50 hκ) (s_aln 0 rfl dX1_mayLie_8 (s_gf (T := TX1) winX1 rfl (Nat.le_of_ble_eq_true rfl) gw_54 rfl dX1_mayLie_9 (s_iln 1 rfl dX1_mayLie_12 (s_aln 0 rfl dX1_mayLie_13 (s_gf (T := TX1) winX1 rfl (Nat.le_of_ble_eq_true rfl) gw_72 rfl dX1_mayLie_14 (s_gf (T := TX2) winX2 rfl (Nat.le_of_ble_eq_true rfl) gw_73 rfl dX1_mayLie_17 (s_iln 2 rfl dX1_mayLie_20 (s_iald dX1_mayLie_21 (s_aln 0 rfl dX1_mayLie_22 (s_gf (T := TX1) winX1 rfl (Nat.le_of_ble_eq_true rfl) gw_72 rfl dX1_mayLie_23 (s_gf (T := TX2) winX2 rfl (Nat.le_of_ble_eq_true rfl) gw_74 rfl dX1_mayLie_26 (s_iln 2 rfl dX1_mayLie_29 (s_iald dX1_mayLie_30 (s_aln 0 rfl dX1_mayLie_31 (s_gf (T := TX1) winX1 rfl (Nat.le_of_ble_eq_true rfl) gw_72 rfl dX1_mayLie_32 (s_gf (T := TX2) winX2 rfl (Nat.le_of_ble_eq_true rfl) gw_75 rfl dX1_mayLie_35 (s_iln 2 rfl dX1_mayLie_38 (s_iald dX1_mayLie_39 (s_cv (C := RX7) c_X7_why rfl (gb_l5 gw_76 gw_77 gw_78 gw_11 gw_79) v_X7_why ⟨rfl, rfl⟩ ⟨Nat.le_of_ble_eq_true rfl, Nat.le_of_ble_eq_true rfl⟩ dX1_mayLie_40 (s_zne (tgt := 50) (by decide +kernel) dX1_mayLie_43 (s_X1_mayLie_50 hκ) (s_iconst (by decide +kernel) dX1_mayLie_46 (s_goto (tgt := 51) (by decide +kernel) dX1_mayLie_47 (s_X1_mayLie_51 hκ)))))))))))))))))))))))))))
noncomputable def f_X1_mayLie : gb_F := gb_hide (gb_mf 3 (k_X1_mayLie_0 gb_n))
theorem c_X1_mayLie : ∀ l, gb_Met l yX1_mayLie cX1_mayLie 3 (some .boolean) 2 (gb_rm 3 70) f_X1_mayLie := gb_hide_c (gb_met (own := RX1) (rk := 2) rfl (by decide +kernel) ⟨rfl, rfl⟩ (s_X1_mayLie_0 gb_S_n))
theorem dX1_mightLie_0 : decode cX1_mightLie 0 = .ok (.iconst 0, 1) := by decide +kernel
theorem dX1_mightLie_1 : decode cX1_mightLie 1 = .ok (.istore_n 1, 1) := by decide +kernel
theorem dX1_mightLie_2 : decode cX1_mightLie 2 = .ok (.iload_n 1, 1) := by decide +kernel
theorem dX1_mightLie_3 : decode cX1_mightLie 3 = .ok (.aload_n 0, 1) := by decide +kernel
theorem dX1_mightLie_4 : decode cX1_mightLie 4 = .ok (.getfield 29, 3) := by decide +kernel
theorem dX1_mightLie_7 : decode cX1_mightLie 7 = .ok (.getfield 63, 3) := by decide +kernel
theorem dX1_mightLie_10 : decode cX1_mightLie 10 = .ok (.if_icmp .ge 42, 3) := by decide +kernel
theorem dX1_mightLie_13 : decode cX1_mightLie 13 = .ok (.iconst 0, 1) := by decide +kernel
theorem dX1_mightLie_14 : decode cX1_mightLie 14 = .ok (.istore_n 2, 1) := by decide +kernel
theorem dX1_mightLie_15 : decode cX1_mightLie 15 = .ok (.iconst 0, 1) := by decide +kernel
theorem dX1_mightLie_16 : decode cX1_mightLie 16 = .ok (.istore_n 3, 1) := by decide +kernel
theorem dX1_mightLie_17 : decode cX1_mightLie 17 = .ok (.iload_n 3, 1) := by decide +kernel
theorem dX1_mightLie_18 : decode cX1_mightLie 18 = .ok (.bipush 6, 2) := by decide +kernel
theorem dX1_mightLie_20 : decode cX1_mightLie 20 = .ok (.if_icmp .ge 20, 3) := by decide +kernel
theorem dX1_mightLie_23 : decode cX1_mightLie 23 = .ok (.iload_n 2, 1) := by decide +kernel
theorem dX1_mightLie_24 : decode cX1_mightLie 24 = .ok (.ifCond .ne 16, 3) := by decide +kernel
theorem dX1_mightLie_27 : decode cX1_mightLie 27 = .ok (.aload_n 0, 1) := by decide +kernel
theorem dX1_mightLie_28 : decode cX1_mightLie 28 = .ok (.iload_n 3, 1) := by decide +kernel
theorem dX1_mightLie_29 : decode cX1_mightLie 29 = .ok (.iload_n 1, 1) := by decide +kernel
theorem dX1_mightLie_30 : decode cX1_mightLie 30 = .ok (.invokevirtual 66, 3) := by decide +kernel
theorem dX1_mightLie_33 : decode cX1_mightLie 33 = .ok (.istore_n 2, 1) := by decide +kernel
theorem dX1_mightLie_34 : decode cX1_mightLie 34 = .ok (.iinc 3 1, 3) := by decide +kernel
theorem dX1_mightLie_37 : decode cX1_mightLie 37 = .ok (.goto (-20), 3) := by decide +kernel
theorem dX1_mightLie_40 : decode cX1_mightLie 40 = .ok (.iload_n 2, 1) := by decide +kernel
theorem dX1_mightLie_41 : decode cX1_mightLie 41 = .ok (.ifCond .ne 5, 3) := by decide +kernel
theorem dX1_mightLie_44 : decode cX1_mightLie 44 = .ok (.iconst 0, 1) := by decide +kernel
theorem dX1_mightLie_45 : decode cX1_mightLie 45 = .ok (.ireturn, 1) := by decide +kernel
theorem dX1_mightLie_46 : decode cX1_mightLie 46 = .ok (.iinc 1 1, 3) := by decide +kernel
theorem dX1_mightLie_49 : decode cX1_mightLie 49 = .ok (.goto (-47), 3) := by decide +kernel
theorem dX1_mightLie_52 : decode cX1_mightLie 52 = .ok (.iconst 1, 1) := by decide +kernel
theorem dX1_mightLie_53 : decode cX1_mightLie 53 = .ok (.ireturn, 1) := by decide +kernel
theorem v_X1_mightLie : yX1_mightLie.cls = RX1 ∧ yX1_mightLie.cls ≠ "java/lang/invoke/MethodHandle" ∧ yX1_mightLie.cls ≠ "java/lang/invoke/VarHandle" ∧ (parseMethodDescriptor yX1_mightLie.desc).map (fun d => d.parameters.length) = some 0 := ⟨rfl, by decide +kernel, by decide +kernel, by decide +kernel⟩
noncomputable def k_X1_mightLie_0 (κ : gb_K) : gb_C := (o_ci 0 (o_is 1 (o_j [0, 1] (κ 2))))
theorem l_X1_mightLie_0 : gb_Li (fun κ => k_X1_mightLie_0 κ) := (gb_li (q_ci 0) (gb_li (q_is 1) (q_j [0, 1] 2)))
theorem s_X1_mightLie_0   {κ : gb_K} (hκ : ∀ q, gb_S RX1 cX1_mightLie 4 (gb_rm 4 92) 2 q (κ q)) : gb_S RX1 cX1_mightLie 4 (gb_rm 4 92) 2 0 (k_X1_mightLie_0 κ) := (s_iconst (by decide +kernel) dX1_mightLie_0 (s_isn 1 rfl (Nat.le_of_ble_eq_true rfl) dX1_mightLie_1 (s_j (hκ 2))))
noncomputable def k_X1_mightLie_2 (κ : gb_K) : gb_C := (o_il 1 (o_al 0 (o_gf 1 1 (o_gf 2 3 (o_cge (o_ci 1 o_rz) (o_ci 0 (o_is 2 (o_ci 0 (o_is 3 (o_j [0, 1, 2, 3] (κ 17)))))))))))
theorem l_X1_mightLie_2 : gb_Li (fun κ => k_X1_mightLie_2 κ) := (gb_li (q_il 1) (gb_li (q_al 0) (gb_li (q_gf 1 1) (gb_li (q_gf 2 3) (q_cge (gb_li (q_ci 1) (gb_li0 _)) (gb_li (q_ci 0) (gb_li (q_is 2) (gb_li (q_ci 0) (gb_li (q_is 3) (q_j [0, 1, 2, 3] 17))))))))))
theorem s_X1_mightLie_2   {κ : gb_K} (hκ : ∀ q, gb_S RX1 cX1_mightLie 4 (gb_rm 4 92) 2 q (κ q)) : gb_S RX1 cX1_mightLie 4 (gb_rm 4 92) 2 2 (k_X1_mightLie_2 κ) := (s_iln 1 rfl dX1_mightLie_2 (s_aln 0 rfl dX1_mightLie_3 (s_gf (T := TX1) winX1 rfl (Nat.le_of_ble_eq_true rfl) gw_72 rfl dX1_mightLie_4 (s_gf (T := TX2) winX2 rfl (Nat.le_of_ble_eq_true rfl) gw_80 rfl dX1_mightLie_7 (s_cge (tgt := 52) (by decide +kernel) dX1_mightLie_10 (s_iconst (by decide +kernel) dX1_mightLie_52 (s_rz rfl dX1_mightLie_53)) (s_iconst (by decide +kernel) dX1_mightLie_13 (s_isn 2 rfl (Nat.le_of_ble_eq_true rfl) dX1_mightLie_14 (s_iconst (by decide +kernel) dX1_mightLie_15 (s_isn 3 rfl (Nat.le_of_ble_eq_true rfl) dX1_mightLie_16 (s_j (hκ 17)))))))))))
noncomputable def k_X1_mightLie_40 (κ : gb_K) : gb_C := (o_il 2 (o_zeq (o_ci 0 o_rz) (o_inc 1 1 (o_j [0, 1] (κ 2)))))
theorem l_X1_mightLie_40 : gb_Li (fun κ => k_X1_mightLie_40 κ) := (gb_li (q_il 2) (q_zeq (gb_li (q_ci 0) (gb_li0 _)) (gb_li (q_inc 1 1) (q_j [0, 1] 2))))
theorem s_X1_mightLie_40   {κ : gb_K} (hκ : ∀ q, gb_S RX1 cX1_mightLie 4 (gb_rm 4 92) 2 q (κ q)) : gb_S RX1 cX1_mightLie 4 (gb_rm 4 92) 2 40 (k_X1_mightLie_40 κ) := (s_iln 2 rfl dX1_mightLie_40 (s_zne (tgt := 46) (by decide +kernel) dX1_mightLie_41 (s_inc (by decide +kernel) (Nat.le_of_ble_eq_true rfl) dX1_mightLie_46 (s_goto (tgt := 2) (by decide +kernel) dX1_mightLie_49 (s_j (hκ 2)))) (s_iconst (by decide +kernel) dX1_mightLie_44 (s_rz rfl dX1_mightLie_45))))
noncomputable def k_X1_mightLie_17 (κ : gb_K) : gb_C := (o_il 3 (o_ci 6 (o_cge (k_X1_mightLie_40 κ) (o_il 2 (o_zeq (o_al 0 (o_il 3 (o_il 1 (o_cv 2 1 2 f_X1_mayLie (o_is 2 (o_inc 3 1 (o_j [0, 1, 2, 3] (κ 17)))))))) (k_X1_mightLie_40 κ))))))
theorem l_X1_mightLie_17 : gb_Li (fun κ => k_X1_mightLie_17 κ) := (gb_li (q_il 3) (gb_li (q_ci 6) (q_cge (l_X1_mightLie_40) (gb_li (q_il 2) (q_zeq (gb_li (q_al 0) (gb_li (q_il 3) (gb_li (q_il 1) (gb_li (q_cv 2 1 2 f_X1_mayLie) (gb_li (q_is 2) (gb_li (q_inc 3 1) (q_j [0, 1, 2, 3] 17))))))) (l_X1_mightLie_40))))))
theorem s_X1_mightLie_17   {κ : gb_K} (hκ : ∀ q, gb_S RX1 cX1_mightLie 4 (gb_rm 4 92) 2 q (κ q)) : gb_S RX1 cX1_mightLie 4 (gb_rm 4 92) 2 17 (k_X1_mightLie_17 κ) := (s_iln 3 rfl dX1_mightLie_17 (s_bipush (by decide +kernel) dX1_mightLie_18 (s_cge (tgt := 40) (by decide +kernel) dX1_mightLie_20 (s_X1_mightLie_40 hκ) (s_iln 2 rfl dX1_mightLie_23 (s_zne (tgt := 40) (by decide +kernel) dX1_mightLie_24 (s_X1_mightLie_40 hκ) (s_aln 0 rfl dX1_mightLie_27 (s_iln 3 rfl dX1_mightLie_28 (s_iln 1 rfl dX1_mightLie_29 (s_cv (C := RX1) c_X1_mayLie rfl (gb_l5 gw_81 gw_82 gw_83 gw_84 gw_85) v_X1_mayLie ⟨rfl, rfl⟩ ⟨Nat.le_of_ble_eq_true rfl, Nat.le_of_ble_eq_true rfl⟩ dX1_mightLie_30 (s_isn 2 rfl (Nat.le_of_ble_eq_true rfl) dX1_mightLie_33 (s_inc (by decide +kernel) (Nat.le_of_ble_eq_true rfl) dX1_mightLie_34 (s_goto (tgt := 17) (by decide +kernel) dX1_mightLie_37 (s_j (hκ 17))))))))))))))
noncomputable def B_X1_mightLie : List (Nat × (gb_K → gb_C)) := [(2, fun κ => k_X1_mightLie_2 κ), (17, fun κ => k_X1_mightLie_17 κ)]
noncomputable def K_X1_mightLie : gb_K := gb_fx (gb_tb (B_X1_mightLie))
theorem L_X1_mightLie : ∀ q, gb_Li (fun κ => gb_tb (B_X1_mightLie) κ q) := gb_tb_li (List.forall_mem_cons.mpr ⟨l_X1_mightLie_2, List.forall_mem_cons.mpr ⟨l_X1_mightLie_17, (fun _ h => absurd h List.not_mem_nil)⟩⟩)
theorem S_X1_mightLie   : ∀ q, gb_S RX1 cX1_mightLie 4 (gb_rm 4 92) 2 q (K_X1_mightLie q) := fun q => gb_fx_S (L_X1_mightLie) (gb_tb_S (List.forall_mem_cons.mpr ⟨fun κ hκ => s_X1_mightLie_2 hκ, List.forall_mem_cons.mpr ⟨fun κ hκ => s_X1_mightLie_17 hκ, (fun _ h => absurd h List.not_mem_nil)⟩⟩)) q
noncomputable def f_X1_mightLie : gb_F := gb_hide (gb_mf 4 (k_X1_mightLie_0 (K_X1_mightLie)))
theorem c_X1_mightLie : ∀ l, gb_Met l yX1_mightLie cX1_mightLie 4 (some .boolean) 2 (gb_rm 4 92) f_X1_mightLie := gb_hide_c (gb_met (own := RX1) (rk := 2) rfl (by decide +kernel) ⟨rfl, rfl⟩ (s_X1_mightLie_0 (S_X1_mightLie)))
theorem dX1_takeWay_0 : decode cX1_takeWay 0 = .ok (.iconst 0, 1) := by decide +kernel
theorem dX1_takeWay_1 : decode cX1_takeWay 1 = .ok (.istore_n 1, 1) := by decide +kernel
theorem dX1_takeWay_2 : decode cX1_takeWay 2 = .ok (.iload_n 1, 1) := by decide +kernel
theorem dX1_takeWay_3 : decode cX1_takeWay 3 = .ok (.aload_n 0, 1) := by decide +kernel
theorem dX1_takeWay_4 : decode cX1_takeWay 4 = .ok (.getfield 29, 3) := by decide +kernel
theorem dX1_takeWay_7 : decode cX1_takeWay 7 = .ok (.getfield 63, 3) := by decide +kernel
theorem dX1_takeWay_10 : decode cX1_takeWay 10 = .ok (.if_icmp .ge 21, 3) := by decide +kernel
theorem dX1_takeWay_13 : decode cX1_takeWay 13 = .ok (.aload_n 0, 1) := by decide +kernel
theorem dX1_takeWay_14 : decode cX1_takeWay 14 = .ok (.getfield 17, 3) := by decide +kernel
theorem dX1_takeWay_17 : decode cX1_takeWay 17 = .ok (.iload_n 1, 1) := by decide +kernel
theorem dX1_takeWay_18 : decode cX1_takeWay 18 = .ok (.aload_n 0, 1) := by decide +kernel
theorem dX1_takeWay_19 : decode cX1_takeWay 19 = .ok (.getfield 11, 3) := by decide +kernel
theorem dX1_takeWay_22 : decode cX1_takeWay 22 = .ok (.iload_n 1, 1) := by decide +kernel
theorem dX1_takeWay_23 : decode cX1_takeWay 23 = .ok (.iaload, 1) := by decide +kernel
theorem dX1_takeWay_24 : decode cX1_takeWay 24 = .ok (.iastore, 1) := by decide +kernel
theorem dX1_takeWay_25 : decode cX1_takeWay 25 = .ok (.iinc 1 1, 3) := by decide +kernel
theorem dX1_takeWay_28 : decode cX1_takeWay 28 = .ok (.goto (-26), 3) := by decide +kernel
theorem dX1_takeWay_31 : decode cX1_takeWay 31 = .ok (.return_, 1) := by decide +kernel
theorem v_X1_takeWay : yX1_takeWay.cls = RX1 ∧ yX1_takeWay.cls ≠ "java/lang/invoke/MethodHandle" ∧ yX1_takeWay.cls ≠ "java/lang/invoke/VarHandle" ∧ (parseMethodDescriptor yX1_takeWay.desc).map (fun d => d.parameters.length) = some 0 := ⟨rfl, by decide +kernel, by decide +kernel, by decide +kernel⟩
noncomputable def k_X1_takeWay_0 (κ : gb_K) : gb_C := (o_ci 0 (o_is 1 (o_j [0, 1] (κ 2))))
theorem l_X1_takeWay_0 : gb_Li (fun κ => k_X1_takeWay_0 κ) := (gb_li (q_ci 0) (gb_li (q_is 1) (q_j [0, 1] 2)))
theorem s_X1_takeWay_0   {κ : gb_K} (hκ : ∀ q, gb_S RX1 cX1_takeWay 2 (gb_rm 0 0) 0 q (κ q)) : gb_S RX1 cX1_takeWay 2 (gb_rm 0 0) 0 0 (k_X1_takeWay_0 κ) := (s_iconst (by decide +kernel) dX1_takeWay_0 (s_isn 1 rfl (Nat.le_of_ble_eq_true rfl) dX1_takeWay_1 (s_j (hκ 2))))
noncomputable def k_X1_takeWay_2 (κ : gb_K) : gb_C := (o_il 1 (o_al 0 (o_gf 1 1 (o_gf 2 3 (o_cge o_rv (o_al 0 (o_gf 1 3 (o_il 1 (o_al 0 (o_gf 1 2 (o_il 1 (o_iald (o_iast (o_inc 1 1 (o_j [0, 1] (κ 2))))))))))))))))
theorem l_X1_takeWay_2 : gb_Li (fun κ => k_X1_takeWay_2 κ) := (gb_li (q_il 1) (gb_li (q_al 0) (gb_li (q_gf 1 1) (gb_li (q_gf 2 3) (q_cge (gb_li0 _) (gb_li (q_al 0) (gb_li (q_gf 1 3) (gb_li (q_il 1) (gb_li (q_al 0) (gb_li (q_gf 1 2) (gb_li (q_il 1) (gb_li q_iald (gb_li q_iast (gb_li (q_inc 1 1) (q_j [0, 1] 2)))))))))))))))
theorem s_X1_takeWay_2   {κ : gb_K} (hκ : ∀ q, gb_S RX1 cX1_takeWay 2 (gb_rm 0 0) 0 q (κ q)) : gb_S RX1 cX1_takeWay 2 (gb_rm 0 0) 0 2 (k_X1_takeWay_2 κ) := (s_iln 1 rfl dX1_takeWay_2 (s_aln 0 rfl dX1_takeWay_3 (s_gf (T := TX1) winX1 rfl (Nat.le_of_ble_eq_true rfl) gw_72 rfl dX1_takeWay_4 (s_gf (T := TX2) winX2 rfl (Nat.le_of_ble_eq_true rfl) gw_80 rfl dX1_takeWay_7 (s_cge (tgt := 31) (by decide +kernel) dX1_takeWay_10 (s_rv rfl dX1_takeWay_31) (s_aln 0 rfl dX1_takeWay_13 (s_gf (T := TX1) winX1 rfl (Nat.le_of_ble_eq_true rfl) gw_86 rfl dX1_takeWay_14 (s_iln 1 rfl dX1_takeWay_17 (s_aln 0 rfl dX1_takeWay_18 (s_gf (T := TX1) winX1 rfl (Nat.le_of_ble_eq_true rfl) gw_87 rfl dX1_takeWay_19 (s_iln 1 rfl dX1_takeWay_22 (s_iald dX1_takeWay_23 (s_iast dX1_takeWay_24 (s_inc (by decide +kernel) (Nat.le_of_ble_eq_true rfl) dX1_takeWay_25 (s_goto (tgt := 2) (by decide +kernel) dX1_takeWay_28 (s_j (hκ 2)))))))))))))))))
noncomputable def B_X1_takeWay : List (Nat × (gb_K → gb_C)) := [(2, fun κ => k_X1_takeWay_2 κ)]
noncomputable def K_X1_takeWay : gb_K := gb_fx (gb_tb (B_X1_takeWay))
theorem L_X1_takeWay : ∀ q, gb_Li (fun κ => gb_tb (B_X1_takeWay) κ q) := gb_tb_li (List.forall_mem_cons.mpr ⟨l_X1_takeWay_2, (fun _ h => absurd h List.not_mem_nil)⟩)
theorem S_X1_takeWay   : ∀ q, gb_S RX1 cX1_takeWay 2 (gb_rm 0 0) 0 q (K_X1_takeWay q) := fun q => gb_fx_S (L_X1_takeWay) (gb_tb_S (List.forall_mem_cons.mpr ⟨fun κ hκ => s_X1_takeWay_2 hκ, (fun _ h => absurd h List.not_mem_nil)⟩)) q
noncomputable def f_X1_takeWay : gb_F := gb_hide (gb_mf 2 (k_X1_takeWay_0 (K_X1_takeWay)))
theorem c_X1_takeWay : ∀ l, gb_Met l yX1_takeWay cX1_takeWay 2 none 0 (gb_rm 0 0) f_X1_takeWay := gb_hide_c (gb_met (own := RX1) (rk := 0) rfl (by decide +kernel) ⟨rfl, rfl⟩ (s_X1_takeWay_0 (S_X1_takeWay)))
theorem dX5_lossOf_0 : decode cX5_lossOf 0 = .ok (.aload_n 0, 1) := by decide +kernel
theorem dX5_lossOf_1 : decode cX5_lossOf 1 = .ok (.getfield 21, 3) := by decide +kernel
theorem dX5_lossOf_4 : decode cX5_lossOf 4 = .ok (.iload_n 1, 1) := by decide +kernel
theorem dX5_lossOf_5 : decode cX5_lossOf 5 = .ok (.bipush 6, 2) := by decide +kernel
theorem dX5_lossOf_7 : decode cX5_lossOf 7 = .ok (.imul, 1) := by decide +kernel
theorem dX5_lossOf_8 : decode cX5_lossOf 8 = .ok (.iload_n 2, 1) := by decide +kernel
theorem dX5_lossOf_9 : decode cX5_lossOf 9 = .ok (.iadd, 1) := by decide +kernel
theorem dX5_lossOf_10 : decode cX5_lossOf 10 = .ok (.iaload, 1) := by decide +kernel
theorem dX5_lossOf_11 : decode cX5_lossOf 11 = .ok (.ireturn, 1) := by decide +kernel
theorem v_X5_lossOf : yX5_lossOf.cls = RX5 ∧ yX5_lossOf.cls ≠ "java/lang/invoke/MethodHandle" ∧ yX5_lossOf.cls ≠ "java/lang/invoke/VarHandle" ∧ (parseMethodDescriptor yX5_lossOf.desc).map (fun d => d.parameters.length) = some 2 := ⟨rfl, by decide +kernel, by decide +kernel, by decide +kernel⟩
noncomputable def k_X5_lossOf_0 (κ : gb_K) : gb_C := (o_al 0 (o_gf 5 3 (o_il 1 (o_ci 6 (o_ib (fun x y => x * y) (o_il 2 (o_ib (fun x y => x + y) (o_iald o_ri))))))))
theorem l_X5_lossOf_0 : gb_Li (fun κ => k_X5_lossOf_0 κ) := (gb_li (q_al 0) (gb_li (q_gf 5 3) (gb_li (q_il 1) (gb_li (q_ci 6) (gb_li (q_ib _) (gb_li (q_il 2) (gb_li (q_ib _) (gb_li q_iald (gb_li0 _)))))))))
theorem s_X5_lossOf_0   {κ : gb_K} (hκ : ∀ q, gb_S RX5 cX5_lossOf 3 (gb_rm 0 0) 1 q (κ q)) : gb_S RX5 cX5_lossOf 3 (gb_rm 0 0) 1 0 (k_X5_lossOf_0 κ) := (s_aln 0 rfl dX5_lossOf_0 (s_gf (T := TX5) winX5 rfl (Nat.le_of_ble_eq_true rfl) gw_88 rfl dX5_lossOf_1 (s_iln 1 rfl dX5_lossOf_4 (s_bipush (by decide +kernel) dX5_lossOf_5 (s_imul dX5_lossOf_7 (s_iln 2 rfl dX5_lossOf_8 (s_iadd dX5_lossOf_9 (s_iald dX5_lossOf_10 (s_ri rfl dX5_lossOf_11)))))))))
noncomputable def f_X5_lossOf : gb_F := gb_hide (gb_mf 3 (k_X5_lossOf_0 gb_n))
theorem c_X5_lossOf : ∀ l, gb_Met l yX5_lossOf cX5_lossOf 3 (some .int) 1 (gb_rm 0 0) f_X5_lossOf := gb_hide_c (gb_met (own := RX5) (rk := 1) rfl (by decide +kernel) ⟨rfl, rfl⟩ (s_X5_lossOf_0 gb_S_n))
theorem dX7_growth_0 : decode cX7_growth 0 = .ok (.aload_n 0, 1) := by decide +kernel
theorem dX7_growth_1 : decode cX7_growth 1 = .ok (.getfield 33, 3) := by decide +kernel
theorem dX7_growth_4 : decode cX7_growth 4 = .ok (.iload_n 1, 1) := by decide +kernel
theorem dX7_growth_5 : decode cX7_growth 5 = .ok (.bipush 6, 2) := by decide +kernel
theorem dX7_growth_7 : decode cX7_growth 7 = .ok (.imul, 1) := by decide +kernel
theorem dX7_growth_8 : decode cX7_growth 8 = .ok (.iload_n 2, 1) := by decide +kernel
theorem dX7_growth_9 : decode cX7_growth 9 = .ok (.iadd, 1) := by decide +kernel
theorem dX7_growth_10 : decode cX7_growth 10 = .ok (.iaload, 1) := by decide +kernel
theorem dX7_growth_11 : decode cX7_growth 11 = .ok (.istore 4, 2) := by decide +kernel
theorem dX7_growth_13 : decode cX7_growth 13 = .ok (.iconst 0, 1) := by decide +kernel
theorem dX7_growth_14 : decode cX7_growth 14 = .ok (.istore 5, 2) := by decide +kernel
theorem dX7_growth_16 : decode cX7_growth 16 = .ok (.iconst 0, 1) := by decide +kernel
theorem dX7_growth_17 : decode cX7_growth 17 = .ok (.istore 6, 2) := by decide +kernel
theorem dX7_growth_19 : decode cX7_growth 19 = .ok (.iload 6, 2) := by decide +kernel
theorem dX7_growth_21 : decode cX7_growth 21 = .ok (.bipush 6, 2) := by decide +kernel
theorem dX7_growth_23 : decode cX7_growth 23 = .ok (.if_icmp .ge 56, 3) := by decide +kernel
theorem dX7_growth_26 : decode cX7_growth 26 = .ok (.aload_n 0, 1) := by decide +kernel
theorem dX7_growth_27 : decode cX7_growth 27 = .ok (.getfield 33, 3) := by decide +kernel
theorem dX7_growth_30 : decode cX7_growth 30 = .ok (.iload_n 1, 1) := by decide +kernel
theorem dX7_growth_31 : decode cX7_growth 31 = .ok (.bipush 6, 2) := by decide +kernel
theorem dX7_growth_33 : decode cX7_growth 33 = .ok (.imul, 1) := by decide +kernel
theorem dX7_growth_34 : decode cX7_growth 34 = .ok (.iload 6, 2) := by decide +kernel
theorem dX7_growth_36 : decode cX7_growth 36 = .ok (.iadd, 1) := by decide +kernel
theorem dX7_growth_37 : decode cX7_growth 37 = .ok (.iaload, 1) := by decide +kernel
theorem dX7_growth_38 : decode cX7_growth 38 = .ok (.istore 7, 2) := by decide +kernel
theorem dX7_growth_40 : decode cX7_growth 40 = .ok (.iload 5, 2) := by decide +kernel
theorem dX7_growth_42 : decode cX7_growth 42 = .ok (.aload_n 0, 1) := by decide +kernel
theorem dX7_growth_43 : decode cX7_growth 43 = .ok (.getfield 36, 3) := by decide +kernel
theorem dX7_growth_46 : decode cX7_growth 46 = .ok (.iload_n 2, 1) := by decide +kernel
theorem dX7_growth_47 : decode cX7_growth 47 = .ok (.iload 6, 2) := by decide +kernel
theorem dX7_growth_49 : decode cX7_growth 49 = .ok (.invokevirtual 118, 3) := by decide +kernel
theorem dX7_growth_52 : decode cX7_growth 52 = .ok (.iload 4, 2) := by decide +kernel
theorem dX7_growth_54 : decode cX7_growth 54 = .ok (.iload_n 3, 1) := by decide +kernel
theorem dX7_growth_55 : decode cX7_growth 55 = .ok (.iadd, 1) := by decide +kernel
theorem dX7_growth_56 : decode cX7_growth 56 = .ok (.iload 7, 2) := by decide +kernel
theorem dX7_growth_58 : decode cX7_growth 58 = .ok (.invokestatic 81, 3) := by decide +kernel
theorem dX7_growth_61 : decode cX7_growth 61 = .ok (.iload 4, 2) := by decide +kernel
theorem dX7_growth_63 : decode cX7_growth 63 = .ok (.iload 7, 2) := by decide +kernel
theorem dX7_growth_65 : decode cX7_growth 65 = .ok (.invokestatic 81, 3) := by decide +kernel
theorem dX7_growth_68 : decode cX7_growth 68 = .ok (.isub, 1) := by decide +kernel
theorem dX7_growth_69 : decode cX7_growth 69 = .ok (.imul, 1) := by decide +kernel
theorem dX7_growth_70 : decode cX7_growth 70 = .ok (.iadd, 1) := by decide +kernel
theorem dX7_growth_71 : decode cX7_growth 71 = .ok (.istore 5, 2) := by decide +kernel
theorem dX7_growth_73 : decode cX7_growth 73 = .ok (.iinc 6 1, 3) := by decide +kernel
theorem dX7_growth_76 : decode cX7_growth 76 = .ok (.goto (-57), 3) := by decide +kernel
theorem dX7_growth_79 : decode cX7_growth 79 = .ok (.iload 5, 2) := by decide +kernel
theorem dX7_growth_81 : decode cX7_growth 81 = .ok (.ireturn, 1) := by decide +kernel
theorem v_X7_growth : yX7_growth.cls = RX7 ∧ yX7_growth.cls ≠ "java/lang/invoke/MethodHandle" ∧ yX7_growth.cls ≠ "java/lang/invoke/VarHandle" ∧ (parseMethodDescriptor yX7_growth.desc).map (fun d => d.parameters.length) = some 3 := ⟨rfl, by decide +kernel, by decide +kernel, by decide +kernel⟩
noncomputable def k_X7_growth_0 (κ : gb_K) : gb_C := (o_al 0 (o_gf 7 8 (o_il 1 (o_ci 6 (o_ib (fun x y => x * y) (o_il 2 (o_ib (fun x y => x + y) (o_iald (o_is 4 (o_ci 0 (o_is 5 (o_ci 0 (o_is 6 (o_j [0, 1, 2, 3, 4, 5, 6] (κ 19)))))))))))))))
theorem l_X7_growth_0 : gb_Li (fun κ => k_X7_growth_0 κ) := (gb_li (q_al 0) (gb_li (q_gf 7 8) (gb_li (q_il 1) (gb_li (q_ci 6) (gb_li (q_ib _) (gb_li (q_il 2) (gb_li (q_ib _) (gb_li q_iald (gb_li (q_is 4) (gb_li (q_ci 0) (gb_li (q_is 5) (gb_li (q_ci 0) (gb_li (q_is 6) (q_j [0, 1, 2, 3, 4, 5, 6] 19))))))))))))))
theorem s_X7_growth_0   {κ : gb_K} (hκ : ∀ q, gb_S RX7 cX7_growth 8 (gb_rm 1 22) 1 q (κ q)) : gb_S RX7 cX7_growth 8 (gb_rm 1 22) 1 0 (k_X7_growth_0 κ) := (s_aln 0 rfl dX7_growth_0 (s_gf (T := TX7) winX7 rfl (Nat.le_of_ble_eq_true rfl) gw_43 rfl dX7_growth_1 (s_iln 1 rfl dX7_growth_4 (s_bipush (by decide +kernel) dX7_growth_5 (s_imul dX7_growth_7 (s_iln 2 rfl dX7_growth_8 (s_iadd dX7_growth_9 (s_iald dX7_growth_10 (s_is (Nat.le_of_ble_eq_true rfl) dX7_growth_11 (s_iconst (by decide +kernel) dX7_growth_13 (s_is (Nat.le_of_ble_eq_true rfl) dX7_growth_14 (s_iconst (by decide +kernel) dX7_growth_16 (s_is (Nat.le_of_ble_eq_true rfl) dX7_growth_17 (s_j (hκ 19)))))))))))))))
noncomputable def k_X7_growth_73 (κ : gb_K) : gb_C := (o_inc 6 1 (o_j [0, 1, 2, 3, 4, 5, 6] (κ 19)))
theorem l_X7_growth_73 : gb_Li (fun κ => k_X7_growth_73 κ) := (gb_li (q_inc 6 1) (q_j [0, 1, 2, 3, 4, 5, 6] 19))
theorem s_X7_growth_73   {κ : gb_K} (hκ : ∀ q, gb_S RX7 cX7_growth 8 (gb_rm 1 22) 1 q (κ q)) : gb_S RX7 cX7_growth 8 (gb_rm 1 22) 1 73 (k_X7_growth_73 κ) := (s_inc (by decide +kernel) (Nat.le_of_ble_eq_true rfl) dX7_growth_73 (s_goto (tgt := 19) (by decide +kernel) dX7_growth_76 (s_j (hκ 19))))
noncomputable def k_X7_growth_19 (κ : gb_K) : gb_C := (o_il 6 (o_ci 6 (o_cge (o_il 5 o_ri) (o_al 0 (o_gf 7 8 (o_il 1 (o_ci 6 (o_ib (fun x y => x * y) (o_il 6 (o_ib (fun x y => x + y) (o_iald (o_is 7 (o_il 5 (o_al 0 (o_gf 7 0 (o_il 2 (o_il 6 (o_cv 2 5 1 f_X5_lossOf (o_il 4 (o_il 3 (o_ib (fun x y => x + y) (o_il 7 (o_mmin (o_il 4 (o_il 7 (o_mmin (o_ib (fun x y => x - y) (o_ib (fun x y => x * y) (o_ib (fun x y => x + y) (o_is 5 (k_X7_growth_73 κ)))))))))))))))))))))))))))))))
theorem l_X7_growth_19 : gb_Li (fun κ => k_X7_growth_19 κ) := (gb_li (q_il 6) (gb_li (q_ci 6) (q_cge (gb_li (q_il 5) (gb_li0 _)) (gb_li (q_al 0) (gb_li (q_gf 7 8) (gb_li (q_il 1) (gb_li (q_ci 6) (gb_li (q_ib _) (gb_li (q_il 6) (gb_li (q_ib _) (gb_li q_iald (gb_li (q_is 7) (gb_li (q_il 5) (gb_li (q_al 0) (gb_li (q_gf 7 0) (gb_li (q_il 2) (gb_li (q_il 6) (gb_li (q_cv 2 5 1 f_X5_lossOf) (gb_li (q_il 4) (gb_li (q_il 3) (gb_li (q_ib _) (gb_li (q_il 7) (gb_li q_mmin (gb_li (q_il 4) (gb_li (q_il 7) (gb_li q_mmin (gb_li (q_ib _) (gb_li (q_ib _) (gb_li (q_ib _) (gb_li (q_is 5) (l_X7_growth_73)))))))))))))))))))))))))))))))
theorem s_X7_growth_19   {κ : gb_K} (hκ : ∀ q, gb_S RX7 cX7_growth 8 (gb_rm 1 22) 1 q (κ q)) : gb_S RX7 cX7_growth 8 (gb_rm 1 22) 1 19 (k_X7_growth_19 κ) := (s_il dX7_growth_19 (s_bipush (by decide +kernel) dX7_growth_21 (s_cge (tgt := 79) (by decide +kernel) dX7_growth_23 (s_il dX7_growth_79 (s_ri rfl dX7_growth_81)) (s_aln 0 rfl dX7_growth_26 (s_gf (T := TX7) winX7 rfl (Nat.le_of_ble_eq_true rfl) gw_43 rfl dX7_growth_27 (s_iln 1 rfl dX7_growth_30 (s_bipush (by decide +kernel) dX7_growth_31 (s_imul dX7_growth_33 (s_il dX7_growth_34 (s_iadd dX7_growth_36 (s_iald dX7_growth_37 (s_is (Nat.le_of_ble_eq_true rfl) dX7_growth_38 (s_il dX7_growth_40 (s_aln 0 rfl dX7_growth_42 (s_gf (T := TX7) winX7 rfl (Nat.le_of_ble_eq_true rfl) gw_65 rfl dX7_growth_43 (s_iln 2 rfl dX7_growth_46 (s_il dX7_growth_47 (s_cv (C := RX5) c_X5_lossOf rfl (gb_l5 gw_89 gw_90 gw_91 gw_92 gw_93) v_X5_lossOf ⟨rfl, rfl⟩ ⟨Nat.le_of_ble_eq_true rfl, Nat.le_of_ble_eq_true rfl⟩ dX7_growth_49 (s_il dX7_growth_52 (s_iln 3 rfl dX7_growth_54 (s_iadd dX7_growth_55 (s_il dX7_growth_56 (s_mmin ⟨Nat.le_of_ble_eq_true rfl, Nat.le_of_ble_eq_true rfl⟩ (gb_l4 gw_94 gw_95 gw_17 gw_96) dX7_growth_58 (s_il dX7_growth_61 (s_il dX7_growth_63 (s_mmin ⟨Nat.le_of_ble_eq_true rfl, Nat.le_of_ble_eq_true rfl⟩ (gb_l4 gw_94 gw_95 gw_17 gw_96) dX7_growth_65 (s_isub dX7_growth_68 (s_imul dX7_growth_69 (s_iadd dX7_growth_70 (s_is (Nat.le_of_ble_eq_true rfl) dX7_growth_71 (s_X7_growth_73 hκ)))))))))))))))))))))))))))))))
noncomputable def B_X7_growth : List (Nat × (gb_K → gb_C)) := [(19, fun κ => k_X7_growth_19 κ)]
noncomputable def K_X7_growth : gb_K := gb_fx (gb_tb (B_X7_growth))
theorem L_X7_growth : ∀ q, gb_Li (fun κ => gb_tb (B_X7_growth) κ q) := gb_tb_li (List.forall_mem_cons.mpr ⟨l_X7_growth_19, (fun _ h => absurd h List.not_mem_nil)⟩)
theorem S_X7_growth   : ∀ q, gb_S RX7 cX7_growth 8 (gb_rm 1 22) 1 q (K_X7_growth q) := fun q => gb_fx_S (L_X7_growth) (gb_tb_S (List.forall_mem_cons.mpr ⟨fun κ hκ => s_X7_growth_19 hκ, (fun _ h => absurd h List.not_mem_nil)⟩)) q
noncomputable def f_X7_growth : gb_F := gb_hide (gb_mf 8 (k_X7_growth_0 (K_X7_growth)))
theorem c_X7_growth : ∀ l, gb_Met l yX7_growth cX7_growth 8 (some .int) 1 (gb_rm 1 22) f_X7_growth := gb_hide_c (gb_met (own := RX7) (rk := 1) rfl (by decide +kernel) ⟨rfl, rfl⟩ (s_X7_growth_0 (S_X7_growth)))
theorem dX7_lay_0 : decode cX7_lay 0 = .ok (.aload_n 0, 1) := by decide +kernel
theorem dX7_lay_1 : decode cX7_lay 1 = .ok (.iload_n 1, 1) := by decide +kernel
theorem dX7_lay_2 : decode cX7_lay 2 = .ok (.iload_n 2, 1) := by decide +kernel
theorem dX7_lay_3 : decode cX7_lay 3 = .ok (.iload 4, 2) := by decide +kernel
theorem dX7_lay_5 : decode cX7_lay 5 = .ok (.invokevirtual 74, 3) := by decide +kernel
theorem dX7_lay_8 : decode cX7_lay 8 = .ok (.ifCond .eq 27, 3) := by decide +kernel
theorem dX7_lay_11 : decode cX7_lay 11 = .ok (.aload_n 0, 1) := by decide +kernel
theorem dX7_lay_12 : decode cX7_lay 12 = .ok (.getfield 27, 3) := by decide +kernel
theorem dX7_lay_15 : decode cX7_lay 15 = .ok (.iload_n 1, 1) := by decide +kernel
theorem dX7_lay_16 : decode cX7_lay 16 = .ok (.aload_n 0, 1) := by decide +kernel
theorem dX7_lay_17 : decode cX7_lay 17 = .ok (.getfield 18, 3) := by decide +kernel
theorem dX7_lay_20 : decode cX7_lay 20 = .ok (.iload_n 1, 1) := by decide +kernel
theorem dX7_lay_21 : decode cX7_lay 21 = .ok (.iaload, 1) := by decide +kernel
theorem dX7_lay_22 : decode cX7_lay 22 = .ok (.iconst 1, 1) := by decide +kernel
theorem dX7_lay_23 : decode cX7_lay 23 = .ok (.isub, 1) := by decide +kernel
theorem dX7_lay_24 : decode cX7_lay 24 = .ok (.invokestatic 51, 3) := by decide +kernel
theorem dX7_lay_27 : decode cX7_lay 27 = .ok (.dup2, 1) := by decide +kernel
theorem dX7_lay_28 : decode cX7_lay 28 = .ok (.iaload, 1) := by decide +kernel
theorem dX7_lay_29 : decode cX7_lay 29 = .ok (.iload_n 3, 1) := by decide +kernel
theorem dX7_lay_30 : decode cX7_lay 30 = .ok (.iadd, 1) := by decide +kernel
theorem dX7_lay_31 : decode cX7_lay 31 = .ok (.iastore, 1) := by decide +kernel
theorem dX7_lay_32 : decode cX7_lay 32 = .ok (.goto 65, 3) := by decide +kernel
theorem dX7_lay_35 : decode cX7_lay 35 = .ok (.aload_n 0, 1) := by decide +kernel
theorem dX7_lay_36 : decode cX7_lay 36 = .ok (.getfield 18, 3) := by decide +kernel
theorem dX7_lay_39 : decode cX7_lay 39 = .ok (.iload_n 1, 1) := by decide +kernel
theorem dX7_lay_40 : decode cX7_lay 40 = .ok (.iaload, 1) := by decide +kernel
theorem dX7_lay_41 : decode cX7_lay 41 = .ok (.bipush 6, 2) := by decide +kernel
theorem dX7_lay_43 : decode cX7_lay 43 = .ok (.if_icmp .ge 53, 3) := by decide +kernel
theorem dX7_lay_46 : decode cX7_lay 46 = .ok (.iload_n 1, 1) := by decide +kernel
theorem dX7_lay_47 : decode cX7_lay 47 = .ok (.aload_n 0, 1) := by decide +kernel
theorem dX7_lay_48 : decode cX7_lay 48 = .ok (.getfield 18, 3) := by decide +kernel
theorem dX7_lay_51 : decode cX7_lay 51 = .ok (.iload_n 1, 1) := by decide +kernel
theorem dX7_lay_52 : decode cX7_lay 52 = .ok (.iaload, 1) := by decide +kernel
theorem dX7_lay_53 : decode cX7_lay 53 = .ok (.invokestatic 51, 3) := by decide +kernel
theorem dX7_lay_56 : decode cX7_lay 56 = .ok (.istore 5, 2) := by decide +kernel
theorem dX7_lay_58 : decode cX7_lay 58 = .ok (.aload_n 0, 1) := by decide +kernel
theorem dX7_lay_59 : decode cX7_lay 59 = .ok (.getfield 24, 3) := by decide +kernel
theorem dX7_lay_62 : decode cX7_lay 62 = .ok (.iload 5, 2) := by decide +kernel
theorem dX7_lay_64 : decode cX7_lay 64 = .ok (.iload_n 2, 1) := by decide +kernel
theorem dX7_lay_65 : decode cX7_lay 65 = .ok (.iastore, 1) := by decide +kernel
theorem dX7_lay_66 : decode cX7_lay 66 = .ok (.aload_n 0, 1) := by decide +kernel
theorem dX7_lay_67 : decode cX7_lay 67 = .ok (.getfield 27, 3) := by decide +kernel
theorem dX7_lay_70 : decode cX7_lay 70 = .ok (.iload 5, 2) := by decide +kernel
theorem dX7_lay_72 : decode cX7_lay 72 = .ok (.iload_n 3, 1) := by decide +kernel
theorem dX7_lay_73 : decode cX7_lay 73 = .ok (.iastore, 1) := by decide +kernel
theorem dX7_lay_74 : decode cX7_lay 74 = .ok (.aload_n 0, 1) := by decide +kernel
theorem dX7_lay_75 : decode cX7_lay 75 = .ok (.getfield 30, 3) := by decide +kernel
theorem dX7_lay_78 : decode cX7_lay 78 = .ok (.iload 5, 2) := by decide +kernel
theorem dX7_lay_80 : decode cX7_lay 80 = .ok (.iload 4, 2) := by decide +kernel
theorem dX7_lay_82 : decode cX7_lay 82 = .ok (.iastore, 1) := by decide +kernel
theorem dX7_lay_83 : decode cX7_lay 83 = .ok (.aload_n 0, 1) := by decide +kernel
theorem dX7_lay_84 : decode cX7_lay 84 = .ok (.getfield 18, 3) := by decide +kernel
theorem dX7_lay_87 : decode cX7_lay 87 = .ok (.iload_n 1, 1) := by decide +kernel
theorem dX7_lay_88 : decode cX7_lay 88 = .ok (.dup2, 1) := by decide +kernel
theorem dX7_lay_89 : decode cX7_lay 89 = .ok (.iaload, 1) := by decide +kernel
theorem dX7_lay_90 : decode cX7_lay 90 = .ok (.iconst 1, 1) := by decide +kernel
theorem dX7_lay_91 : decode cX7_lay 91 = .ok (.iadd, 1) := by decide +kernel
theorem dX7_lay_92 : decode cX7_lay 92 = .ok (.iastore, 1) := by decide +kernel
theorem dX7_lay_93 : decode cX7_lay 93 = .ok (.goto 4, 3) := by decide +kernel
theorem dX7_lay_96 : decode cX7_lay 96 = .ok (.return_, 1) := by decide +kernel
theorem dX7_lay_97 : decode cX7_lay 97 = .ok (.aload_n 0, 1) := by decide +kernel
theorem dX7_lay_98 : decode cX7_lay 98 = .ok (.getfield 21, 3) := by decide +kernel
theorem dX7_lay_101 : decode cX7_lay 101 = .ok (.iload_n 1, 1) := by decide +kernel
theorem dX7_lay_102 : decode cX7_lay 102 = .ok (.dup2, 1) := by decide +kernel
theorem dX7_lay_103 : decode cX7_lay 103 = .ok (.iaload, 1) := by decide +kernel
theorem dX7_lay_104 : decode cX7_lay 104 = .ok (.iload_n 3, 1) := by decide +kernel
theorem dX7_lay_105 : decode cX7_lay 105 = .ok (.iadd, 1) := by decide +kernel
theorem dX7_lay_106 : decode cX7_lay 106 = .ok (.iastore, 1) := by decide +kernel
theorem dX7_lay_107 : decode cX7_lay 107 = .ok (.aload_n 0, 1) := by decide +kernel
theorem dX7_lay_108 : decode cX7_lay 108 = .ok (.getfield 33, 3) := by decide +kernel
theorem dX7_lay_111 : decode cX7_lay 111 = .ok (.iload_n 1, 1) := by decide +kernel
theorem dX7_lay_112 : decode cX7_lay 112 = .ok (.bipush 6, 2) := by decide +kernel
theorem dX7_lay_114 : decode cX7_lay 114 = .ok (.imul, 1) := by decide +kernel
theorem dX7_lay_115 : decode cX7_lay 115 = .ok (.iload_n 2, 1) := by decide +kernel
theorem dX7_lay_116 : decode cX7_lay 116 = .ok (.iadd, 1) := by decide +kernel
theorem dX7_lay_117 : decode cX7_lay 117 = .ok (.dup2, 1) := by decide +kernel
theorem dX7_lay_118 : decode cX7_lay 118 = .ok (.iaload, 1) := by decide +kernel
theorem dX7_lay_119 : decode cX7_lay 119 = .ok (.iload_n 3, 1) := by decide +kernel
theorem dX7_lay_120 : decode cX7_lay 120 = .ok (.iadd, 1) := by decide +kernel
theorem dX7_lay_121 : decode cX7_lay 121 = .ok (.iastore, 1) := by decide +kernel
theorem dX7_lay_122 : decode cX7_lay 122 = .ok (.return_, 1) := by decide +kernel
theorem v_X7_lay : yX7_lay.cls = RX7 ∧ yX7_lay.cls ≠ "java/lang/invoke/MethodHandle" ∧ yX7_lay.cls ≠ "java/lang/invoke/VarHandle" ∧ (parseMethodDescriptor yX7_lay.desc).map (fun d => d.parameters.length) = some 4 := ⟨rfl, by decide +kernel, by decide +kernel, by decide +kernel⟩
noncomputable def k_X7_lay_97 (κ : gb_K) : gb_C := (o_al 0 (o_gf 7 4 (o_il 1 (o_dup2 (o_iald (o_il 3 (o_ib (fun x y => x + y) (o_iast (o_al 0 (o_gf 7 8 (o_il 1 (o_ci 6 (o_ib (fun x y => x * y) (o_il 2 (o_ib (fun x y => x + y) (o_dup2 (o_iald (o_il 3 (o_ib (fun x y => x + y) (o_iast o_rv))))))))))))))))))))
theorem l_X7_lay_97 : gb_Li (fun κ => k_X7_lay_97 κ) := (gb_li (q_al 0) (gb_li (q_gf 7 4) (gb_li (q_il 1) (gb_li q_dup2 (gb_li q_iald (gb_li (q_il 3) (gb_li (q_ib _) (gb_li q_iast (gb_li (q_al 0) (gb_li (q_gf 7 8) (gb_li (q_il 1) (gb_li (q_ci 6) (gb_li (q_ib _) (gb_li (q_il 2) (gb_li (q_ib _) (gb_li q_dup2 (gb_li q_iald (gb_li (q_il 3) (gb_li (q_ib _) (gb_li q_iast (gb_li0 _)))))))))))))))))))))
theorem s_X7_lay_97   {κ : gb_K} (hκ : ∀ q, gb_S RX7 cX7_lay 6 (gb_rm 2 45) 0 q (κ q)) : gb_S RX7 cX7_lay 6 (gb_rm 2 45) 0 97 (k_X7_lay_97 κ) := (s_aln 0 rfl dX7_lay_97 (s_gf (T := TX7) winX7 rfl (Nat.le_of_ble_eq_true rfl) gw_42 rfl dX7_lay_98 (s_iln 1 rfl dX7_lay_101 (s_dup2 dX7_lay_102 (s_iald dX7_lay_103 (s_iln 3 rfl dX7_lay_104 (s_iadd dX7_lay_105 (s_iast dX7_lay_106 (s_aln 0 rfl dX7_lay_107 (s_gf (T := TX7) winX7 rfl (Nat.le_of_ble_eq_true rfl) gw_43 rfl dX7_lay_108 (s_iln 1 rfl dX7_lay_111 (s_bipush (by decide +kernel) dX7_lay_112 (s_imul dX7_lay_114 (s_iln 2 rfl dX7_lay_115 (s_iadd dX7_lay_116 (s_dup2 dX7_lay_117 (s_iald dX7_lay_118 (s_iln 3 rfl dX7_lay_119 (s_iadd dX7_lay_120 (s_iast dX7_lay_121 (s_rv rfl dX7_lay_122)))))))))))))))))))))
noncomputable def k_X7_lay_75 (κ : gb_K) : gb_C := (o_gf 7 7 (o_il 5 (o_il 4 (o_iast (o_al 0 (o_gf 7 3 (o_il 1 (o_dup2 (o_iald (o_ci 1 (o_ib (fun x y => x + y) (o_iast (k_X7_lay_97 κ)))))))))))))
theorem l_X7_lay_75 : gb_Li (fun κ => k_X7_lay_75 κ) := (gb_li (q_gf 7 7) (gb_li (q_il 5) (gb_li (q_il 4) (gb_li q_iast (gb_li (q_al 0) (gb_li (q_gf 7 3) (gb_li (q_il 1) (gb_li q_dup2 (gb_li q_iald (gb_li (q_ci 1) (gb_li (q_ib _) (gb_li q_iast (l_X7_lay_97)))))))))))))
theorem s_X7_lay_75   {κ : gb_K} (hκ : ∀ q, gb_S RX7 cX7_lay 6 (gb_rm 2 45) 0 q (κ q)) : gb_S RX7 cX7_lay 6 (gb_rm 2 45) 0 75 (k_X7_lay_75 κ) := (s_gf (T := TX7) winX7 rfl (Nat.le_of_ble_eq_true rfl) gw_44 rfl dX7_lay_75 (s_il dX7_lay_78 (s_il dX7_lay_80 (s_iast dX7_lay_82 (s_aln 0 rfl dX7_lay_83 (s_gf (T := TX7) winX7 rfl (Nat.le_of_ble_eq_true rfl) gw_41 rfl dX7_lay_84 (s_iln 1 rfl dX7_lay_87 (s_dup2 dX7_lay_88 (s_iald dX7_lay_89 (s_iconst (by decide +kernel) dX7_lay_90 (s_iadd dX7_lay_91 (s_iast dX7_lay_92 (s_goto (tgt := 97) (by decide +kernel) dX7_lay_93 (s_X7_lay_97 hκ))))))))))))))
noncomputable def k_X7_lay_0 (κ : gb_K) : gb_C := (o_al 0 (o_il 1 (o_il 2 (o_il 4 (o_cv 3 7 2 f_X7_onTop (o_zeq (o_al 0 (o_gf 7 3 (o_il 1 (o_iald (o_ci 6 (o_cge o_rv (o_il 1 (o_al 0 (o_gf 7 3 (o_il 1 (o_iald (o_cs 2 1 f_X7_place (o_is 5 (o_al 0 (o_gf 7 5 (o_il 5 (o_il 2 (o_iast (o_al 0 (o_gf 7 6 (o_il 5 (o_il 3 (o_iast (o_al 0 (k_X7_lay_75 κ))))))))))))))))))))))))) (o_al 0 (o_gf 7 6 (o_il 1 (o_al 0 (o_gf 7 3 (o_il 1 (o_iald (o_ci 1 (o_ib (fun x y => x - y) (o_cs 2 1 f_X7_place (o_dup2 (o_iald (o_il 3 (o_ib (fun x y => x + y) (o_iast (k_X7_lay_97 κ))))))))))))))))))))))
theorem l_X7_lay_0 : gb_Li (fun κ => k_X7_lay_0 κ) := (gb_li (q_al 0) (gb_li (q_il 1) (gb_li (q_il 2) (gb_li (q_il 4) (gb_li (q_cv 3 7 2 f_X7_onTop) (q_zeq (gb_li (q_al 0) (gb_li (q_gf 7 3) (gb_li (q_il 1) (gb_li q_iald (gb_li (q_ci 6) (q_cge (gb_li0 _) (gb_li (q_il 1) (gb_li (q_al 0) (gb_li (q_gf 7 3) (gb_li (q_il 1) (gb_li q_iald (gb_li (q_cs 2 1 f_X7_place) (gb_li (q_is 5) (gb_li (q_al 0) (gb_li (q_gf 7 5) (gb_li (q_il 5) (gb_li (q_il 2) (gb_li q_iast (gb_li (q_al 0) (gb_li (q_gf 7 6) (gb_li (q_il 5) (gb_li (q_il 3) (gb_li q_iast (gb_li (q_al 0) (l_X7_lay_75))))))))))))))))))))))))) (gb_li (q_al 0) (gb_li (q_gf 7 6) (gb_li (q_il 1) (gb_li (q_al 0) (gb_li (q_gf 7 3) (gb_li (q_il 1) (gb_li q_iald (gb_li (q_ci 1) (gb_li (q_ib _) (gb_li (q_cs 2 1 f_X7_place) (gb_li q_dup2 (gb_li q_iald (gb_li (q_il 3) (gb_li (q_ib _) (gb_li q_iast (l_X7_lay_97))))))))))))))))))))))
theorem s_X7_lay_0   {κ : gb_K} (hκ : ∀ q, gb_S RX7 cX7_lay 6 (gb_rm 2 45) 0 q (κ q)) : gb_S RX7 cX7_lay 6 (gb_rm 2 45) 0 0 (k_X7_lay_0 κ) := (s_aln 0 rfl dX7_lay_0 (s_iln 1 rfl dX7_lay_1 (s_iln 2 rfl dX7_lay_2 (s_il dX7_lay_3 (s_cv (C := RX7) c_X7_onTop rfl (gb_l5 gw_60 gw_61 gw_62 gw_11 gw_63) v_X7_onTop ⟨rfl, rfl⟩ ⟨Nat.le_of_ble_eq_true rfl, Nat.le_of_ble_eq_true rfl⟩ dX7_lay_5 (s_zeq (tgt := 35) (by decide +kernel) dX7_lay_8 (s_aln 0 rfl dX7_lay_35 (s_gf (T := TX7) winX7 rfl (Nat.le_of_ble_eq_true rfl) gw_41 rfl dX7_lay_36 (s_iln 1 rfl dX7_lay_39 (s_iald dX7_lay_40 (s_bipush (by decide +kernel) dX7_lay_41 (s_cge (tgt := 96) (by decide +kernel) dX7_lay_43 (s_rv rfl dX7_lay_96) (s_iln 1 rfl dX7_lay_46 (s_aln 0 rfl dX7_lay_47 (s_gf (T := TX7) winX7 rfl (Nat.le_of_ble_eq_true rfl) gw_41 rfl dX7_lay_48 (s_iln 1 rfl dX7_lay_51 (s_iald dX7_lay_52 (s_cs c_X7_place (gb_l4 gw_45 gw_23 gw_11 gw_24) v_X7_place.2 ⟨rfl, rfl⟩ ⟨Nat.le_of_ble_eq_true rfl, Nat.le_of_ble_eq_true rfl⟩ dX7_lay_53 (s_is (Nat.le_of_ble_eq_true rfl) dX7_lay_56 (s_aln 0 rfl dX7_lay_58 (s_gf (T := TX7) winX7 rfl (Nat.le_of_ble_eq_true rfl) gw_46 rfl dX7_lay_59 (s_il dX7_lay_62 (s_iln 2 rfl dX7_lay_64 (s_iast dX7_lay_65 (s_aln 0 rfl dX7_lay_66 (s_gf (T := TX7) winX7 rfl (Nat.le_of_ble_eq_true rfl) gw_47 rfl dX7_lay_67 (s_il dX7_lay_70 (s_iln 3 rfl dX7_lay_72 (s_iast dX7_lay_73 (s_aln 0 rfl dX7_lay_74 (s_X7_lay_75 hκ))))))))))))))))))))))))) (s_aln 0 rfl dX7_lay_11 (s_gf (T := TX7) winX7 rfl (Nat.le_of_ble_eq_true rfl) gw_47 rfl dX7_lay_12 (s_iln 1 rfl dX7_lay_15 (s_aln 0 rfl dX7_lay_16 (s_gf (T := TX7) winX7 rfl (Nat.le_of_ble_eq_true rfl) gw_41 rfl dX7_lay_17 (s_iln 1 rfl dX7_lay_20 (s_iald dX7_lay_21 (s_iconst (by decide +kernel) dX7_lay_22 (s_isub dX7_lay_23 (s_cs c_X7_place (gb_l4 gw_45 gw_23 gw_11 gw_24) v_X7_place.2 ⟨rfl, rfl⟩ ⟨Nat.le_of_ble_eq_true rfl, Nat.le_of_ble_eq_true rfl⟩ dX7_lay_24 (s_dup2 dX7_lay_27 (s_iald dX7_lay_28 (s_iln 3 rfl dX7_lay_29 (s_iadd dX7_lay_30 (s_iast dX7_lay_31 (s_goto (tgt := 97) (by decide +kernel) dX7_lay_32 (s_X7_lay_97 hκ)))))))))))))))))))))))
noncomputable def f_X7_lay : gb_F := gb_hide (gb_mf 6 (k_X7_lay_0 gb_n))
theorem c_X7_lay : ∀ l, gb_Met l yX7_lay cX7_lay 6 none 0 (gb_rm 2 45) f_X7_lay := gb_hide_c (gb_met (own := RX7) (rk := 0) rfl (by decide +kernel) ⟨rfl, rfl⟩ (s_X7_lay_0 gb_S_n))
