/-! CODE: printed by wip/p44/gen.py -/
theorem dX9_value_0 : decode cX9_value 0 = .ok (.iload_n 1, 1) := by decide +kernel
theorem dX9_value_1 : decode cX9_value 1 = .ok (.invokestatic 136, 3) := by decide +kernel
theorem dX9_value_4 : decode cX9_value 4 = .ok (.ifCond .ne 5, 3) := by decide +kernel
theorem dX9_value_7 : decode cX9_value 7 = .ok (.iconst (-1), 1) := by decide +kernel
theorem dX9_value_8 : decode cX9_value 8 = .ok (.ireturn, 1) := by decide +kernel
theorem dX9_value_9 : decode cX9_value 9 = .ok (.aload_n 0, 1) := by decide +kernel
theorem dX9_value_10 : decode cX9_value 10 = .ok (.getfield 48, 3) := by decide +kernel
theorem dX9_value_13 : decode cX9_value 13 = .ok (.invokevirtual 194, 3) := by decide +kernel
theorem dX9_value_16 : decode cX9_value 16 = .ok (.aload_n 0, 1) := by decide +kernel
theorem dX9_value_17 : decode cX9_value 17 = .ok (.getfield 48, 3) := by decide +kernel
theorem dX9_value_20 : decode cX9_value 20 = .ok (.aload_n 0, 1) := by decide +kernel
theorem dX9_value_21 : decode cX9_value 21 = .ok (.getfield 31, 3) := by decide +kernel
theorem dX9_value_24 : decode cX9_value 24 = .ok (.iload_n 1, 1) := by decide +kernel
theorem dX9_value_25 : decode cX9_value 25 = .ok (.aload_n 0, 1) := by decide +kernel
theorem dX9_value_26 : decode cX9_value 26 = .ok (.getfield 31, 3) := by decide +kernel
theorem dX9_value_29 : decode cX9_value 29 = .ok (.getfield 151, 3) := by decide +kernel
theorem dX9_value_32 : decode cX9_value 32 = .ok (.invokevirtual 237, 3) := by decide +kernel
theorem dX9_value_35 : decode cX9_value 35 = .ok (.i2l, 1) := by decide +kernel
theorem dX9_value_36 : decode cX9_value 36 = .ok (.invokevirtual 199, 3) := by decide +kernel
theorem dX9_value_39 : decode cX9_value 39 = .ok (.aload_n 0, 1) := by decide +kernel
theorem dX9_value_40 : decode cX9_value 40 = .ok (.getfield 48, 3) := by decide +kernel
theorem dX9_value_43 : decode cX9_value 43 = .ok (.aload_n 0, 1) := by decide +kernel
theorem dX9_value_44 : decode cX9_value 44 = .ok (.getfield 31, 3) := by decide +kernel
theorem dX9_value_47 : decode cX9_value 47 = .ok (.iload_n 1, 1) := by decide +kernel
theorem dX9_value_48 : decode cX9_value 48 = .ok (.invokevirtual 240, 3) := by decide +kernel
theorem dX9_value_51 : decode cX9_value 51 = .ok (.i2l, 1) := by decide +kernel
theorem dX9_value_52 : decode cX9_value 52 = .ok (.invokevirtual 199, 3) := by decide +kernel
theorem dX9_value_55 : decode cX9_value 55 = .ok (.aload_n 0, 1) := by decide +kernel
theorem dX9_value_56 : decode cX9_value 56 = .ok (.getfield 48, 3) := by decide +kernel
theorem dX9_value_59 : decode cX9_value 59 = .ok (.aload_n 0, 1) := by decide +kernel
theorem dX9_value_60 : decode cX9_value 60 = .ok (.getfield 31, 3) := by decide +kernel
theorem dX9_value_63 : decode cX9_value 63 = .ok (.iload_n 1, 1) := by decide +kernel
theorem dX9_value_64 : decode cX9_value 64 = .ok (.invokevirtual 243, 3) := by decide +kernel
theorem dX9_value_67 : decode cX9_value 67 = .ok (.i2l, 1) := by decide +kernel
theorem dX9_value_68 : decode cX9_value 68 = .ok (.invokevirtual 199, 3) := by decide +kernel
theorem dX9_value_71 : decode cX9_value 71 = .ok (.aload_n 0, 1) := by decide +kernel
theorem dX9_value_72 : decode cX9_value 72 = .ok (.getfield 31, 3) := by decide +kernel
theorem dX9_value_75 : decode cX9_value 75 = .ok (.iload_n 1, 1) := by decide +kernel
theorem dX9_value_76 : decode cX9_value 76 = .ok (.invokevirtual 208, 3) := by decide +kernel
theorem dX9_value_79 : decode cX9_value 79 = .ok (.ireturn, 1) := by decide +kernel
theorem v_X9_value : yX9_value.cls = RX9 ∧ yX9_value.cls ≠ "java/lang/invoke/MethodHandle" ∧ yX9_value.cls ≠ "java/lang/invoke/VarHandle" ∧ (parseMethodDescriptor yX9_value.desc).map (fun d => d.parameters.length) = some 1 := ⟨rfl, by decide +kernel, by decide +kernel, by decide +kernel⟩
noncomputable def k_X9_value_64 (κ : gb_K) : gb_C := (o_cv 1 7 1 f_X7_rawUnspoilt (o_i2l (o_cv 1 4 0 f_X4_add (o_al 0 (o_gf 9 3 (o_il 1 (o_cv 1 7 1 f_X7_valueOf o_ri)))))))
theorem l_X9_value_64 : gb_Li (fun κ => k_X9_value_64 κ) := (gb_li (q_cv 1 7 1 f_X7_rawUnspoilt) (gb_li q_i2l (gb_li (q_cv 1 4 0 f_X4_add) (gb_li (q_al 0) (gb_li (q_gf 9 3) (gb_li (q_il 1) (gb_li (q_cv 1 7 1 f_X7_valueOf) (gb_li0 _))))))))
theorem s_X9_value_64   {κ : gb_K} (hκ : ∀ q, gb_S RX9 cX9_value 2 (gb_rm 5 113) 1 q (κ q)) : gb_S RX9 cX9_value 2 (gb_rm 5 113) 1 64 (k_X9_value_64 κ) := (s_cv (C := RX7) c_X7_rawUnspoilt rfl (gb_l5 gw_347 gw_348 gw_349 gw_11 gw_350) v_X7_rawUnspoilt ⟨rfl, rfl⟩ ⟨Nat.le_of_ble_eq_true rfl, Nat.le_of_ble_eq_true rfl⟩ dX9_value_64 (s_i2l dX9_value_67 (s_cv (C := RX4) c_X4_add rfl (gb_l5 gw_307 gw_308 gw_309 gw_297 gw_310) v_X4_add ⟨rfl, rfl⟩ ⟨Nat.le_of_ble_eq_true rfl, Nat.le_of_ble_eq_true rfl⟩ dX9_value_68 (s_aln 0 rfl dX9_value_71 (s_gf (T := TX9) winX9 rfl (Nat.le_of_ble_eq_true rfl) gw_238 rfl dX9_value_72 (s_iln 1 rfl dX9_value_75 (s_cv (C := RX7) c_X7_valueOf rfl (gb_l5 gw_311 gw_312 gw_313 gw_11 gw_314) v_X7_valueOf ⟨rfl, rfl⟩ ⟨Nat.le_of_ble_eq_true rfl, Nat.le_of_ble_eq_true rfl⟩ dX9_value_76 (s_ri rfl dX9_value_79))))))))
noncomputable def k_X9_value_0 (κ : gb_K) : gb_C := (o_il 1 (o_cs 1 2 f_X9_isBin (o_zeq (o_ci (-1) o_ri) (o_al 0 (o_gf 9 7 (o_cv 0 4 0 f_X4_start (o_al 0 (o_gf 9 7 (o_al 0 (o_gf 9 3 (o_il 1 (o_al 0 (o_gf 9 3 (o_gf 7 9 (o_cv 2 7 1 f_X7_raw (o_i2l (o_cv 1 4 0 f_X4_add (o_al 0 (o_gf 9 7 (o_al 0 (o_gf 9 3 (o_il 1 (o_cv 1 7 1 f_X7_mixedIn (o_i2l (o_cv 1 4 0 f_X4_add (o_al 0 (o_gf 9 7 (o_al 0 (o_gf 9 3 (o_il 1 (k_X9_value_64 κ)))))))))))))))))))))))))))))))
theorem l_X9_value_0 : gb_Li (fun κ => k_X9_value_0 κ) := (gb_li (q_il 1) (gb_li (q_cs 1 2 f_X9_isBin) (q_zeq (gb_li (q_ci (-1)) (gb_li0 _)) (gb_li (q_al 0) (gb_li (q_gf 9 7) (gb_li (q_cv 0 4 0 f_X4_start) (gb_li (q_al 0) (gb_li (q_gf 9 7) (gb_li (q_al 0) (gb_li (q_gf 9 3) (gb_li (q_il 1) (gb_li (q_al 0) (gb_li (q_gf 9 3) (gb_li (q_gf 7 9) (gb_li (q_cv 2 7 1 f_X7_raw) (gb_li q_i2l (gb_li (q_cv 1 4 0 f_X4_add) (gb_li (q_al 0) (gb_li (q_gf 9 7) (gb_li (q_al 0) (gb_li (q_gf 9 3) (gb_li (q_il 1) (gb_li (q_cv 1 7 1 f_X7_mixedIn) (gb_li q_i2l (gb_li (q_cv 1 4 0 f_X4_add) (gb_li (q_al 0) (gb_li (q_gf 9 7) (gb_li (q_al 0) (gb_li (q_gf 9 3) (gb_li (q_il 1) (l_X9_value_64)))))))))))))))))))))))))))))))
theorem s_X9_value_0   {κ : gb_K} (hκ : ∀ q, gb_S RX9 cX9_value 2 (gb_rm 5 113) 1 q (κ q)) : gb_S RX9 cX9_value 2 (gb_rm 5 113) 1 0 (k_X9_value_0 κ) := (s_iln 1 rfl dX9_value_0 (s_cs c_X9_isBin (gb_l4 gw_272 gw_273 gw_258 gw_274) v_X9_isBin.2 ⟨rfl, rfl⟩ ⟨Nat.le_of_ble_eq_true rfl, Nat.le_of_ble_eq_true rfl⟩ dX9_value_1 (s_zne (tgt := 9) (by decide +kernel) dX9_value_4 (s_aln 0 rfl dX9_value_9 (s_gf (T := TX9) winX9 rfl (Nat.le_of_ble_eq_true rfl) gw_293 rfl dX9_value_10 (s_cv (C := RX4) c_X4_start rfl (gb_l5 gw_294 gw_295 gw_296 gw_297 gw_298) v_X4_start ⟨rfl, rfl⟩ ⟨Nat.le_of_ble_eq_true rfl, Nat.le_of_ble_eq_true rfl⟩ dX9_value_13 (s_aln 0 rfl dX9_value_16 (s_gf (T := TX9) winX9 rfl (Nat.le_of_ble_eq_true rfl) gw_293 rfl dX9_value_17 (s_aln 0 rfl dX9_value_20 (s_gf (T := TX9) winX9 rfl (Nat.le_of_ble_eq_true rfl) gw_238 rfl dX9_value_21 (s_iln 1 rfl dX9_value_24 (s_aln 0 rfl dX9_value_25 (s_gf (T := TX9) winX9 rfl (Nat.le_of_ble_eq_true rfl) gw_238 rfl dX9_value_26 (s_gf (T := TX7) winX7 rfl (Nat.le_of_ble_eq_true rfl) gw_267 rfl dX9_value_29 (s_cv (C := RX7) c_X7_raw rfl (gb_l5 gw_351 gw_191 gw_192 gw_11 gw_193) v_X7_raw ⟨rfl, rfl⟩ ⟨Nat.le_of_ble_eq_true rfl, Nat.le_of_ble_eq_true rfl⟩ dX9_value_32 (s_i2l dX9_value_35 (s_cv (C := RX4) c_X4_add rfl (gb_l5 gw_307 gw_308 gw_309 gw_297 gw_310) v_X4_add ⟨rfl, rfl⟩ ⟨Nat.le_of_ble_eq_true rfl, Nat.le_of_ble_eq_true rfl⟩ dX9_value_36 (s_aln 0 rfl dX9_value_39 (s_gf (T := TX9) winX9 rfl (Nat.le_of_ble_eq_true rfl) gw_293 rfl dX9_value_40 (s_aln 0 rfl dX9_value_43 (s_gf (T := TX9) winX9 rfl (Nat.le_of_ble_eq_true rfl) gw_238 rfl dX9_value_44 (s_iln 1 rfl dX9_value_47 (s_cv (C := RX7) c_X7_mixedIn rfl (gb_l5 gw_352 gw_195 gw_196 gw_11 gw_197) v_X7_mixedIn ⟨rfl, rfl⟩ ⟨Nat.le_of_ble_eq_true rfl, Nat.le_of_ble_eq_true rfl⟩ dX9_value_48 (s_i2l dX9_value_51 (s_cv (C := RX4) c_X4_add rfl (gb_l5 gw_307 gw_308 gw_309 gw_297 gw_310) v_X4_add ⟨rfl, rfl⟩ ⟨Nat.le_of_ble_eq_true rfl, Nat.le_of_ble_eq_true rfl⟩ dX9_value_52 (s_aln 0 rfl dX9_value_55 (s_gf (T := TX9) winX9 rfl (Nat.le_of_ble_eq_true rfl) gw_293 rfl dX9_value_56 (s_aln 0 rfl dX9_value_59 (s_gf (T := TX9) winX9 rfl (Nat.le_of_ble_eq_true rfl) gw_238 rfl dX9_value_60 (s_iln 1 rfl dX9_value_63 (s_X9_value_64 hκ)))))))))))))))))))))))))))) (s_iconst (by decide +kernel) dX9_value_7 (s_ri rfl dX9_value_8)))))
noncomputable def f_X9_value : gb_F := gb_hide (gb_mf 2 (k_X9_value_0 gb_n))
theorem c_X9_value : ∀ l, gb_Met l yX9_value cX9_value 2 (some .int) 1 (gb_rm 5 113) f_X9_value := gb_hide_c (gb_met (own := RX9) (rk := 1) rfl (by decide +kernel) ⟨rfl, rfl⟩ (s_X9_value_0 gb_S_n))
theorem dX9_all_0 : decode cX9_all 0 = .ok (.aload_n 0, 1) := by decide +kernel
theorem dX9_all_1 : decode cX9_all 1 = .ok (.getfield 48, 3) := by decide +kernel
theorem dX9_all_4 : decode cX9_all 4 = .ok (.invokevirtual 194, 3) := by decide +kernel
theorem dX9_all_7 : decode cX9_all 7 = .ok (.iconst 0, 1) := by decide +kernel
theorem dX9_all_8 : decode cX9_all 8 = .ok (.istore_n 1, 1) := by decide +kernel
theorem dX9_all_9 : decode cX9_all 9 = .ok (.iload_n 1, 1) := by decide +kernel
theorem dX9_all_10 : decode cX9_all 10 = .ok (.bipush 6, 2) := by decide +kernel
theorem dX9_all_12 : decode cX9_all 12 = .ok (.if_icmp .ge 25, 3) := by decide +kernel
theorem dX9_all_15 : decode cX9_all 15 = .ok (.aload_n 0, 1) := by decide +kernel
theorem dX9_all_16 : decode cX9_all 16 = .ok (.getfield 48, 3) := by decide +kernel
theorem dX9_all_19 : decode cX9_all 19 = .ok (.aload_n 0, 1) := by decide +kernel
theorem dX9_all_20 : decode cX9_all 20 = .ok (.getfield 31, 3) := by decide +kernel
theorem dX9_all_23 : decode cX9_all 23 = .ok (.iload_n 1, 1) := by decide +kernel
theorem dX9_all_24 : decode cX9_all 24 = .ok (.invokevirtual 208, 3) := by decide +kernel
theorem dX9_all_27 : decode cX9_all 27 = .ok (.i2l, 1) := by decide +kernel
theorem dX9_all_28 : decode cX9_all 28 = .ok (.invokevirtual 199, 3) := by decide +kernel
theorem dX9_all_31 : decode cX9_all 31 = .ok (.iinc 1 1, 3) := by decide +kernel
theorem dX9_all_34 : decode cX9_all 34 = .ok (.goto (-25), 3) := by decide +kernel
theorem dX9_all_37 : decode cX9_all 37 = .ok (.aload_n 0, 1) := by decide +kernel
theorem dX9_all_38 : decode cX9_all 38 = .ok (.getfield 31, 3) := by decide +kernel
theorem dX9_all_41 : decode cX9_all 41 = .ok (.aload_n 0, 1) := by decide +kernel
theorem dX9_all_42 : decode cX9_all 42 = .ok (.getfield 31, 3) := by decide +kernel
theorem dX9_all_45 : decode cX9_all 45 = .ok (.getfield 151, 3) := by decide +kernel
theorem dX9_all_48 : decode cX9_all 48 = .ok (.invokevirtual 230, 3) := by decide +kernel
theorem dX9_all_51 : decode cX9_all 51 = .ok (.ireturn, 1) := by decide +kernel
theorem v_X9_all : yX9_all.cls = RX9 ∧ yX9_all.cls ≠ "java/lang/invoke/MethodHandle" ∧ yX9_all.cls ≠ "java/lang/invoke/VarHandle" ∧ (parseMethodDescriptor yX9_all.desc).map (fun d => d.parameters.length) = some 0 := ⟨rfl, by decide +kernel, by decide +kernel, by decide +kernel⟩
noncomputable def k_X9_all_0 (κ : gb_K) : gb_C := (o_al 0 (o_gf 9 7 (o_cv 0 4 0 f_X4_start (o_ci 0 (o_is 1 (o_j [0, 1] (κ 9)))))))
theorem l_X9_all_0 : gb_Li (fun κ => k_X9_all_0 κ) := (gb_li (q_al 0) (gb_li (q_gf 9 7) (gb_li (q_cv 0 4 0 f_X4_start) (gb_li (q_ci 0) (gb_li (q_is 1) (q_j [0, 1] 9))))))
theorem s_X9_all_0   {κ : gb_K} (hκ : ∀ q, gb_S RX9 cX9_all 2 (gb_rm 5 115) 1 q (κ q)) : gb_S RX9 cX9_all 2 (gb_rm 5 115) 1 0 (k_X9_all_0 κ) := (s_aln 0 rfl dX9_all_0 (s_gf (T := TX9) winX9 rfl (Nat.le_of_ble_eq_true rfl) gw_293 rfl dX9_all_1 (s_cv (C := RX4) c_X4_start rfl (gb_l5 gw_294 gw_295 gw_296 gw_297 gw_298) v_X4_start ⟨rfl, rfl⟩ ⟨Nat.le_of_ble_eq_true rfl, Nat.le_of_ble_eq_true rfl⟩ dX9_all_4 (s_iconst (by decide +kernel) dX9_all_7 (s_isn 1 rfl (Nat.le_of_ble_eq_true rfl) dX9_all_8 (s_j (hκ 9)))))))
noncomputable def k_X9_all_9 (κ : gb_K) : gb_C := (o_il 1 (o_ci 6 (o_cge (o_al 0 (o_gf 9 3 (o_al 0 (o_gf 9 3 (o_gf 7 9 (o_cv 1 7 1 f_X7_valueOfAll o_ri)))))) (o_al 0 (o_gf 9 7 (o_al 0 (o_gf 9 3 (o_il 1 (o_cv 1 7 1 f_X7_valueOf (o_i2l (o_cv 1 4 0 f_X4_add (o_inc 1 1 (o_j [0, 1] (κ 9))))))))))))))
theorem l_X9_all_9 : gb_Li (fun κ => k_X9_all_9 κ) := (gb_li (q_il 1) (gb_li (q_ci 6) (q_cge (gb_li (q_al 0) (gb_li (q_gf 9 3) (gb_li (q_al 0) (gb_li (q_gf 9 3) (gb_li (q_gf 7 9) (gb_li (q_cv 1 7 1 f_X7_valueOfAll) (gb_li0 _))))))) (gb_li (q_al 0) (gb_li (q_gf 9 7) (gb_li (q_al 0) (gb_li (q_gf 9 3) (gb_li (q_il 1) (gb_li (q_cv 1 7 1 f_X7_valueOf) (gb_li q_i2l (gb_li (q_cv 1 4 0 f_X4_add) (gb_li (q_inc 1 1) (q_j [0, 1] 9)))))))))))))
theorem s_X9_all_9   {κ : gb_K} (hκ : ∀ q, gb_S RX9 cX9_all 2 (gb_rm 5 115) 1 q (κ q)) : gb_S RX9 cX9_all 2 (gb_rm 5 115) 1 9 (k_X9_all_9 κ) := (s_iln 1 rfl dX9_all_9 (s_bipush (by decide +kernel) dX9_all_10 (s_cge (tgt := 37) (by decide +kernel) dX9_all_12 (s_aln 0 rfl dX9_all_37 (s_gf (T := TX9) winX9 rfl (Nat.le_of_ble_eq_true rfl) gw_238 rfl dX9_all_38 (s_aln 0 rfl dX9_all_41 (s_gf (T := TX9) winX9 rfl (Nat.le_of_ble_eq_true rfl) gw_238 rfl dX9_all_42 (s_gf (T := TX7) winX7 rfl (Nat.le_of_ble_eq_true rfl) gw_267 rfl dX9_all_45 (s_cv (C := RX7) c_X7_valueOfAll rfl (gb_l5 gw_341 gw_342 gw_343 gw_11 gw_344) v_X7_valueOfAll ⟨rfl, rfl⟩ ⟨Nat.le_of_ble_eq_true rfl, Nat.le_of_ble_eq_true rfl⟩ dX9_all_48 (s_ri rfl dX9_all_51))))))) (s_aln 0 rfl dX9_all_15 (s_gf (T := TX9) winX9 rfl (Nat.le_of_ble_eq_true rfl) gw_293 rfl dX9_all_16 (s_aln 0 rfl dX9_all_19 (s_gf (T := TX9) winX9 rfl (Nat.le_of_ble_eq_true rfl) gw_238 rfl dX9_all_20 (s_iln 1 rfl dX9_all_23 (s_cv (C := RX7) c_X7_valueOf rfl (gb_l5 gw_311 gw_312 gw_313 gw_11 gw_314) v_X7_valueOf ⟨rfl, rfl⟩ ⟨Nat.le_of_ble_eq_true rfl, Nat.le_of_ble_eq_true rfl⟩ dX9_all_24 (s_i2l dX9_all_27 (s_cv (C := RX4) c_X4_add rfl (gb_l5 gw_307 gw_308 gw_309 gw_297 gw_310) v_X4_add ⟨rfl, rfl⟩ ⟨Nat.le_of_ble_eq_true rfl, Nat.le_of_ble_eq_true rfl⟩ dX9_all_28 (s_inc (by decide +kernel) (Nat.le_of_ble_eq_true rfl) dX9_all_31 (s_goto (tgt := 9) (by decide +kernel) dX9_all_34 (s_j (hκ 9)))))))))))))))
noncomputable def B_X9_all : List (Nat × (gb_K → gb_C)) := [(9, fun κ => k_X9_all_9 κ)]
noncomputable def K_X9_all : gb_K := gb_fx (gb_tb (B_X9_all))
theorem L_X9_all : ∀ q, gb_Li (fun κ => gb_tb (B_X9_all) κ q) := gb_tb_li (List.forall_mem_cons.mpr ⟨l_X9_all_9, (fun _ h => absurd h List.not_mem_nil)⟩)
theorem S_X9_all   : ∀ q, gb_S RX9 cX9_all 2 (gb_rm 5 115) 1 q (K_X9_all q) := fun q => gb_fx_S (L_X9_all) (gb_tb_S (List.forall_mem_cons.mpr ⟨fun κ hκ => s_X9_all_9 hκ, (fun _ h => absurd h List.not_mem_nil)⟩)) q
noncomputable def f_X9_all : gb_F := gb_hide (gb_mf 2 (k_X9_all_0 (K_X9_all)))
theorem c_X9_all : ∀ l, gb_Met l yX9_all cX9_all 2 (some .int) 1 (gb_rm 5 115) f_X9_all := gb_hide_c (gb_met (own := RX9) (rk := 1) rfl (by decide +kernel) ⟨rfl, rfl⟩ (s_X9_all_0 (S_X9_all)))
theorem dX9_mixed_0 : decode cX9_mixed 0 = .ok (.iload_n 1, 1) := by decide +kernel
theorem dX9_mixed_1 : decode cX9_mixed 1 = .ok (.invokestatic 114, 3) := by decide +kernel
theorem dX9_mixed_4 : decode cX9_mixed 4 = .ok (.ifCond .ne 5, 3) := by decide +kernel
theorem dX9_mixed_7 : decode cX9_mixed 7 = .ok (.iconst (-1), 1) := by decide +kernel
theorem dX9_mixed_8 : decode cX9_mixed 8 = .ok (.ireturn, 1) := by decide +kernel
theorem dX9_mixed_9 : decode cX9_mixed 9 = .ok (.aload_n 0, 1) := by decide +kernel
theorem dX9_mixed_10 : decode cX9_mixed 10 = .ok (.getfield 48, 3) := by decide +kernel
theorem dX9_mixed_13 : decode cX9_mixed 13 = .ok (.invokevirtual 194, 3) := by decide +kernel
theorem dX9_mixed_16 : decode cX9_mixed 16 = .ok (.iconst 0, 1) := by decide +kernel
theorem dX9_mixed_17 : decode cX9_mixed 17 = .ok (.istore_n 2, 1) := by decide +kernel
theorem dX9_mixed_18 : decode cX9_mixed 18 = .ok (.iconst 0, 1) := by decide +kernel
theorem dX9_mixed_19 : decode cX9_mixed 19 = .ok (.istore_n 3, 1) := by decide +kernel
theorem dX9_mixed_20 : decode cX9_mixed 20 = .ok (.iload_n 3, 1) := by decide +kernel
theorem dX9_mixed_21 : decode cX9_mixed 21 = .ok (.bipush 6, 2) := by decide +kernel
theorem dX9_mixed_23 : decode cX9_mixed 23 = .ok (.if_icmp .ge 59, 3) := by decide +kernel
theorem dX9_mixed_26 : decode cX9_mixed 26 = .ok (.iconst 0, 1) := by decide +kernel
theorem dX9_mixed_27 : decode cX9_mixed 27 = .ok (.istore 4, 2) := by decide +kernel
theorem dX9_mixed_29 : decode cX9_mixed 29 = .ok (.iconst 0, 1) := by decide +kernel
theorem dX9_mixed_30 : decode cX9_mixed 30 = .ok (.istore 5, 2) := by decide +kernel
theorem dX9_mixed_32 : decode cX9_mixed 32 = .ok (.iload 5, 2) := by decide +kernel
theorem dX9_mixed_34 : decode cX9_mixed 34 = .ok (.bipush 6, 2) := by decide +kernel
theorem dX9_mixed_36 : decode cX9_mixed 36 = .ok (.if_icmp .ge 25, 3) := by decide +kernel
theorem dX9_mixed_39 : decode cX9_mixed 39 = .ok (.iload 4, 2) := by decide +kernel
theorem dX9_mixed_41 : decode cX9_mixed 41 = .ok (.aload_n 0, 1) := by decide +kernel
theorem dX9_mixed_42 : decode cX9_mixed 42 = .ok (.getfield 31, 3) := by decide +kernel
theorem dX9_mixed_45 : decode cX9_mixed 45 = .ok (.iload 5, 2) := by decide +kernel
theorem dX9_mixed_47 : decode cX9_mixed 47 = .ok (.iload_n 1, 1) := by decide +kernel
theorem dX9_mixed_48 : decode cX9_mixed 48 = .ok (.iload_n 3, 1) := by decide +kernel
theorem dX9_mixed_49 : decode cX9_mixed 49 = .ok (.invokevirtual 246, 3) := by decide +kernel
theorem dX9_mixed_52 : decode cX9_mixed 52 = .ok (.iadd, 1) := by decide +kernel
theorem dX9_mixed_53 : decode cX9_mixed 53 = .ok (.istore 4, 2) := by decide +kernel
theorem dX9_mixed_55 : decode cX9_mixed 55 = .ok (.iinc 5 1, 3) := by decide +kernel
theorem dX9_mixed_58 : decode cX9_mixed 58 = .ok (.goto (-26), 3) := by decide +kernel
theorem dX9_mixed_61 : decode cX9_mixed 61 = .ok (.aload_n 0, 1) := by decide +kernel
theorem dX9_mixed_62 : decode cX9_mixed 62 = .ok (.getfield 48, 3) := by decide +kernel
theorem dX9_mixed_65 : decode cX9_mixed 65 = .ok (.iload 4, 2) := by decide +kernel
theorem dX9_mixed_67 : decode cX9_mixed 67 = .ok (.i2l, 1) := by decide +kernel
theorem dX9_mixed_68 : decode cX9_mixed 68 = .ok (.invokevirtual 199, 3) := by decide +kernel
theorem dX9_mixed_71 : decode cX9_mixed 71 = .ok (.iload_n 2, 1) := by decide +kernel
theorem dX9_mixed_72 : decode cX9_mixed 72 = .ok (.iload 4, 2) := by decide +kernel
theorem dX9_mixed_74 : decode cX9_mixed 74 = .ok (.iadd, 1) := by decide +kernel
theorem dX9_mixed_75 : decode cX9_mixed 75 = .ok (.istore_n 2, 1) := by decide +kernel
theorem dX9_mixed_76 : decode cX9_mixed 76 = .ok (.iinc 3 1, 3) := by decide +kernel
theorem dX9_mixed_79 : decode cX9_mixed 79 = .ok (.goto (-59), 3) := by decide +kernel
theorem dX9_mixed_82 : decode cX9_mixed 82 = .ok (.iload_n 2, 1) := by decide +kernel
theorem dX9_mixed_83 : decode cX9_mixed 83 = .ok (.ireturn, 1) := by decide +kernel
theorem v_X9_mixed : yX9_mixed.cls = RX9 ∧ yX9_mixed.cls ≠ "java/lang/invoke/MethodHandle" ∧ yX9_mixed.cls ≠ "java/lang/invoke/VarHandle" ∧ (parseMethodDescriptor yX9_mixed.desc).map (fun d => d.parameters.length) = some 1 := ⟨rfl, by decide +kernel, by decide +kernel, by decide +kernel⟩
noncomputable def k_X9_mixed_0 (κ : gb_K) : gb_C := (o_il 1 (o_cs 1 2 f_X9_isGrade (o_zeq (o_ci (-1) o_ri) (o_al 0 (o_gf 9 7 (o_cv 0 4 0 f_X4_start (o_ci 0 (o_is 2 (o_ci 0 (o_is 3 (o_j [0, 1, 2, 3] (κ 20))))))))))))
theorem l_X9_mixed_0 : gb_Li (fun κ => k_X9_mixed_0 κ) := (gb_li (q_il 1) (gb_li (q_cs 1 2 f_X9_isGrade) (q_zeq (gb_li (q_ci (-1)) (gb_li0 _)) (gb_li (q_al 0) (gb_li (q_gf 9 7) (gb_li (q_cv 0 4 0 f_X4_start) (gb_li (q_ci 0) (gb_li (q_is 2) (gb_li (q_ci 0) (gb_li (q_is 3) (q_j [0, 1, 2, 3] 20)))))))))))
theorem s_X9_mixed_0   {κ : gb_K} (hκ : ∀ q, gb_S RX9 cX9_mixed 6 (gb_rm 2 46) 1 q (κ q)) : gb_S RX9 cX9_mixed 6 (gb_rm 2 46) 1 0 (k_X9_mixed_0 κ) := (s_iln 1 rfl dX9_mixed_0 (s_cs c_X9_isGrade (gb_l4 gw_256 gw_257 gw_258 gw_259) v_X9_isGrade.2 ⟨rfl, rfl⟩ ⟨Nat.le_of_ble_eq_true rfl, Nat.le_of_ble_eq_true rfl⟩ dX9_mixed_1 (s_zne (tgt := 9) (by decide +kernel) dX9_mixed_4 (s_aln 0 rfl dX9_mixed_9 (s_gf (T := TX9) winX9 rfl (Nat.le_of_ble_eq_true rfl) gw_293 rfl dX9_mixed_10 (s_cv (C := RX4) c_X4_start rfl (gb_l5 gw_294 gw_295 gw_296 gw_297 gw_298) v_X4_start ⟨rfl, rfl⟩ ⟨Nat.le_of_ble_eq_true rfl, Nat.le_of_ble_eq_true rfl⟩ dX9_mixed_13 (s_iconst (by decide +kernel) dX9_mixed_16 (s_isn 2 rfl (Nat.le_of_ble_eq_true rfl) dX9_mixed_17 (s_iconst (by decide +kernel) dX9_mixed_18 (s_isn 3 rfl (Nat.le_of_ble_eq_true rfl) dX9_mixed_19 (s_j (hκ 20))))))))) (s_iconst (by decide +kernel) dX9_mixed_7 (s_ri rfl dX9_mixed_8)))))
noncomputable def k_X9_mixed_20 (κ : gb_K) : gb_C := (o_il 3 (o_ci 6 (o_cge (o_il 2 o_ri) (o_ci 0 (o_is 4 (o_ci 0 (o_is 5 (o_j [0, 1, 2, 3, 4, 5] (κ 32)))))))))
theorem l_X9_mixed_20 : gb_Li (fun κ => k_X9_mixed_20 κ) := (gb_li (q_il 3) (gb_li (q_ci 6) (q_cge (gb_li (q_il 2) (gb_li0 _)) (gb_li (q_ci 0) (gb_li (q_is 4) (gb_li (q_ci 0) (gb_li (q_is 5) (q_j [0, 1, 2, 3, 4, 5] 32))))))))
theorem s_X9_mixed_20   {κ : gb_K} (hκ : ∀ q, gb_S RX9 cX9_mixed 6 (gb_rm 2 46) 1 q (κ q)) : gb_S RX9 cX9_mixed 6 (gb_rm 2 46) 1 20 (k_X9_mixed_20 κ) := (s_iln 3 rfl dX9_mixed_20 (s_bipush (by decide +kernel) dX9_mixed_21 (s_cge (tgt := 82) (by decide +kernel) dX9_mixed_23 (s_iln 2 rfl dX9_mixed_82 (s_ri rfl dX9_mixed_83)) (s_iconst (by decide +kernel) dX9_mixed_26 (s_is (Nat.le_of_ble_eq_true rfl) dX9_mixed_27 (s_iconst (by decide +kernel) dX9_mixed_29 (s_is (Nat.le_of_ble_eq_true rfl) dX9_mixed_30 (s_j (hκ 32)))))))))
noncomputable def k_X9_mixed_32 (κ : gb_K) : gb_C := (o_il 5 (o_ci 6 (o_cge (o_al 0 (o_gf 9 7 (o_il 4 (o_i2l (o_cv 1 4 0 f_X4_add (o_il 2 (o_il 4 (o_ib (fun x y => x + y) (o_is 2 (o_inc 3 1 (o_j [0, 1, 2, 3] (κ 20)))))))))))) (o_il 4 (o_al 0 (o_gf 9 3 (o_il 5 (o_il 1 (o_il 3 (o_cv 3 7 1 f_X7_mixedOf (o_ib (fun x y => x + y) (o_is 4 (o_inc 5 1 (o_j [0, 1, 2, 3, 4, 5] (κ 32)))))))))))))))
theorem l_X9_mixed_32 : gb_Li (fun κ => k_X9_mixed_32 κ) := (gb_li (q_il 5) (gb_li (q_ci 6) (q_cge (gb_li (q_al 0) (gb_li (q_gf 9 7) (gb_li (q_il 4) (gb_li q_i2l (gb_li (q_cv 1 4 0 f_X4_add) (gb_li (q_il 2) (gb_li (q_il 4) (gb_li (q_ib _) (gb_li (q_is 2) (gb_li (q_inc 3 1) (q_j [0, 1, 2, 3] 20))))))))))) (gb_li (q_il 4) (gb_li (q_al 0) (gb_li (q_gf 9 3) (gb_li (q_il 5) (gb_li (q_il 1) (gb_li (q_il 3) (gb_li (q_cv 3 7 1 f_X7_mixedOf) (gb_li (q_ib _) (gb_li (q_is 4) (gb_li (q_inc 5 1) (q_j [0, 1, 2, 3, 4, 5] 32))))))))))))))
theorem s_X9_mixed_32   {κ : gb_K} (hκ : ∀ q, gb_S RX9 cX9_mixed 6 (gb_rm 2 46) 1 q (κ q)) : gb_S RX9 cX9_mixed 6 (gb_rm 2 46) 1 32 (k_X9_mixed_32 κ) := (s_il dX9_mixed_32 (s_bipush (by decide +kernel) dX9_mixed_34 (s_cge (tgt := 61) (by decide +kernel) dX9_mixed_36 (s_aln 0 rfl dX9_mixed_61 (s_gf (T := TX9) winX9 rfl (Nat.le_of_ble_eq_true rfl) gw_293 rfl dX9_mixed_62 (s_il dX9_mixed_65 (s_i2l dX9_mixed_67 (s_cv (C := RX4) c_X4_add rfl (gb_l5 gw_307 gw_308 gw_309 gw_297 gw_310) v_X4_add ⟨rfl, rfl⟩ ⟨Nat.le_of_ble_eq_true rfl, Nat.le_of_ble_eq_true rfl⟩ dX9_mixed_68 (s_iln 2 rfl dX9_mixed_71 (s_il dX9_mixed_72 (s_iadd dX9_mixed_74 (s_isn 2 rfl (Nat.le_of_ble_eq_true rfl) dX9_mixed_75 (s_inc (by decide +kernel) (Nat.le_of_ble_eq_true rfl) dX9_mixed_76 (s_goto (tgt := 20) (by decide +kernel) dX9_mixed_79 (s_j (hκ 20))))))))))))) (s_il dX9_mixed_39 (s_aln 0 rfl dX9_mixed_41 (s_gf (T := TX9) winX9 rfl (Nat.le_of_ble_eq_true rfl) gw_238 rfl dX9_mixed_42 (s_il dX9_mixed_45 (s_iln 1 rfl dX9_mixed_47 (s_iln 3 rfl dX9_mixed_48 (s_cv (C := RX7) c_X7_mixedOf rfl (gb_l5 gw_353 gw_187 gw_188 gw_11 gw_189) v_X7_mixedOf ⟨rfl, rfl⟩ ⟨Nat.le_of_ble_eq_true rfl, Nat.le_of_ble_eq_true rfl⟩ dX9_mixed_49 (s_iadd dX9_mixed_52 (s_is (Nat.le_of_ble_eq_true rfl) dX9_mixed_53 (s_inc (by decide +kernel) (Nat.le_of_ble_eq_true rfl) dX9_mixed_55 (s_goto (tgt := 32) (by decide +kernel) dX9_mixed_58 (s_j (hκ 32))))))))))))))))
noncomputable def B_X9_mixed : List (Nat × (gb_K → gb_C)) := [(20, fun κ => k_X9_mixed_20 κ), (32, fun κ => k_X9_mixed_32 κ)]
noncomputable def K_X9_mixed : gb_K := gb_fx (gb_tb (B_X9_mixed))
theorem L_X9_mixed : ∀ q, gb_Li (fun κ => gb_tb (B_X9_mixed) κ q) := gb_tb_li (List.forall_mem_cons.mpr ⟨l_X9_mixed_20, List.forall_mem_cons.mpr ⟨l_X9_mixed_32, (fun _ h => absurd h List.not_mem_nil)⟩⟩)
theorem S_X9_mixed   : ∀ q, gb_S RX9 cX9_mixed 6 (gb_rm 2 46) 1 q (K_X9_mixed q) := fun q => gb_fx_S (L_X9_mixed) (gb_tb_S (List.forall_mem_cons.mpr ⟨fun κ hκ => s_X9_mixed_20 hκ, List.forall_mem_cons.mpr ⟨fun κ hκ => s_X9_mixed_32 hκ, (fun _ h => absurd h List.not_mem_nil)⟩⟩)) q
noncomputable def f_X9_mixed : gb_F := gb_hide (gb_mf 6 (k_X9_mixed_0 (K_X9_mixed)))
theorem c_X9_mixed : ∀ l, gb_Met l yX9_mixed cX9_mixed 6 (some .int) 1 (gb_rm 2 46) f_X9_mixed := gb_hide_c (gb_met (own := RX9) (rk := 1) rfl (by decide +kernel) ⟨rfl, rfl⟩ (s_X9_mixed_0 (S_X9_mixed)))
theorem dX9_would_0 : decode cX9_would 0 = .ok (.iload_n 1, 1) := by decide +kernel
theorem dX9_would_1 : decode cX9_would 1 = .ok (.invokestatic 114, 3) := by decide +kernel
theorem dX9_would_4 : decode cX9_would 4 = .ok (.ifCond .eq 17, 3) := by decide +kernel
theorem dX9_would_7 : decode cX9_would 7 = .ok (.iload_n 2, 1) := by decide +kernel
theorem dX9_would_8 : decode cX9_would 8 = .ok (.invokestatic 177, 3) := by decide +kernel
theorem dX9_would_11 : decode cX9_would 11 = .ok (.ifCond .eq 10, 3) := by decide +kernel
theorem dX9_would_14 : decode cX9_would 14 = .ok (.iload_n 3, 1) := by decide +kernel
theorem dX9_would_15 : decode cX9_would 15 = .ok (.invokestatic 136, 3) := by decide +kernel
theorem dX9_would_18 : decode cX9_would 18 = .ok (.ifCond .ne 5, 3) := by decide +kernel
theorem dX9_would_21 : decode cX9_would 21 = .ok (.iconst (-1), 1) := by decide +kernel
theorem dX9_would_22 : decode cX9_would 22 = .ok (.ireturn, 1) := by decide +kernel
theorem dX9_would_23 : decode cX9_would 23 = .ok (.aload_n 0, 1) := by decide +kernel
theorem dX9_would_24 : decode cX9_would 24 = .ok (.getfield 31, 3) := by decide +kernel
theorem dX9_would_27 : decode cX9_would 27 = .ok (.iload_n 3, 1) := by decide +kernel
theorem dX9_would_28 : decode cX9_would 28 = .ok (.iload_n 1, 1) := by decide +kernel
theorem dX9_would_29 : decode cX9_would 29 = .ok (.iload_n 2, 1) := by decide +kernel
theorem dX9_would_30 : decode cX9_would 30 = .ok (.aload_n 0, 1) := by decide +kernel
theorem dX9_would_31 : decode cX9_would 31 = .ok (.getfield 31, 3) := by decide +kernel
theorem dX9_would_34 : decode cX9_would 34 = .ok (.getfield 151, 3) := by decide +kernel
theorem dX9_would_37 : decode cX9_would 37 = .ok (.invokevirtual 180, 3) := by decide +kernel
theorem dX9_would_40 : decode cX9_would 40 = .ok (.istore 4, 2) := by decide +kernel
theorem dX9_would_42 : decode cX9_would 42 = .ok (.iload 4, 2) := by decide +kernel
theorem dX9_would_44 : decode cX9_would 44 = .ok (.ifCond .ge 9, 3) := by decide +kernel
theorem dX9_would_47 : decode cX9_would 47 = .ok (.ldc 249, 2) := by decide +kernel
theorem dX9_would_49 : decode cX9_would 49 = .ok (.iload 4, 2) := by decide +kernel
theorem dX9_would_51 : decode cX9_would 51 = .ok (.iadd, 1) := by decide +kernel
theorem dX9_would_52 : decode cX9_would 52 = .ok (.ireturn, 1) := by decide +kernel
theorem dX9_would_53 : decode cX9_would 53 = .ok (.aload_n 0, 1) := by decide +kernel
theorem dX9_would_54 : decode cX9_would 54 = .ok (.getfield 31, 3) := by decide +kernel
theorem dX9_would_57 : decode cX9_would 57 = .ok (.iload_n 3, 1) := by decide +kernel
theorem dX9_would_58 : decode cX9_would 58 = .ok (.iload_n 1, 1) := by decide +kernel
theorem dX9_would_59 : decode cX9_would 59 = .ok (.iload_n 2, 1) := by decide +kernel
theorem dX9_would_60 : decode cX9_would 60 = .ok (.invokevirtual 250, 3) := by decide +kernel
theorem dX9_would_63 : decode cX9_would 63 = .ok (.istore 5, 2) := by decide +kernel
theorem dX9_would_65 : decode cX9_would 65 = .ok (.aload_n 0, 1) := by decide +kernel
theorem dX9_would_66 : decode cX9_would 66 = .ok (.getfield 48, 3) := by decide +kernel
theorem dX9_would_69 : decode cX9_would 69 = .ok (.invokevirtual 194, 3) := by decide +kernel
theorem dX9_would_72 : decode cX9_would 72 = .ok (.aload_n 0, 1) := by decide +kernel
theorem dX9_would_73 : decode cX9_would 73 = .ok (.getfield 48, 3) := by decide +kernel
theorem dX9_would_76 : decode cX9_would 76 = .ok (.aload_n 0, 1) := by decide +kernel
theorem dX9_would_77 : decode cX9_would 77 = .ok (.getfield 31, 3) := by decide +kernel
theorem dX9_would_80 : decode cX9_would 80 = .ok (.iload_n 3, 1) := by decide +kernel
theorem dX9_would_81 : decode cX9_would 81 = .ok (.invokevirtual 208, 3) := by decide +kernel
theorem dX9_would_84 : decode cX9_would 84 = .ok (.iload 5, 2) := by decide +kernel
theorem dX9_would_86 : decode cX9_would 86 = .ok (.iadd, 1) := by decide +kernel
theorem dX9_would_87 : decode cX9_would 87 = .ok (.i2l, 1) := by decide +kernel
theorem dX9_would_88 : decode cX9_would 88 = .ok (.invokevirtual 199, 3) := by decide +kernel
theorem dX9_would_91 : decode cX9_would 91 = .ok (.aload_n 0, 1) := by decide +kernel
theorem dX9_would_92 : decode cX9_would 92 = .ok (.getfield 48, 3) := by decide +kernel
theorem dX9_would_95 : decode cX9_would 95 = .ok (.aload_n 0, 1) := by decide +kernel
theorem dX9_would_96 : decode cX9_would 96 = .ok (.getfield 31, 3) := by decide +kernel
theorem dX9_would_99 : decode cX9_would 99 = .ok (.iload_n 3, 1) := by decide +kernel
theorem dX9_would_100 : decode cX9_would 100 = .ok (.invokevirtual 240, 3) := by decide +kernel
theorem dX9_would_103 : decode cX9_would 103 = .ok (.aload_n 0, 1) := by decide +kernel
theorem dX9_would_104 : decode cX9_would 104 = .ok (.getfield 31, 3) := by decide +kernel
theorem dX9_would_107 : decode cX9_would 107 = .ok (.iload_n 3, 1) := by decide +kernel
theorem dX9_would_108 : decode cX9_would 108 = .ok (.iload_n 1, 1) := by decide +kernel
theorem dX9_would_109 : decode cX9_would 109 = .ok (.iload_n 2, 1) := by decide +kernel
theorem dX9_would_110 : decode cX9_would 110 = .ok (.invokevirtual 253, 3) := by decide +kernel
theorem dX9_would_113 : decode cX9_would 113 = .ok (.iadd, 1) := by decide +kernel
theorem dX9_would_114 : decode cX9_would 114 = .ok (.i2l, 1) := by decide +kernel
theorem dX9_would_115 : decode cX9_would 115 = .ok (.invokevirtual 199, 3) := by decide +kernel
theorem dX9_would_118 : decode cX9_would 118 = .ok (.iload 5, 2) := by decide +kernel
theorem dX9_would_120 : decode cX9_would 120 = .ok (.ireturn, 1) := by decide +kernel
theorem v_X9_would : yX9_would.cls = RX9 ∧ yX9_would.cls ≠ "java/lang/invoke/MethodHandle" ∧ yX9_would.cls ≠ "java/lang/invoke/VarHandle" ∧ (parseMethodDescriptor yX9_would.desc).map (fun d => d.parameters.length) = some 3 := ⟨rfl, by decide +kernel, by decide +kernel, by decide +kernel⟩
noncomputable def k_X9_would_21 (κ : gb_K) : gb_C := (o_ci (-1) o_ri)
theorem l_X9_would_21 : gb_Li (fun κ => k_X9_would_21 κ) := (gb_li (q_ci (-1)) (gb_li0 _))
theorem s_X9_would_21   {κ : gb_K} (hκ : ∀ q, gb_S RX9 cX9_would 6 (gb_rm 5 113) 1 q (κ q)) : gb_S RX9 cX9_would 6 (gb_rm 5 113) 1 21 (k_X9_would_21 κ) := (s_iconst (by decide +kernel) dX9_would_21 (s_ri rfl dX9_would_22))
noncomputable def k_X9_would_69 (κ : gb_K) : gb_C := (o_cv 0 4 0 f_X4_start (o_al 0 (o_gf 9 7 (o_al 0 (o_gf 9 3 (o_il 3 (o_cv 1 7 1 f_X7_valueOf (o_il 5 (o_ib (fun x y => x + y) (o_i2l (o_cv 1 4 0 f_X4_add (o_al 0 (o_gf 9 7 (o_al 0 (o_gf 9 3 (o_il 3 (o_cv 1 7 1 f_X7_mixedIn (o_al 0 (o_gf 9 3 (o_il 3 (o_il 1 (o_il 2 (o_cv 3 7 1 f_X7_growth (o_ib (fun x y => x + y) (o_i2l (o_cv 1 4 0 f_X4_add (o_il 5 o_ri)))))))))))))))))))))))))))
theorem l_X9_would_69 : gb_Li (fun κ => k_X9_would_69 κ) := (gb_li (q_cv 0 4 0 f_X4_start) (gb_li (q_al 0) (gb_li (q_gf 9 7) (gb_li (q_al 0) (gb_li (q_gf 9 3) (gb_li (q_il 3) (gb_li (q_cv 1 7 1 f_X7_valueOf) (gb_li (q_il 5) (gb_li (q_ib _) (gb_li q_i2l (gb_li (q_cv 1 4 0 f_X4_add) (gb_li (q_al 0) (gb_li (q_gf 9 7) (gb_li (q_al 0) (gb_li (q_gf 9 3) (gb_li (q_il 3) (gb_li (q_cv 1 7 1 f_X7_mixedIn) (gb_li (q_al 0) (gb_li (q_gf 9 3) (gb_li (q_il 3) (gb_li (q_il 1) (gb_li (q_il 2) (gb_li (q_cv 3 7 1 f_X7_growth) (gb_li (q_ib _) (gb_li q_i2l (gb_li (q_cv 1 4 0 f_X4_add) (gb_li (q_il 5) (gb_li0 _))))))))))))))))))))))))))))
theorem s_X9_would_69   {κ : gb_K} (hκ : ∀ q, gb_S RX9 cX9_would 6 (gb_rm 5 113) 1 q (κ q)) : gb_S RX9 cX9_would 6 (gb_rm 5 113) 1 69 (k_X9_would_69 κ) := (s_cv (C := RX4) c_X4_start rfl (gb_l5 gw_294 gw_295 gw_296 gw_297 gw_298) v_X4_start ⟨rfl, rfl⟩ ⟨Nat.le_of_ble_eq_true rfl, Nat.le_of_ble_eq_true rfl⟩ dX9_would_69 (s_aln 0 rfl dX9_would_72 (s_gf (T := TX9) winX9 rfl (Nat.le_of_ble_eq_true rfl) gw_293 rfl dX9_would_73 (s_aln 0 rfl dX9_would_76 (s_gf (T := TX9) winX9 rfl (Nat.le_of_ble_eq_true rfl) gw_238 rfl dX9_would_77 (s_iln 3 rfl dX9_would_80 (s_cv (C := RX7) c_X7_valueOf rfl (gb_l5 gw_311 gw_312 gw_313 gw_11 gw_314) v_X7_valueOf ⟨rfl, rfl⟩ ⟨Nat.le_of_ble_eq_true rfl, Nat.le_of_ble_eq_true rfl⟩ dX9_would_81 (s_il dX9_would_84 (s_iadd dX9_would_86 (s_i2l dX9_would_87 (s_cv (C := RX4) c_X4_add rfl (gb_l5 gw_307 gw_308 gw_309 gw_297 gw_310) v_X4_add ⟨rfl, rfl⟩ ⟨Nat.le_of_ble_eq_true rfl, Nat.le_of_ble_eq_true rfl⟩ dX9_would_88 (s_aln 0 rfl dX9_would_91 (s_gf (T := TX9) winX9 rfl (Nat.le_of_ble_eq_true rfl) gw_293 rfl dX9_would_92 (s_aln 0 rfl dX9_would_95 (s_gf (T := TX9) winX9 rfl (Nat.le_of_ble_eq_true rfl) gw_238 rfl dX9_would_96 (s_iln 3 rfl dX9_would_99 (s_cv (C := RX7) c_X7_mixedIn rfl (gb_l5 gw_352 gw_195 gw_196 gw_11 gw_197) v_X7_mixedIn ⟨rfl, rfl⟩ ⟨Nat.le_of_ble_eq_true rfl, Nat.le_of_ble_eq_true rfl⟩ dX9_would_100 (s_aln 0 rfl dX9_would_103 (s_gf (T := TX9) winX9 rfl (Nat.le_of_ble_eq_true rfl) gw_238 rfl dX9_would_104 (s_iln 3 rfl dX9_would_107 (s_iln 1 rfl dX9_would_108 (s_iln 2 rfl dX9_would_109 (s_cv (C := RX7) c_X7_growth rfl (gb_l5 gw_354 gw_203 gw_204 gw_11 gw_205) v_X7_growth ⟨rfl, rfl⟩ ⟨Nat.le_of_ble_eq_true rfl, Nat.le_of_ble_eq_true rfl⟩ dX9_would_110 (s_iadd dX9_would_113 (s_i2l dX9_would_114 (s_cv (C := RX4) c_X4_add rfl (gb_l5 gw_307 gw_308 gw_309 gw_297 gw_310) v_X4_add ⟨rfl, rfl⟩ ⟨Nat.le_of_ble_eq_true rfl, Nat.le_of_ble_eq_true rfl⟩ dX9_would_115 (s_il dX9_would_118 (s_ri rfl dX9_would_120))))))))))))))))))))))))))))
noncomputable def k_X9_would_0 (κ : gb_K) : gb_C := (o_il 1 (o_cs 1 2 f_X9_isGrade (o_zeq (k_X9_would_21 κ) (o_il 2 (o_cs 1 2 f_X9_isTons (o_zeq (k_X9_would_21 κ) (o_il 3 (o_cs 1 2 f_X9_isBin (o_zeq (k_X9_would_21 κ) (o_al 0 (o_gf 9 3 (o_il 3 (o_il 1 (o_il 2 (o_al 0 (o_gf 9 3 (o_gf 7 9 (o_cv 4 7 1 f_X7_why (o_is 4 (o_il 4 (o_zge (o_al 0 (o_gf 9 3 (o_il 3 (o_il 1 (o_il 2 (o_cv 3 7 1 f_X7_gain (o_is 5 (o_al 0 (o_gf 9 7 (k_X9_would_69 κ)))))))))) (o_ci (-1000000) (o_il 4 (o_ib (fun x y => x + y) o_ri))))))))))))))))))))))))
theorem l_X9_would_0 : gb_Li (fun κ => k_X9_would_0 κ) := (gb_li (q_il 1) (gb_li (q_cs 1 2 f_X9_isGrade) (q_zeq (l_X9_would_21) (gb_li (q_il 2) (gb_li (q_cs 1 2 f_X9_isTons) (q_zeq (l_X9_would_21) (gb_li (q_il 3) (gb_li (q_cs 1 2 f_X9_isBin) (q_zeq (l_X9_would_21) (gb_li (q_al 0) (gb_li (q_gf 9 3) (gb_li (q_il 3) (gb_li (q_il 1) (gb_li (q_il 2) (gb_li (q_al 0) (gb_li (q_gf 9 3) (gb_li (q_gf 7 9) (gb_li (q_cv 4 7 1 f_X7_why) (gb_li (q_is 4) (gb_li (q_il 4) (q_zge (gb_li (q_al 0) (gb_li (q_gf 9 3) (gb_li (q_il 3) (gb_li (q_il 1) (gb_li (q_il 2) (gb_li (q_cv 3 7 1 f_X7_gain) (gb_li (q_is 5) (gb_li (q_al 0) (gb_li (q_gf 9 7) (l_X9_would_69)))))))))) (gb_li (q_ci (-1000000)) (gb_li (q_il 4) (gb_li (q_ib _) (gb_li0 _)))))))))))))))))))))))))
theorem s_X9_would_0   {κ : gb_K} (hκ : ∀ q, gb_S RX9 cX9_would 6 (gb_rm 5 113) 1 q (κ q)) : gb_S RX9 cX9_would 6 (gb_rm 5 113) 1 0 (k_X9_would_0 κ) := (s_iln 1 rfl dX9_would_0 (s_cs c_X9_isGrade (gb_l4 gw_256 gw_257 gw_258 gw_259) v_X9_isGrade.2 ⟨rfl, rfl⟩ ⟨Nat.le_of_ble_eq_true rfl, Nat.le_of_ble_eq_true rfl⟩ dX9_would_1 (s_zeq (tgt := 21) (by decide +kernel) dX9_would_4 (s_X9_would_21 hκ) (s_iln 2 rfl dX9_would_7 (s_cs c_X9_isTons (gb_l4 gw_281 gw_282 gw_258 gw_283) v_X9_isTons.2 ⟨rfl, rfl⟩ ⟨Nat.le_of_ble_eq_true rfl, Nat.le_of_ble_eq_true rfl⟩ dX9_would_8 (s_zeq (tgt := 21) (by decide +kernel) dX9_would_11 (s_X9_would_21 hκ) (s_iln 3 rfl dX9_would_14 (s_cs c_X9_isBin (gb_l4 gw_272 gw_273 gw_258 gw_274) v_X9_isBin.2 ⟨rfl, rfl⟩ ⟨Nat.le_of_ble_eq_true rfl, Nat.le_of_ble_eq_true rfl⟩ dX9_would_15 (s_zne (tgt := 23) (by decide +kernel) dX9_would_18 (s_aln 0 rfl dX9_would_23 (s_gf (T := TX9) winX9 rfl (Nat.le_of_ble_eq_true rfl) gw_238 rfl dX9_would_24 (s_iln 3 rfl dX9_would_27 (s_iln 1 rfl dX9_would_28 (s_iln 2 rfl dX9_would_29 (s_aln 0 rfl dX9_would_30 (s_gf (T := TX9) winX9 rfl (Nat.le_of_ble_eq_true rfl) gw_238 rfl dX9_would_31 (s_gf (T := TX7) winX7 rfl (Nat.le_of_ble_eq_true rfl) gw_267 rfl dX9_would_34 (s_cv (C := RX7) c_X7_why rfl (gb_l5 gw_284 gw_285 gw_286 gw_11 gw_287) v_X7_why ⟨rfl, rfl⟩ ⟨Nat.le_of_ble_eq_true rfl, Nat.le_of_ble_eq_true rfl⟩ dX9_would_37 (s_is (Nat.le_of_ble_eq_true rfl) dX9_would_40 (s_il dX9_would_42 (s_zge (tgt := 53) (by decide +kernel) dX9_would_44 (s_aln 0 rfl dX9_would_53 (s_gf (T := TX9) winX9 rfl (Nat.le_of_ble_eq_true rfl) gw_238 rfl dX9_would_54 (s_iln 3 rfl dX9_would_57 (s_iln 1 rfl dX9_would_58 (s_iln 2 rfl dX9_would_59 (s_cv (C := RX7) c_X7_gain rfl (gb_l5 gw_355 gw_356 gw_357 gw_11 gw_358) v_X7_gain ⟨rfl, rfl⟩ ⟨Nat.le_of_ble_eq_true rfl, Nat.le_of_ble_eq_true rfl⟩ dX9_would_60 (s_is (Nat.le_of_ble_eq_true rfl) dX9_would_63 (s_aln 0 rfl dX9_would_65 (s_gf (T := TX9) winX9 rfl (Nat.le_of_ble_eq_true rfl) gw_293 rfl dX9_would_66 (s_X9_would_69 hκ)))))))))) (s_ldc gw_359 dX9_would_47 (s_il dX9_would_49 (s_iadd dX9_would_51 (s_ri rfl dX9_would_52)))))))))))))))) (s_X9_would_21 hκ))))))))))
noncomputable def f_X9_would : gb_F := gb_hide (gb_mf 6 (k_X9_would_0 gb_n))
theorem c_X9_would : ∀ l, gb_Met l yX9_would cX9_would 6 (some .int) 1 (gb_rm 5 113) f_X9_would := gb_hide_c (gb_met (own := RX9) (rk := 1) rfl (by decide +kernel) ⟨rfl, rfl⟩ (s_X9_would_0 gb_S_n))
theorem dX9_worst_0 : decode cX9_worst 0 = .ok (.iconst 0, 1) := by decide +kernel
theorem dX9_worst_1 : decode cX9_worst 1 = .ok (.istore_n 1, 1) := by decide +kernel
theorem dX9_worst_2 : decode cX9_worst 2 = .ok (.bipush (-2), 2) := by decide +kernel
theorem dX9_worst_4 : decode cX9_worst 4 = .ok (.istore_n 2, 1) := by decide +kernel
theorem dX9_worst_5 : decode cX9_worst 5 = .ok (.iconst (-1), 1) := by decide +kernel
theorem dX9_worst_6 : decode cX9_worst 6 = .ok (.istore_n 3, 1) := by decide +kernel
theorem dX9_worst_7 : decode cX9_worst 7 = .ok (.iconst 0, 1) := by decide +kernel
theorem dX9_worst_8 : decode cX9_worst 8 = .ok (.istore 4, 2) := by decide +kernel
theorem dX9_worst_10 : decode cX9_worst 10 = .ok (.iload 4, 2) := by decide +kernel
theorem dX9_worst_12 : decode cX9_worst 12 = .ok (.bipush 6, 2) := by decide +kernel
theorem dX9_worst_14 : decode cX9_worst 14 = .ok (.if_icmp .ge 80, 3) := by decide +kernel
theorem dX9_worst_17 : decode cX9_worst 17 = .ok (.iconst 0, 1) := by decide +kernel
theorem dX9_worst_18 : decode cX9_worst 18 = .ok (.istore 5, 2) := by decide +kernel
theorem dX9_worst_20 : decode cX9_worst 20 = .ok (.iload 5, 2) := by decide +kernel
theorem dX9_worst_22 : decode cX9_worst 22 = .ok (.bipush 6, 2) := by decide +kernel
theorem dX9_worst_24 : decode cX9_worst 24 = .ok (.if_icmp .ge 64, 3) := by decide +kernel
theorem dX9_worst_27 : decode cX9_worst 27 = .ok (.iload 5, 2) := by decide +kernel
theorem dX9_worst_29 : decode cX9_worst 29 = .ok (.iconst 1, 1) := by decide +kernel
theorem dX9_worst_30 : decode cX9_worst 30 = .ok (.iadd, 1) := by decide +kernel
theorem dX9_worst_31 : decode cX9_worst 31 = .ok (.istore 6, 2) := by decide +kernel
theorem dX9_worst_33 : decode cX9_worst 33 = .ok (.iload 6, 2) := by decide +kernel
theorem dX9_worst_35 : decode cX9_worst 35 = .ok (.bipush 6, 2) := by decide +kernel
theorem dX9_worst_37 : decode cX9_worst 37 = .ok (.if_icmp .ge 45, 3) := by decide +kernel
theorem dX9_worst_40 : decode cX9_worst 40 = .ok (.aload_n 0, 1) := by decide +kernel
theorem dX9_worst_41 : decode cX9_worst 41 = .ok (.getfield 31, 3) := by decide +kernel
theorem dX9_worst_44 : decode cX9_worst 44 = .ok (.iload 4, 2) := by decide +kernel
theorem dX9_worst_46 : decode cX9_worst 46 = .ok (.iload 5, 2) := by decide +kernel
theorem dX9_worst_48 : decode cX9_worst 48 = .ok (.iload 6, 2) := by decide +kernel
theorem dX9_worst_50 : decode cX9_worst 50 = .ok (.invokevirtual 246, 3) := by decide +kernel
theorem dX9_worst_53 : decode cX9_worst 53 = .ok (.istore 7, 2) := by decide +kernel
theorem dX9_worst_55 : decode cX9_worst 55 = .ok (.iload 7, 2) := by decide +kernel
theorem dX9_worst_57 : decode cX9_worst 57 = .ok (.iload_n 1, 1) := by decide +kernel
theorem dX9_worst_58 : decode cX9_worst 58 = .ok (.if_icmp .le 18, 3) := by decide +kernel
theorem dX9_worst_61 : decode cX9_worst 61 = .ok (.iload 7, 2) := by decide +kernel
theorem dX9_worst_63 : decode cX9_worst 63 = .ok (.istore_n 1, 1) := by decide +kernel
theorem dX9_worst_64 : decode cX9_worst 64 = .ok (.bipush 10, 2) := by decide +kernel
theorem dX9_worst_66 : decode cX9_worst 66 = .ok (.iload 5, 2) := by decide +kernel
theorem dX9_worst_68 : decode cX9_worst 68 = .ok (.imul, 1) := by decide +kernel
theorem dX9_worst_69 : decode cX9_worst 69 = .ok (.iload 6, 2) := by decide +kernel
theorem dX9_worst_71 : decode cX9_worst 71 = .ok (.iadd, 1) := by decide +kernel
theorem dX9_worst_72 : decode cX9_worst 72 = .ok (.istore_n 2, 1) := by decide +kernel
theorem dX9_worst_73 : decode cX9_worst 73 = .ok (.iload 4, 2) := by decide +kernel
theorem dX9_worst_75 : decode cX9_worst 75 = .ok (.istore_n 3, 1) := by decide +kernel
theorem dX9_worst_76 : decode cX9_worst 76 = .ok (.iinc 6 1, 3) := by decide +kernel
theorem dX9_worst_79 : decode cX9_worst 79 = .ok (.goto (-46), 3) := by decide +kernel
theorem dX9_worst_82 : decode cX9_worst 82 = .ok (.iinc 5 1, 3) := by decide +kernel
theorem dX9_worst_85 : decode cX9_worst 85 = .ok (.goto (-65), 3) := by decide +kernel
theorem dX9_worst_88 : decode cX9_worst 88 = .ok (.iinc 4 1, 3) := by decide +kernel
theorem dX9_worst_91 : decode cX9_worst 91 = .ok (.goto (-81), 3) := by decide +kernel
theorem dX9_worst_94 : decode cX9_worst 94 = .ok (.iload_n 1, 1) := by decide +kernel
theorem dX9_worst_95 : decode cX9_worst 95 = .ok (.ifCond .le 28, 3) := by decide +kernel
theorem dX9_worst_98 : decode cX9_worst 98 = .ok (.aload_n 0, 1) := by decide +kernel
theorem dX9_worst_99 : decode cX9_worst 99 = .ok (.getfield 48, 3) := by decide +kernel
theorem dX9_worst_102 : decode cX9_worst 102 = .ok (.invokevirtual 194, 3) := by decide +kernel
theorem dX9_worst_105 : decode cX9_worst 105 = .ok (.aload_n 0, 1) := by decide +kernel
theorem dX9_worst_106 : decode cX9_worst 106 = .ok (.getfield 48, 3) := by decide +kernel
theorem dX9_worst_109 : decode cX9_worst 109 = .ok (.iload_n 1, 1) := by decide +kernel
theorem dX9_worst_110 : decode cX9_worst 110 = .ok (.i2l, 1) := by decide +kernel
theorem dX9_worst_111 : decode cX9_worst 111 = .ok (.invokevirtual 199, 3) := by decide +kernel
theorem dX9_worst_114 : decode cX9_worst 114 = .ok (.aload_n 0, 1) := by decide +kernel
theorem dX9_worst_115 : decode cX9_worst 115 = .ok (.getfield 48, 3) := by decide +kernel
theorem dX9_worst_118 : decode cX9_worst 118 = .ok (.iload_n 3, 1) := by decide +kernel
theorem dX9_worst_119 : decode cX9_worst 119 = .ok (.i2l, 1) := by decide +kernel
theorem dX9_worst_120 : decode cX9_worst 120 = .ok (.invokevirtual 199, 3) := by decide +kernel
theorem dX9_worst_123 : decode cX9_worst 123 = .ok (.iload_n 2, 1) := by decide +kernel
theorem dX9_worst_124 : decode cX9_worst 124 = .ok (.ireturn, 1) := by decide +kernel
theorem v_X9_worst : yX9_worst.cls = RX9 ∧ yX9_worst.cls ≠ "java/lang/invoke/MethodHandle" ∧ yX9_worst.cls ≠ "java/lang/invoke/VarHandle" ∧ (parseMethodDescriptor yX9_worst.desc).map (fun d => d.parameters.length) = some 0 := ⟨rfl, by decide +kernel, by decide +kernel, by decide +kernel⟩
noncomputable def k_X9_worst_0 (κ : gb_K) : gb_C := (o_ci 0 (o_is 1 (o_ci (-2) (o_is 2 (o_ci (-1) (o_is 3 (o_ci 0 (o_is 4 (o_j [0, 1, 2, 3, 4] (κ 10))))))))))
theorem l_X9_worst_0 : gb_Li (fun κ => k_X9_worst_0 κ) := (gb_li (q_ci 0) (gb_li (q_is 1) (gb_li (q_ci (-2)) (gb_li (q_is 2) (gb_li (q_ci (-1)) (gb_li (q_is 3) (gb_li (q_ci 0) (gb_li (q_is 4) (q_j [0, 1, 2, 3, 4] 10)))))))))
theorem s_X9_worst_0   {κ : gb_K} (hκ : ∀ q, gb_S RX9 cX9_worst 8 (gb_rm 2 46) 1 q (κ q)) : gb_S RX9 cX9_worst 8 (gb_rm 2 46) 1 0 (k_X9_worst_0 κ) := (s_iconst (by decide +kernel) dX9_worst_0 (s_isn 1 rfl (Nat.le_of_ble_eq_true rfl) dX9_worst_1 (s_bipush (by decide +kernel) dX9_worst_2 (s_isn 2 rfl (Nat.le_of_ble_eq_true rfl) dX9_worst_4 (s_iconst (by decide +kernel) dX9_worst_5 (s_isn 3 rfl (Nat.le_of_ble_eq_true rfl) dX9_worst_6 (s_iconst (by decide +kernel) dX9_worst_7 (s_is (Nat.le_of_ble_eq_true rfl) dX9_worst_8 (s_j (hκ 10))))))))))
noncomputable def k_X9_worst_123 (κ : gb_K) : gb_C := (o_il 2 o_ri)
theorem l_X9_worst_123 : gb_Li (fun κ => k_X9_worst_123 κ) := (gb_li (q_il 2) (gb_li0 _))
theorem s_X9_worst_123   {κ : gb_K} (hκ : ∀ q, gb_S RX9 cX9_worst 8 (gb_rm 2 46) 1 q (κ q)) : gb_S RX9 cX9_worst 8 (gb_rm 2 46) 1 123 (k_X9_worst_123 κ) := (s_iln 2 rfl dX9_worst_123 (s_ri rfl dX9_worst_124))
noncomputable def k_X9_worst_10 (κ : gb_K) : gb_C := (o_il 4 (o_ci 6 (o_cge (o_il 1 (o_zle (k_X9_worst_123 κ) (o_al 0 (o_gf 9 7 (o_cv 0 4 0 f_X4_start (o_al 0 (o_gf 9 7 (o_il 1 (o_i2l (o_cv 1 4 0 f_X4_add (o_al 0 (o_gf 9 7 (o_il 3 (o_i2l (o_cv 1 4 0 f_X4_add (k_X9_worst_123 κ)))))))))))))))) (o_ci 0 (o_is 5 (o_j [0, 1, 2, 3, 4, 5] (κ 20)))))))
theorem l_X9_worst_10 : gb_Li (fun κ => k_X9_worst_10 κ) := (gb_li (q_il 4) (gb_li (q_ci 6) (q_cge (gb_li (q_il 1) (q_zle (l_X9_worst_123) (gb_li (q_al 0) (gb_li (q_gf 9 7) (gb_li (q_cv 0 4 0 f_X4_start) (gb_li (q_al 0) (gb_li (q_gf 9 7) (gb_li (q_il 1) (gb_li q_i2l (gb_li (q_cv 1 4 0 f_X4_add) (gb_li (q_al 0) (gb_li (q_gf 9 7) (gb_li (q_il 3) (gb_li q_i2l (gb_li (q_cv 1 4 0 f_X4_add) (l_X9_worst_123)))))))))))))))) (gb_li (q_ci 0) (gb_li (q_is 5) (q_j [0, 1, 2, 3, 4, 5] 20))))))
theorem s_X9_worst_10   {κ : gb_K} (hκ : ∀ q, gb_S RX9 cX9_worst 8 (gb_rm 2 46) 1 q (κ q)) : gb_S RX9 cX9_worst 8 (gb_rm 2 46) 1 10 (k_X9_worst_10 κ) := (s_il dX9_worst_10 (s_bipush (by decide +kernel) dX9_worst_12 (s_cge (tgt := 94) (by decide +kernel) dX9_worst_14 (s_iln 1 rfl dX9_worst_94 (s_zle (tgt := 123) (by decide +kernel) dX9_worst_95 (s_X9_worst_123 hκ) (s_aln 0 rfl dX9_worst_98 (s_gf (T := TX9) winX9 rfl (Nat.le_of_ble_eq_true rfl) gw_293 rfl dX9_worst_99 (s_cv (C := RX4) c_X4_start rfl (gb_l5 gw_294 gw_295 gw_296 gw_297 gw_298) v_X4_start ⟨rfl, rfl⟩ ⟨Nat.le_of_ble_eq_true rfl, Nat.le_of_ble_eq_true rfl⟩ dX9_worst_102 (s_aln 0 rfl dX9_worst_105 (s_gf (T := TX9) winX9 rfl (Nat.le_of_ble_eq_true rfl) gw_293 rfl dX9_worst_106 (s_iln 1 rfl dX9_worst_109 (s_i2l dX9_worst_110 (s_cv (C := RX4) c_X4_add rfl (gb_l5 gw_307 gw_308 gw_309 gw_297 gw_310) v_X4_add ⟨rfl, rfl⟩ ⟨Nat.le_of_ble_eq_true rfl, Nat.le_of_ble_eq_true rfl⟩ dX9_worst_111 (s_aln 0 rfl dX9_worst_114 (s_gf (T := TX9) winX9 rfl (Nat.le_of_ble_eq_true rfl) gw_293 rfl dX9_worst_115 (s_iln 3 rfl dX9_worst_118 (s_i2l dX9_worst_119 (s_cv (C := RX4) c_X4_add rfl (gb_l5 gw_307 gw_308 gw_309 gw_297 gw_310) v_X4_add ⟨rfl, rfl⟩ ⟨Nat.le_of_ble_eq_true rfl, Nat.le_of_ble_eq_true rfl⟩ dX9_worst_120 (s_X9_worst_123 hκ)))))))))))))))) (s_iconst (by decide +kernel) dX9_worst_17 (s_is (Nat.le_of_ble_eq_true rfl) dX9_worst_18 (s_j (hκ 20)))))))
noncomputable def k_X9_worst_20 (κ : gb_K) : gb_C := (o_il 5 (o_ci 6 (o_cge (o_inc 4 1 (o_j [0, 1, 2, 3, 4] (κ 10))) (o_il 5 (o_ci 1 (o_ib (fun x y => x + y) (o_is 6 (o_j [0, 1, 2, 3, 4, 5, 6] (κ 33)))))))))
theorem l_X9_worst_20 : gb_Li (fun κ => k_X9_worst_20 κ) := (gb_li (q_il 5) (gb_li (q_ci 6) (q_cge (gb_li (q_inc 4 1) (q_j [0, 1, 2, 3, 4] 10)) (gb_li (q_il 5) (gb_li (q_ci 1) (gb_li (q_ib _) (gb_li (q_is 6) (q_j [0, 1, 2, 3, 4, 5, 6] 33))))))))
theorem s_X9_worst_20   {κ : gb_K} (hκ : ∀ q, gb_S RX9 cX9_worst 8 (gb_rm 2 46) 1 q (κ q)) : gb_S RX9 cX9_worst 8 (gb_rm 2 46) 1 20 (k_X9_worst_20 κ) := (s_il dX9_worst_20 (s_bipush (by decide +kernel) dX9_worst_22 (s_cge (tgt := 88) (by decide +kernel) dX9_worst_24 (s_inc (by decide +kernel) (Nat.le_of_ble_eq_true rfl) dX9_worst_88 (s_goto (tgt := 10) (by decide +kernel) dX9_worst_91 (s_j (hκ 10)))) (s_il dX9_worst_27 (s_iconst (by decide +kernel) dX9_worst_29 (s_iadd dX9_worst_30 (s_is (Nat.le_of_ble_eq_true rfl) dX9_worst_31 (s_j (hκ 33)))))))))
noncomputable def k_X9_worst_76 (κ : gb_K) : gb_C := (o_inc 6 1 (o_j [0, 1, 2, 3, 4, 5, 6] (κ 33)))
theorem l_X9_worst_76 : gb_Li (fun κ => k_X9_worst_76 κ) := (gb_li (q_inc 6 1) (q_j [0, 1, 2, 3, 4, 5, 6] 33))
theorem s_X9_worst_76   {κ : gb_K} (hκ : ∀ q, gb_S RX9 cX9_worst 8 (gb_rm 2 46) 1 q (κ q)) : gb_S RX9 cX9_worst 8 (gb_rm 2 46) 1 76 (k_X9_worst_76 κ) := (s_inc (by decide +kernel) (Nat.le_of_ble_eq_true rfl) dX9_worst_76 (s_goto (tgt := 33) (by decide +kernel) dX9_worst_79 (s_j (hκ 33))))
noncomputable def k_X9_worst_33 (κ : gb_K) : gb_C := (o_il 6 (o_ci 6 (o_cge (o_inc 5 1 (o_j [0, 1, 2, 3, 4, 5] (κ 20))) (o_al 0 (o_gf 9 3 (o_il 4 (o_il 5 (o_il 6 (o_cv 3 7 1 f_X7_mixedOf (o_is 7 (o_il 7 (o_il 1 (o_cle (k_X9_worst_76 κ) (o_il 7 (o_is 1 (o_ci 10 (o_il 5 (o_ib (fun x y => x * y) (o_il 6 (o_ib (fun x y => x + y) (o_is 2 (o_il 4 (o_is 3 (k_X9_worst_76 κ))))))))))))))))))))))))
theorem l_X9_worst_33 : gb_Li (fun κ => k_X9_worst_33 κ) := (gb_li (q_il 6) (gb_li (q_ci 6) (q_cge (gb_li (q_inc 5 1) (q_j [0, 1, 2, 3, 4, 5] 20)) (gb_li (q_al 0) (gb_li (q_gf 9 3) (gb_li (q_il 4) (gb_li (q_il 5) (gb_li (q_il 6) (gb_li (q_cv 3 7 1 f_X7_mixedOf) (gb_li (q_is 7) (gb_li (q_il 7) (gb_li (q_il 1) (q_cle (l_X9_worst_76) (gb_li (q_il 7) (gb_li (q_is 1) (gb_li (q_ci 10) (gb_li (q_il 5) (gb_li (q_ib _) (gb_li (q_il 6) (gb_li (q_ib _) (gb_li (q_is 2) (gb_li (q_il 4) (gb_li (q_is 3) (l_X9_worst_76))))))))))))))))))))))))
theorem s_X9_worst_33   {κ : gb_K} (hκ : ∀ q, gb_S RX9 cX9_worst 8 (gb_rm 2 46) 1 q (κ q)) : gb_S RX9 cX9_worst 8 (gb_rm 2 46) 1 33 (k_X9_worst_33 κ) := (s_il dX9_worst_33 (s_bipush (by decide +kernel) dX9_worst_35 (s_cge (tgt := 82) (by decide +kernel) dX9_worst_37 (s_inc (by decide +kernel) (Nat.le_of_ble_eq_true rfl) dX9_worst_82 (s_goto (tgt := 20) (by decide +kernel) dX9_worst_85 (s_j (hκ 20)))) (s_aln 0 rfl dX9_worst_40 (s_gf (T := TX9) winX9 rfl (Nat.le_of_ble_eq_true rfl) gw_238 rfl dX9_worst_41 (s_il dX9_worst_44 (s_il dX9_worst_46 (s_il dX9_worst_48 (s_cv (C := RX7) c_X7_mixedOf rfl (gb_l5 gw_353 gw_187 gw_188 gw_11 gw_189) v_X7_mixedOf ⟨rfl, rfl⟩ ⟨Nat.le_of_ble_eq_true rfl, Nat.le_of_ble_eq_true rfl⟩ dX9_worst_50 (s_is (Nat.le_of_ble_eq_true rfl) dX9_worst_53 (s_il dX9_worst_55 (s_iln 1 rfl dX9_worst_57 (s_cle (tgt := 76) (by decide +kernel) dX9_worst_58 (s_X9_worst_76 hκ) (s_il dX9_worst_61 (s_isn 1 rfl (Nat.le_of_ble_eq_true rfl) dX9_worst_63 (s_bipush (by decide +kernel) dX9_worst_64 (s_il dX9_worst_66 (s_imul dX9_worst_68 (s_il dX9_worst_69 (s_iadd dX9_worst_71 (s_isn 2 rfl (Nat.le_of_ble_eq_true rfl) dX9_worst_72 (s_il dX9_worst_73 (s_isn 3 rfl (Nat.le_of_ble_eq_true rfl) dX9_worst_75 (s_X9_worst_76 hκ))))))))))))))))))))))))
noncomputable def B_X9_worst : List (Nat × (gb_K → gb_C)) := [(10, fun κ => k_X9_worst_10 κ), (20, fun κ => k_X9_worst_20 κ), (33, fun κ => k_X9_worst_33 κ)]
noncomputable def K_X9_worst : gb_K := gb_fx (gb_tb (B_X9_worst))
theorem L_X9_worst : ∀ q, gb_Li (fun κ => gb_tb (B_X9_worst) κ q) := gb_tb_li (List.forall_mem_cons.mpr ⟨l_X9_worst_10, List.forall_mem_cons.mpr ⟨l_X9_worst_20, List.forall_mem_cons.mpr ⟨l_X9_worst_33, (fun _ h => absurd h List.not_mem_nil)⟩⟩⟩)
theorem S_X9_worst   : ∀ q, gb_S RX9 cX9_worst 8 (gb_rm 2 46) 1 q (K_X9_worst q) := fun q => gb_fx_S (L_X9_worst) (gb_tb_S (List.forall_mem_cons.mpr ⟨fun κ hκ => s_X9_worst_10 hκ, List.forall_mem_cons.mpr ⟨fun κ hκ => s_X9_worst_20 hκ, List.forall_mem_cons.mpr ⟨fun κ hκ => s_X9_worst_33 hκ, (fun _ h => absurd h List.not_mem_nil)⟩⟩⟩)) q
noncomputable def f_X9_worst : gb_F := gb_hide (gb_mf 8 (k_X9_worst_0 (K_X9_worst)))
theorem c_X9_worst : ∀ l, gb_Met l yX9_worst cX9_worst 8 (some .int) 1 (gb_rm 2 46) f_X9_worst := gb_hide_c (gb_met (own := RX9) (rk := 1) rfl (by decide +kernel) ⟨rfl, rfl⟩ (s_X9_worst_0 (S_X9_worst)))
theorem dX9_bottom_0 : decode cX9_bottom 0 = .ok (.iload_n 1, 1) := by decide +kernel
theorem dX9_bottom_1 : decode cX9_bottom 1 = .ok (.invokestatic 136, 3) := by decide +kernel
theorem dX9_bottom_4 : decode cX9_bottom 4 = .ok (.ifCond .ne 5, 3) := by decide +kernel
theorem dX9_bottom_7 : decode cX9_bottom 7 = .ok (.iconst (-1), 1) := by decide +kernel
theorem dX9_bottom_8 : decode cX9_bottom 8 = .ok (.ireturn, 1) := by decide +kernel
theorem dX9_bottom_9 : decode cX9_bottom 9 = .ok (.aload_n 0, 1) := by decide +kernel
theorem dX9_bottom_10 : decode cX9_bottom 10 = .ok (.getfield 31, 3) := by decide +kernel
theorem dX9_bottom_13 : decode cX9_bottom 13 = .ok (.getfield 145, 3) := by decide +kernel
theorem dX9_bottom_16 : decode cX9_bottom 16 = .ok (.iload_n 1, 1) := by decide +kernel
theorem dX9_bottom_17 : decode cX9_bottom 17 = .ok (.iaload, 1) := by decide +kernel
theorem dX9_bottom_18 : decode cX9_bottom 18 = .ok (.ifCond .ne 6, 3) := by decide +kernel
theorem dX9_bottom_21 : decode cX9_bottom 21 = .ok (.bipush (-2), 2) := by decide +kernel
theorem dX9_bottom_23 : decode cX9_bottom 23 = .ok (.ireturn, 1) := by decide +kernel
theorem dX9_bottom_24 : decode cX9_bottom 24 = .ok (.aload_n 0, 1) := by decide +kernel
theorem dX9_bottom_25 : decode cX9_bottom 25 = .ok (.getfield 31, 3) := by decide +kernel
theorem dX9_bottom_28 : decode cX9_bottom 28 = .ok (.getfield 165, 3) := by decide +kernel
theorem dX9_bottom_31 : decode cX9_bottom 31 = .ok (.iload_n 1, 1) := by decide +kernel
theorem dX9_bottom_32 : decode cX9_bottom 32 = .ok (.iconst 0, 1) := by decide +kernel
theorem dX9_bottom_33 : decode cX9_bottom 33 = .ok (.invokestatic 162, 3) := by decide +kernel
theorem dX9_bottom_36 : decode cX9_bottom 36 = .ok (.iaload, 1) := by decide +kernel
theorem dX9_bottom_37 : decode cX9_bottom 37 = .ok (.istore_n 2, 1) := by decide +kernel
theorem dX9_bottom_38 : decode cX9_bottom 38 = .ok (.aload_n 0, 1) := by decide +kernel
theorem dX9_bottom_39 : decode cX9_bottom 39 = .ok (.getfield 31, 3) := by decide +kernel
theorem dX9_bottom_42 : decode cX9_bottom 42 = .ok (.iload_n 1, 1) := by decide +kernel
theorem dX9_bottom_43 : decode cX9_bottom 43 = .ok (.iconst 0, 1) := by decide +kernel
theorem dX9_bottom_44 : decode cX9_bottom 44 = .ok (.invokevirtual 280, 3) := by decide +kernel
theorem dX9_bottom_47 : decode cX9_bottom 47 = .ok (.istore_n 3, 1) := by decide +kernel
theorem dX9_bottom_48 : decode cX9_bottom 48 = .ok (.aload_n 0, 1) := by decide +kernel
theorem dX9_bottom_49 : decode cX9_bottom 49 = .ok (.getfield 48, 3) := by decide +kernel
theorem dX9_bottom_52 : decode cX9_bottom 52 = .ok (.invokevirtual 194, 3) := by decide +kernel
theorem dX9_bottom_55 : decode cX9_bottom 55 = .ok (.aload_n 0, 1) := by decide +kernel
theorem dX9_bottom_56 : decode cX9_bottom 56 = .ok (.getfield 48, 3) := by decide +kernel
theorem dX9_bottom_59 : decode cX9_bottom 59 = .ok (.aload_n 0, 1) := by decide +kernel
theorem dX9_bottom_60 : decode cX9_bottom 60 = .ok (.getfield 31, 3) := by decide +kernel
theorem dX9_bottom_63 : decode cX9_bottom 63 = .ok (.iload_n 1, 1) := by decide +kernel
theorem dX9_bottom_64 : decode cX9_bottom 64 = .ok (.iload_n 3, 1) := by decide +kernel
theorem dX9_bottom_65 : decode cX9_bottom 65 = .ok (.invokevirtual 283, 3) := by decide +kernel
theorem dX9_bottom_68 : decode cX9_bottom 68 = .ok (.i2l, 1) := by decide +kernel
theorem dX9_bottom_69 : decode cX9_bottom 69 = .ok (.invokevirtual 199, 3) := by decide +kernel
theorem dX9_bottom_72 : decode cX9_bottom 72 = .ok (.aload_n 0, 1) := by decide +kernel
theorem dX9_bottom_73 : decode cX9_bottom 73 = .ok (.getfield 48, 3) := by decide +kernel
theorem dX9_bottom_76 : decode cX9_bottom 76 = .ok (.iload_n 3, 1) := by decide +kernel
theorem dX9_bottom_77 : decode cX9_bottom 77 = .ok (.i2l, 1) := by decide +kernel
theorem dX9_bottom_78 : decode cX9_bottom 78 = .ok (.invokevirtual 199, 3) := by decide +kernel
theorem dX9_bottom_81 : decode cX9_bottom 81 = .ok (.iload_n 2, 1) := by decide +kernel
theorem dX9_bottom_82 : decode cX9_bottom 82 = .ok (.ireturn, 1) := by decide +kernel
theorem v_X9_bottom : yX9_bottom.cls = RX9 ∧ yX9_bottom.cls ≠ "java/lang/invoke/MethodHandle" ∧ yX9_bottom.cls ≠ "java/lang/invoke/VarHandle" ∧ (parseMethodDescriptor yX9_bottom.desc).map (fun d => d.parameters.length) = some 1 := ⟨rfl, by decide +kernel, by decide +kernel, by decide +kernel⟩
noncomputable def k_X9_bottom_63 (κ : gb_K) : gb_C := (o_il 1 (o_il 3 (o_cv 2 7 1 f_X7_tonsUnder (o_i2l (o_cv 1 4 0 f_X4_add (o_al 0 (o_gf 9 7 (o_il 3 (o_i2l (o_cv 1 4 0 f_X4_add (o_il 2 o_ri)))))))))))
theorem l_X9_bottom_63 : gb_Li (fun κ => k_X9_bottom_63 κ) := (gb_li (q_il 1) (gb_li (q_il 3) (gb_li (q_cv 2 7 1 f_X7_tonsUnder) (gb_li q_i2l (gb_li (q_cv 1 4 0 f_X4_add) (gb_li (q_al 0) (gb_li (q_gf 9 7) (gb_li (q_il 3) (gb_li q_i2l (gb_li (q_cv 1 4 0 f_X4_add) (gb_li (q_il 2) (gb_li0 _))))))))))))
theorem s_X9_bottom_63   {κ : gb_K} (hκ : ∀ q, gb_S RX9 cX9_bottom 4 (gb_rm 2 45) 1 q (κ q)) : gb_S RX9 cX9_bottom 4 (gb_rm 2 45) 1 63 (k_X9_bottom_63 κ) := (s_iln 1 rfl dX9_bottom_63 (s_iln 3 rfl dX9_bottom_64 (s_cv (C := RX7) c_X7_tonsUnder rfl (gb_l5 gw_360 gw_151 gw_152 gw_11 gw_153) v_X7_tonsUnder ⟨rfl, rfl⟩ ⟨Nat.le_of_ble_eq_true rfl, Nat.le_of_ble_eq_true rfl⟩ dX9_bottom_65 (s_i2l dX9_bottom_68 (s_cv (C := RX4) c_X4_add rfl (gb_l5 gw_307 gw_308 gw_309 gw_297 gw_310) v_X4_add ⟨rfl, rfl⟩ ⟨Nat.le_of_ble_eq_true rfl, Nat.le_of_ble_eq_true rfl⟩ dX9_bottom_69 (s_aln 0 rfl dX9_bottom_72 (s_gf (T := TX9) winX9 rfl (Nat.le_of_ble_eq_true rfl) gw_293 rfl dX9_bottom_73 (s_iln 3 rfl dX9_bottom_76 (s_i2l dX9_bottom_77 (s_cv (C := RX4) c_X4_add rfl (gb_l5 gw_307 gw_308 gw_309 gw_297 gw_310) v_X4_add ⟨rfl, rfl⟩ ⟨Nat.le_of_ble_eq_true rfl, Nat.le_of_ble_eq_true rfl⟩ dX9_bottom_78 (s_iln 2 rfl dX9_bottom_81 (s_ri rfl dX9_bottom_82))))))))))))
noncomputable def k_X9_bottom_0 (κ : gb_K) : gb_C := (o_il 1 (o_cs 1 2 f_X9_isBin (o_zeq (o_ci (-1) o_ri) (o_al 0 (o_gf 9 3 (o_gf 7 3 (o_il 1 (o_iald (o_zeq (o_ci (-2) o_ri) (o_al 0 (o_gf 9 3 (o_gf 7 5 (o_il 1 (o_ci 0 (o_cs 2 1 f_X7_place (o_iald (o_is 2 (o_al 0 (o_gf 9 3 (o_il 1 (o_ci 0 (o_cv 2 7 1 f_X7_runEnd (o_is 3 (o_al 0 (o_gf 9 7 (o_cv 0 4 0 f_X4_start (o_al 0 (o_gf 9 7 (o_al 0 (o_gf 9 3 (k_X9_bottom_63 κ)))))))))))))))))))))))))))))))
theorem l_X9_bottom_0 : gb_Li (fun κ => k_X9_bottom_0 κ) := (gb_li (q_il 1) (gb_li (q_cs 1 2 f_X9_isBin) (q_zeq (gb_li (q_ci (-1)) (gb_li0 _)) (gb_li (q_al 0) (gb_li (q_gf 9 3) (gb_li (q_gf 7 3) (gb_li (q_il 1) (gb_li q_iald (q_zeq (gb_li (q_ci (-2)) (gb_li0 _)) (gb_li (q_al 0) (gb_li (q_gf 9 3) (gb_li (q_gf 7 5) (gb_li (q_il 1) (gb_li (q_ci 0) (gb_li (q_cs 2 1 f_X7_place) (gb_li q_iald (gb_li (q_is 2) (gb_li (q_al 0) (gb_li (q_gf 9 3) (gb_li (q_il 1) (gb_li (q_ci 0) (gb_li (q_cv 2 7 1 f_X7_runEnd) (gb_li (q_is 3) (gb_li (q_al 0) (gb_li (q_gf 9 7) (gb_li (q_cv 0 4 0 f_X4_start) (gb_li (q_al 0) (gb_li (q_gf 9 7) (gb_li (q_al 0) (gb_li (q_gf 9 3) (l_X9_bottom_63)))))))))))))))))))))))))))))))
theorem s_X9_bottom_0   {κ : gb_K} (hκ : ∀ q, gb_S RX9 cX9_bottom 4 (gb_rm 2 45) 1 q (κ q)) : gb_S RX9 cX9_bottom 4 (gb_rm 2 45) 1 0 (k_X9_bottom_0 κ) := (s_iln 1 rfl dX9_bottom_0 (s_cs c_X9_isBin (gb_l4 gw_272 gw_273 gw_258 gw_274) v_X9_isBin.2 ⟨rfl, rfl⟩ ⟨Nat.le_of_ble_eq_true rfl, Nat.le_of_ble_eq_true rfl⟩ dX9_bottom_1 (s_zne (tgt := 9) (by decide +kernel) dX9_bottom_4 (s_aln 0 rfl dX9_bottom_9 (s_gf (T := TX9) winX9 rfl (Nat.le_of_ble_eq_true rfl) gw_238 rfl dX9_bottom_10 (s_gf (T := TX7) winX7 rfl (Nat.le_of_ble_eq_true rfl) gw_269 rfl dX9_bottom_13 (s_iln 1 rfl dX9_bottom_16 (s_iald dX9_bottom_17 (s_zne (tgt := 24) (by decide +kernel) dX9_bottom_18 (s_aln 0 rfl dX9_bottom_24 (s_gf (T := TX9) winX9 rfl (Nat.le_of_ble_eq_true rfl) gw_238 rfl dX9_bottom_25 (s_gf (T := TX7) winX7 rfl (Nat.le_of_ble_eq_true rfl) gw_278 rfl dX9_bottom_28 (s_iln 1 rfl dX9_bottom_31 (s_iconst (by decide +kernel) dX9_bottom_32 (s_cs c_X7_place (gb_l4 gw_279 gw_23 gw_11 gw_24) v_X7_place.2 ⟨rfl, rfl⟩ ⟨Nat.le_of_ble_eq_true rfl, Nat.le_of_ble_eq_true rfl⟩ dX9_bottom_33 (s_iald dX9_bottom_36 (s_isn 2 rfl (Nat.le_of_ble_eq_true rfl) dX9_bottom_37 (s_aln 0 rfl dX9_bottom_38 (s_gf (T := TX9) winX9 rfl (Nat.le_of_ble_eq_true rfl) gw_238 rfl dX9_bottom_39 (s_iln 1 rfl dX9_bottom_42 (s_iconst (by decide +kernel) dX9_bottom_43 (s_cv (C := RX7) c_X7_runEnd rfl (gb_l5 gw_361 gw_362 gw_363 gw_11 gw_364) v_X7_runEnd ⟨rfl, rfl⟩ ⟨Nat.le_of_ble_eq_true rfl, Nat.le_of_ble_eq_true rfl⟩ dX9_bottom_44 (s_isn 3 rfl (Nat.le_of_ble_eq_true rfl) dX9_bottom_47 (s_aln 0 rfl dX9_bottom_48 (s_gf (T := TX9) winX9 rfl (Nat.le_of_ble_eq_true rfl) gw_293 rfl dX9_bottom_49 (s_cv (C := RX4) c_X4_start rfl (gb_l5 gw_294 gw_295 gw_296 gw_297 gw_298) v_X4_start ⟨rfl, rfl⟩ ⟨Nat.le_of_ble_eq_true rfl, Nat.le_of_ble_eq_true rfl⟩ dX9_bottom_52 (s_aln 0 rfl dX9_bottom_55 (s_gf (T := TX9) winX9 rfl (Nat.le_of_ble_eq_true rfl) gw_293 rfl dX9_bottom_56 (s_aln 0 rfl dX9_bottom_59 (s_gf (T := TX9) winX9 rfl (Nat.le_of_ble_eq_true rfl) gw_238 rfl dX9_bottom_60 (s_X9_bottom_63 hκ)))))))))))))))))))))) (s_bipush (by decide +kernel) dX9_bottom_21 (s_ri rfl dX9_bottom_23)))))))) (s_iconst (by decide +kernel) dX9_bottom_7 (s_ri rfl dX9_bottom_8)))))
noncomputable def f_X9_bottom : gb_F := gb_hide (gb_mf 4 (k_X9_bottom_0 gb_n))
theorem c_X9_bottom : ∀ l, gb_Met l yX9_bottom cX9_bottom 4 (some .int) 1 (gb_rm 2 45) f_X9_bottom := gb_hide_c (gb_met (own := RX9) (rk := 1) rfl (by decide +kernel) ⟨rfl, rfl⟩ (s_X9_bottom_0 gb_S_n))
theorem dX9_serves_0 : decode cX9_serves 0 = .ok (.aload_n 0, 1) := by decide +kernel
theorem dX9_serves_1 : decode cX9_serves 1 = .ok (.invokevirtual 223, 3) := by decide +kernel
theorem dX9_serves_4 : decode cX9_serves 4 = .ok (.istore_n 1, 1) := by decide +kernel
theorem dX9_serves_5 : decode cX9_serves 5 = .ok (.iload_n 1, 1) := by decide +kernel
theorem dX9_serves_6 : decode cX9_serves 6 = .ok (.ifCond .ge 5, 3) := by decide +kernel
theorem dX9_serves_9 : decode cX9_serves 9 = .ok (.iload_n 1, 1) := by decide +kernel
theorem dX9_serves_10 : decode cX9_serves 10 = .ok (.ireturn, 1) := by decide +kernel
theorem dX9_serves_11 : decode cX9_serves 11 = .ok (.aload_n 0, 1) := by decide +kernel
theorem dX9_serves_12 : decode cX9_serves 12 = .ok (.getfield 73, 3) := by decide +kernel
theorem dX9_serves_15 : decode cX9_serves 15 = .ok (.invokevirtual 227, 3) := by decide +kernel
theorem dX9_serves_18 : decode cX9_serves 18 = .ok (.istore_n 2, 1) := by decide +kernel
theorem dX9_serves_19 : decode cX9_serves 19 = .ok (.aload_n 0, 1) := by decide +kernel
theorem dX9_serves_20 : decode cX9_serves 20 = .ok (.getfield 48, 3) := by decide +kernel
theorem dX9_serves_23 : decode cX9_serves 23 = .ok (.invokevirtual 194, 3) := by decide +kernel
theorem dX9_serves_26 : decode cX9_serves 26 = .ok (.iconst 0, 1) := by decide +kernel
theorem dX9_serves_27 : decode cX9_serves 27 = .ok (.istore_n 3, 1) := by decide +kernel
theorem dX9_serves_28 : decode cX9_serves 28 = .ok (.iload_n 3, 1) := by decide +kernel
theorem dX9_serves_29 : decode cX9_serves 29 = .ok (.iload_n 2, 1) := by decide +kernel
theorem dX9_serves_30 : decode cX9_serves 30 = .ok (.if_icmp .ge 26, 3) := by decide +kernel
theorem dX9_serves_33 : decode cX9_serves 33 = .ok (.aload_n 0, 1) := by decide +kernel
theorem dX9_serves_34 : decode cX9_serves 34 = .ok (.getfield 48, 3) := by decide +kernel
theorem dX9_serves_37 : decode cX9_serves 37 = .ok (.aload_n 0, 1) := by decide +kernel
theorem dX9_serves_38 : decode cX9_serves 38 = .ok (.getfield 73, 3) := by decide +kernel
theorem dX9_serves_41 : decode cX9_serves 41 = .ok (.getfield 233, 3) := by decide +kernel
theorem dX9_serves_44 : decode cX9_serves 44 = .ok (.iload_n 3, 1) := by decide +kernel
theorem dX9_serves_45 : decode cX9_serves 45 = .ok (.iaload, 1) := by decide +kernel
theorem dX9_serves_46 : decode cX9_serves 46 = .ok (.i2l, 1) := by decide +kernel
theorem dX9_serves_47 : decode cX9_serves 47 = .ok (.invokevirtual 199, 3) := by decide +kernel
theorem dX9_serves_50 : decode cX9_serves 50 = .ok (.iinc 3 1, 3) := by decide +kernel
theorem dX9_serves_53 : decode cX9_serves 53 = .ok (.goto (-25), 3) := by decide +kernel
theorem dX9_serves_56 : decode cX9_serves 56 = .ok (.iload_n 2, 1) := by decide +kernel
theorem dX9_serves_57 : decode cX9_serves 57 = .ok (.ireturn, 1) := by decide +kernel
theorem v_X9_serves : yX9_serves.cls = RX9 ∧ yX9_serves.cls ≠ "java/lang/invoke/MethodHandle" ∧ yX9_serves.cls ≠ "java/lang/invoke/VarHandle" ∧ (parseMethodDescriptor yX9_serves.desc).map (fun d => d.parameters.length) = some 0 := ⟨rfl, by decide +kernel, by decide +kernel, by decide +kernel⟩
noncomputable def k_X9_serves_0 (κ : gb_K) : gb_C := (o_al 0 (o_cv 0 9 1 f_X9_readOrders (o_is 1 (o_il 1 (o_zge (o_al 0 (o_gf 9 10 (o_cv 0 0 1 f_X0_serve (o_is 2 (o_al 0 (o_gf 9 7 (o_cv 0 4 0 f_X4_start (o_ci 0 (o_is 3 (o_j [0, 2, 3] (κ 28))))))))))) (o_il 1 o_ri))))))
theorem l_X9_serves_0 : gb_Li (fun κ => k_X9_serves_0 κ) := (gb_li (q_al 0) (gb_li (q_cv 0 9 1 f_X9_readOrders) (gb_li (q_is 1) (gb_li (q_il 1) (q_zge (gb_li (q_al 0) (gb_li (q_gf 9 10) (gb_li (q_cv 0 0 1 f_X0_serve) (gb_li (q_is 2) (gb_li (q_al 0) (gb_li (q_gf 9 7) (gb_li (q_cv 0 4 0 f_X4_start) (gb_li (q_ci 0) (gb_li (q_is 3) (q_j [0, 2, 3] 28)))))))))) (gb_li (q_il 1) (gb_li0 _)))))))
theorem s_X9_serves_0   {κ : gb_K} (hκ : ∀ q, gb_S RX9 cX9_serves 4 (gb_rm 12 266) 1 q (κ q)) : gb_S RX9 cX9_serves 4 (gb_rm 12 266) 1 0 (k_X9_serves_0 κ) := (s_aln 0 rfl dX9_serves_0 (s_cv (C := RX9) c_X9_readOrders rfl (gb_l5 gw_332 gw_333 gw_334 gw_258 gw_335) v_X9_readOrders ⟨rfl, rfl⟩ ⟨Nat.le_of_ble_eq_true rfl, Nat.le_of_ble_eq_true rfl⟩ dX9_serves_1 (s_isn 1 rfl (Nat.le_of_ble_eq_true rfl) dX9_serves_4 (s_iln 1 rfl dX9_serves_5 (s_zge (tgt := 11) (by decide +kernel) dX9_serves_6 (s_aln 0 rfl dX9_serves_11 (s_gf (T := TX9) winX9 rfl (Nat.le_of_ble_eq_true rfl) gw_336 rfl dX9_serves_12 (s_cv (C := RX0) c_X0_serve rfl (gb_l5 gw_337 gw_338 gw_339 gw_29 gw_340) v_X0_serve ⟨rfl, rfl⟩ ⟨Nat.le_of_ble_eq_true rfl, Nat.le_of_ble_eq_true rfl⟩ dX9_serves_15 (s_isn 2 rfl (Nat.le_of_ble_eq_true rfl) dX9_serves_18 (s_aln 0 rfl dX9_serves_19 (s_gf (T := TX9) winX9 rfl (Nat.le_of_ble_eq_true rfl) gw_293 rfl dX9_serves_20 (s_cv (C := RX4) c_X4_start rfl (gb_l5 gw_294 gw_295 gw_296 gw_297 gw_298) v_X4_start ⟨rfl, rfl⟩ ⟨Nat.le_of_ble_eq_true rfl, Nat.le_of_ble_eq_true rfl⟩ dX9_serves_23 (s_iconst (by decide +kernel) dX9_serves_26 (s_isn 3 rfl (Nat.le_of_ble_eq_true rfl) dX9_serves_27 (s_j (hκ 28))))))))))) (s_iln 1 rfl dX9_serves_9 (s_ri rfl dX9_serves_10)))))))
noncomputable def k_X9_serves_28 (κ : gb_K) : gb_C := (o_il 3 (o_il 2 (o_cge (o_il 2 o_ri) (o_al 0 (o_gf 9 7 (o_al 0 (o_gf 9 10 (o_gf 0 4 (o_il 3 (o_iald (o_i2l (o_cv 1 4 0 f_X4_add (o_inc 3 1 (o_j [0, 2, 3] (κ 28)))))))))))))))
theorem l_X9_serves_28 : gb_Li (fun κ => k_X9_serves_28 κ) := (gb_li (q_il 3) (gb_li (q_il 2) (q_cge (gb_li (q_il 2) (gb_li0 _)) (gb_li (q_al 0) (gb_li (q_gf 9 7) (gb_li (q_al 0) (gb_li (q_gf 9 10) (gb_li (q_gf 0 4) (gb_li (q_il 3) (gb_li q_iald (gb_li q_i2l (gb_li (q_cv 1 4 0 f_X4_add) (gb_li (q_inc 3 1) (q_j [0, 2, 3] 28))))))))))))))
theorem s_X9_serves_28   {κ : gb_K} (hκ : ∀ q, gb_S RX9 cX9_serves 4 (gb_rm 12 266) 1 q (κ q)) : gb_S RX9 cX9_serves 4 (gb_rm 12 266) 1 28 (k_X9_serves_28 κ) := (s_iln 3 rfl dX9_serves_28 (s_iln 2 rfl dX9_serves_29 (s_cge (tgt := 56) (by decide +kernel) dX9_serves_30 (s_iln 2 rfl dX9_serves_56 (s_ri rfl dX9_serves_57)) (s_aln 0 rfl dX9_serves_33 (s_gf (T := TX9) winX9 rfl (Nat.le_of_ble_eq_true rfl) gw_293 rfl dX9_serves_34 (s_aln 0 rfl dX9_serves_37 (s_gf (T := TX9) winX9 rfl (Nat.le_of_ble_eq_true rfl) gw_336 rfl dX9_serves_38 (s_gf (T := TX0) winX0 rfl (Nat.le_of_ble_eq_true rfl) gw_345 rfl dX9_serves_41 (s_iln 3 rfl dX9_serves_44 (s_iald dX9_serves_45 (s_i2l dX9_serves_46 (s_cv (C := RX4) c_X4_add rfl (gb_l5 gw_307 gw_308 gw_309 gw_297 gw_310) v_X4_add ⟨rfl, rfl⟩ ⟨Nat.le_of_ble_eq_true rfl, Nat.le_of_ble_eq_true rfl⟩ dX9_serves_47 (s_inc (by decide +kernel) (Nat.le_of_ble_eq_true rfl) dX9_serves_50 (s_goto (tgt := 28) (by decide +kernel) dX9_serves_53 (s_j (hκ 28))))))))))))))))
noncomputable def B_X9_serves : List (Nat × (gb_K → gb_C)) := [(28, fun κ => k_X9_serves_28 κ)]
noncomputable def K_X9_serves : gb_K := gb_fx (gb_tb (B_X9_serves))
theorem L_X9_serves : ∀ q, gb_Li (fun κ => gb_tb (B_X9_serves) κ q) := gb_tb_li (List.forall_mem_cons.mpr ⟨l_X9_serves_28, (fun _ h => absurd h List.not_mem_nil)⟩)
theorem S_X9_serves   : ∀ q, gb_S RX9 cX9_serves 4 (gb_rm 12 266) 1 q (K_X9_serves q) := fun q => gb_fx_S (L_X9_serves) (gb_tb_S (List.forall_mem_cons.mpr ⟨fun κ hκ => s_X9_serves_28 hκ, (fun _ h => absurd h List.not_mem_nil)⟩)) q
noncomputable def f_X9_serves : gb_F := gb_hide (gb_mf 4 (k_X9_serves_0 (K_X9_serves)))
theorem c_X9_serves : ∀ l, gb_Met l yX9_serves cX9_serves 4 (some .int) 1 (gb_rm 12 266) f_X9_serves := gb_hide_c (gb_met (own := RX9) (rk := 1) rfl (by decide +kernel) ⟨rfl, rfl⟩ (s_X9_serves_0 (S_X9_serves)))
theorem dX9_picks_0 : decode cX9_picks 0 = .ok (.aload_n 0, 1) := by decide +kernel
theorem dX9_picks_1 : decode cX9_picks 1 = .ok (.invokevirtual 223, 3) := by decide +kernel
theorem dX9_picks_4 : decode cX9_picks 4 = .ok (.istore_n 1, 1) := by decide +kernel
theorem dX9_picks_5 : decode cX9_picks 5 = .ok (.iload_n 1, 1) := by decide +kernel
theorem dX9_picks_6 : decode cX9_picks 6 = .ok (.ifCond .ge 5, 3) := by decide +kernel
theorem dX9_picks_9 : decode cX9_picks 9 = .ok (.iload_n 1, 1) := by decide +kernel
theorem dX9_picks_10 : decode cX9_picks 10 = .ok (.ireturn, 1) := by decide +kernel
theorem dX9_picks_11 : decode cX9_picks 11 = .ok (.aload_n 0, 1) := by decide +kernel
theorem dX9_picks_12 : decode cX9_picks 12 = .ok (.getfield 73, 3) := by decide +kernel
theorem dX9_picks_15 : decode cX9_picks 15 = .ok (.invokevirtual 289, 3) := by decide +kernel
theorem dX9_picks_18 : decode cX9_picks 18 = .ok (.istore_n 2, 1) := by decide +kernel
theorem dX9_picks_19 : decode cX9_picks 19 = .ok (.aload_n 0, 1) := by decide +kernel
theorem dX9_picks_20 : decode cX9_picks 20 = .ok (.getfield 48, 3) := by decide +kernel
theorem dX9_picks_23 : decode cX9_picks 23 = .ok (.invokevirtual 194, 3) := by decide +kernel
theorem dX9_picks_26 : decode cX9_picks 26 = .ok (.iconst 0, 1) := by decide +kernel
theorem dX9_picks_27 : decode cX9_picks 27 = .ok (.istore_n 3, 1) := by decide +kernel
theorem dX9_picks_28 : decode cX9_picks 28 = .ok (.iload_n 3, 1) := by decide +kernel
theorem dX9_picks_29 : decode cX9_picks 29 = .ok (.iload_n 1, 1) := by decide +kernel
theorem dX9_picks_30 : decode cX9_picks 30 = .ok (.if_icmp .ge 26, 3) := by decide +kernel
theorem dX9_picks_33 : decode cX9_picks 33 = .ok (.aload_n 0, 1) := by decide +kernel
theorem dX9_picks_34 : decode cX9_picks 34 = .ok (.getfield 48, 3) := by decide +kernel
theorem dX9_picks_37 : decode cX9_picks 37 = .ok (.aload_n 0, 1) := by decide +kernel
theorem dX9_picks_38 : decode cX9_picks 38 = .ok (.getfield 73, 3) := by decide +kernel
theorem dX9_picks_41 : decode cX9_picks 41 = .ok (.getfield 233, 3) := by decide +kernel
theorem dX9_picks_44 : decode cX9_picks 44 = .ok (.iload_n 3, 1) := by decide +kernel
theorem dX9_picks_45 : decode cX9_picks 45 = .ok (.iaload, 1) := by decide +kernel
theorem dX9_picks_46 : decode cX9_picks 46 = .ok (.i2l, 1) := by decide +kernel
theorem dX9_picks_47 : decode cX9_picks 47 = .ok (.invokevirtual 199, 3) := by decide +kernel
theorem dX9_picks_50 : decode cX9_picks 50 = .ok (.iinc 3 1, 3) := by decide +kernel
theorem dX9_picks_53 : decode cX9_picks 53 = .ok (.goto (-25), 3) := by decide +kernel
theorem dX9_picks_56 : decode cX9_picks 56 = .ok (.iload_n 2, 1) := by decide +kernel
theorem dX9_picks_57 : decode cX9_picks 57 = .ok (.ireturn, 1) := by decide +kernel
theorem v_X9_picks : yX9_picks.cls = RX9 ∧ yX9_picks.cls ≠ "java/lang/invoke/MethodHandle" ∧ yX9_picks.cls ≠ "java/lang/invoke/VarHandle" ∧ (parseMethodDescriptor yX9_picks.desc).map (fun d => d.parameters.length) = some 0 := ⟨rfl, by decide +kernel, by decide +kernel, by decide +kernel⟩
noncomputable def k_X9_picks_0 (κ : gb_K) : gb_C := (o_al 0 (o_cv 0 9 1 f_X9_readOrders (o_is 1 (o_il 1 (o_zge (o_al 0 (o_gf 9 10 (o_cv 0 0 1 f_X0_pick (o_is 2 (o_al 0 (o_gf 9 7 (o_cv 0 4 0 f_X4_start (o_ci 0 (o_is 3 (o_j [0, 1, 2, 3] (κ 28))))))))))) (o_il 1 o_ri))))))
theorem l_X9_picks_0 : gb_Li (fun κ => k_X9_picks_0 κ) := (gb_li (q_al 0) (gb_li (q_cv 0 9 1 f_X9_readOrders) (gb_li (q_is 1) (gb_li (q_il 1) (q_zge (gb_li (q_al 0) (gb_li (q_gf 9 10) (gb_li (q_cv 0 0 1 f_X0_pick) (gb_li (q_is 2) (gb_li (q_al 0) (gb_li (q_gf 9 7) (gb_li (q_cv 0 4 0 f_X4_start) (gb_li (q_ci 0) (gb_li (q_is 3) (q_j [0, 1, 2, 3] 28)))))))))) (gb_li (q_il 1) (gb_li0 _)))))))
theorem s_X9_picks_0   {κ : gb_K} (hκ : ∀ q, gb_S RX9 cX9_picks 4 (gb_rm 12 275) 1 q (κ q)) : gb_S RX9 cX9_picks 4 (gb_rm 12 275) 1 0 (k_X9_picks_0 κ) := (s_aln 0 rfl dX9_picks_0 (s_cv (C := RX9) c_X9_readOrders rfl (gb_l5 gw_332 gw_333 gw_334 gw_258 gw_335) v_X9_readOrders ⟨rfl, rfl⟩ ⟨Nat.le_of_ble_eq_true rfl, Nat.le_of_ble_eq_true rfl⟩ dX9_picks_1 (s_isn 1 rfl (Nat.le_of_ble_eq_true rfl) dX9_picks_4 (s_iln 1 rfl dX9_picks_5 (s_zge (tgt := 11) (by decide +kernel) dX9_picks_6 (s_aln 0 rfl dX9_picks_11 (s_gf (T := TX9) winX9 rfl (Nat.le_of_ble_eq_true rfl) gw_336 rfl dX9_picks_12 (s_cv (C := RX0) c_X0_pick rfl (gb_l5 gw_365 gw_366 gw_367 gw_29 gw_368) v_X0_pick ⟨rfl, rfl⟩ ⟨Nat.le_of_ble_eq_true rfl, Nat.le_of_ble_eq_true rfl⟩ dX9_picks_15 (s_isn 2 rfl (Nat.le_of_ble_eq_true rfl) dX9_picks_18 (s_aln 0 rfl dX9_picks_19 (s_gf (T := TX9) winX9 rfl (Nat.le_of_ble_eq_true rfl) gw_293 rfl dX9_picks_20 (s_cv (C := RX4) c_X4_start rfl (gb_l5 gw_294 gw_295 gw_296 gw_297 gw_298) v_X4_start ⟨rfl, rfl⟩ ⟨Nat.le_of_ble_eq_true rfl, Nat.le_of_ble_eq_true rfl⟩ dX9_picks_23 (s_iconst (by decide +kernel) dX9_picks_26 (s_isn 3 rfl (Nat.le_of_ble_eq_true rfl) dX9_picks_27 (s_j (hκ 28))))))))))) (s_iln 1 rfl dX9_picks_9 (s_ri rfl dX9_picks_10)))))))
noncomputable def k_X9_picks_28 (κ : gb_K) : gb_C := (o_il 3 (o_il 1 (o_cge (o_il 2 o_ri) (o_al 0 (o_gf 9 7 (o_al 0 (o_gf 9 10 (o_gf 0 4 (o_il 3 (o_iald (o_i2l (o_cv 1 4 0 f_X4_add (o_inc 3 1 (o_j [0, 1, 2, 3] (κ 28)))))))))))))))
theorem l_X9_picks_28 : gb_Li (fun κ => k_X9_picks_28 κ) := (gb_li (q_il 3) (gb_li (q_il 1) (q_cge (gb_li (q_il 2) (gb_li0 _)) (gb_li (q_al 0) (gb_li (q_gf 9 7) (gb_li (q_al 0) (gb_li (q_gf 9 10) (gb_li (q_gf 0 4) (gb_li (q_il 3) (gb_li q_iald (gb_li q_i2l (gb_li (q_cv 1 4 0 f_X4_add) (gb_li (q_inc 3 1) (q_j [0, 1, 2, 3] 28))))))))))))))
theorem s_X9_picks_28   {κ : gb_K} (hκ : ∀ q, gb_S RX9 cX9_picks 4 (gb_rm 12 275) 1 q (κ q)) : gb_S RX9 cX9_picks 4 (gb_rm 12 275) 1 28 (k_X9_picks_28 κ) := (s_iln 3 rfl dX9_picks_28 (s_iln 1 rfl dX9_picks_29 (s_cge (tgt := 56) (by decide +kernel) dX9_picks_30 (s_iln 2 rfl dX9_picks_56 (s_ri rfl dX9_picks_57)) (s_aln 0 rfl dX9_picks_33 (s_gf (T := TX9) winX9 rfl (Nat.le_of_ble_eq_true rfl) gw_293 rfl dX9_picks_34 (s_aln 0 rfl dX9_picks_37 (s_gf (T := TX9) winX9 rfl (Nat.le_of_ble_eq_true rfl) gw_336 rfl dX9_picks_38 (s_gf (T := TX0) winX0 rfl (Nat.le_of_ble_eq_true rfl) gw_345 rfl dX9_picks_41 (s_iln 3 rfl dX9_picks_44 (s_iald dX9_picks_45 (s_i2l dX9_picks_46 (s_cv (C := RX4) c_X4_add rfl (gb_l5 gw_307 gw_308 gw_309 gw_297 gw_310) v_X4_add ⟨rfl, rfl⟩ ⟨Nat.le_of_ble_eq_true rfl, Nat.le_of_ble_eq_true rfl⟩ dX9_picks_47 (s_inc (by decide +kernel) (Nat.le_of_ble_eq_true rfl) dX9_picks_50 (s_goto (tgt := 28) (by decide +kernel) dX9_picks_53 (s_j (hκ 28))))))))))))))))
noncomputable def B_X9_picks : List (Nat × (gb_K → gb_C)) := [(28, fun κ => k_X9_picks_28 κ)]
noncomputable def K_X9_picks : gb_K := gb_fx (gb_tb (B_X9_picks))
theorem L_X9_picks : ∀ q, gb_Li (fun κ => gb_tb (B_X9_picks) κ q) := gb_tb_li (List.forall_mem_cons.mpr ⟨l_X9_picks_28, (fun _ h => absurd h List.not_mem_nil)⟩)
theorem S_X9_picks   : ∀ q, gb_S RX9 cX9_picks 4 (gb_rm 12 275) 1 q (K_X9_picks q) := fun q => gb_fx_S (L_X9_picks) (gb_tb_S (List.forall_mem_cons.mpr ⟨fun κ hκ => s_X9_picks_28 hκ, (fun _ h => absurd h List.not_mem_nil)⟩)) q
noncomputable def f_X9_picks : gb_F := gb_hide (gb_mf 4 (k_X9_picks_0 (K_X9_picks)))
theorem c_X9_picks : ∀ l, gb_Met l yX9_picks cX9_picks 4 (some .int) 1 (gb_rm 12 275) f_X9_picks := gb_hide_c (gb_met (own := RX9) (rk := 1) rfl (by decide +kernel) ⟨rfl, rfl⟩ (s_X9_picks_0 (S_X9_picks)))
theorem dX9_then_0 : decode cX9_then 0 = .ok (.iload_n 1, 1) := by decide +kernel
theorem dX9_then_1 : decode cX9_then 1 = .ok (.ifCond .lt 10, 3) := by decide +kernel
theorem dX9_then_4 : decode cX9_then 4 = .ok (.iload_n 1, 1) := by decide +kernel
theorem dX9_then_5 : decode cX9_then 5 = .ok (.sipush 999, 3) := by decide +kernel
theorem dX9_then_8 : decode cX9_then 8 = .ok (.if_icmp .le 5, 3) := by decide +kernel
theorem dX9_then_11 : decode cX9_then 11 = .ok (.iconst (-1), 1) := by decide +kernel
theorem dX9_then_12 : decode cX9_then 12 = .ok (.ireturn, 1) := by decide +kernel
theorem dX9_then_13 : decode cX9_then 13 = .ok (.aload_n 0, 1) := by decide +kernel
theorem dX9_then_14 : decode cX9_then 14 = .ok (.getfield 31, 3) := by decide +kernel
theorem dX9_then_17 : decode cX9_then 17 = .ok (.aload_n 0, 1) := by decide +kernel
theorem dX9_then_18 : decode cX9_then 18 = .ok (.getfield 31, 3) := by decide +kernel
theorem dX9_then_21 : decode cX9_then 21 = .ok (.getfield 151, 3) := by decide +kernel
theorem dX9_then_24 : decode cX9_then 24 = .ok (.iload_n 1, 1) := by decide +kernel
theorem dX9_then_25 : decode cX9_then 25 = .ok (.iadd, 1) := by decide +kernel
theorem dX9_then_26 : decode cX9_then 26 = .ok (.invokevirtual 230, 3) := by decide +kernel
theorem dX9_then_29 : decode cX9_then 29 = .ok (.istore_n 2, 1) := by decide +kernel
theorem dX9_then_30 : decode cX9_then 30 = .ok (.aload_n 0, 1) := by decide +kernel
theorem dX9_then_31 : decode cX9_then 31 = .ok (.getfield 48, 3) := by decide +kernel
theorem dX9_then_34 : decode cX9_then 34 = .ok (.invokevirtual 194, 3) := by decide +kernel
theorem dX9_then_37 : decode cX9_then 37 = .ok (.aload_n 0, 1) := by decide +kernel
theorem dX9_then_38 : decode cX9_then 38 = .ok (.getfield 48, 3) := by decide +kernel
theorem dX9_then_41 : decode cX9_then 41 = .ok (.aload_n 0, 1) := by decide +kernel
theorem dX9_then_42 : decode cX9_then 42 = .ok (.getfield 31, 3) := by decide +kernel
theorem dX9_then_45 : decode cX9_then 45 = .ok (.aload_n 0, 1) := by decide +kernel
theorem dX9_then_46 : decode cX9_then 46 = .ok (.getfield 31, 3) := by decide +kernel
theorem dX9_then_49 : decode cX9_then 49 = .ok (.getfield 151, 3) := by decide +kernel
theorem dX9_then_52 : decode cX9_then 52 = .ok (.invokevirtual 230, 3) := by decide +kernel
theorem dX9_then_55 : decode cX9_then 55 = .ok (.iload_n 2, 1) := by decide +kernel
theorem dX9_then_56 : decode cX9_then 56 = .ok (.isub, 1) := by decide +kernel
theorem dX9_then_57 : decode cX9_then 57 = .ok (.i2l, 1) := by decide +kernel
theorem dX9_then_58 : decode cX9_then 58 = .ok (.invokevirtual 199, 3) := by decide +kernel
theorem dX9_then_61 : decode cX9_then 61 = .ok (.aload_n 0, 1) := by decide +kernel
theorem dX9_then_62 : decode cX9_then 62 = .ok (.getfield 48, 3) := by decide +kernel
theorem dX9_then_65 : decode cX9_then 65 = .ok (.aload_n 0, 1) := by decide +kernel
theorem dX9_then_66 : decode cX9_then 66 = .ok (.getfield 31, 3) := by decide +kernel
theorem dX9_then_69 : decode cX9_then 69 = .ok (.aload_n 0, 1) := by decide +kernel
theorem dX9_then_70 : decode cX9_then 70 = .ok (.getfield 31, 3) := by decide +kernel
theorem dX9_then_73 : decode cX9_then 73 = .ok (.getfield 151, 3) := by decide +kernel
theorem dX9_then_76 : decode cX9_then 76 = .ok (.iload_n 1, 1) := by decide +kernel
theorem dX9_then_77 : decode cX9_then 77 = .ok (.iadd, 1) := by decide +kernel
theorem dX9_then_78 : decode cX9_then 78 = .ok (.invokevirtual 299, 3) := by decide +kernel
theorem dX9_then_81 : decode cX9_then 81 = .ok (.i2l, 1) := by decide +kernel
theorem dX9_then_82 : decode cX9_then 82 = .ok (.invokevirtual 199, 3) := by decide +kernel
theorem dX9_then_85 : decode cX9_then 85 = .ok (.iload_n 2, 1) := by decide +kernel
theorem dX9_then_86 : decode cX9_then 86 = .ok (.ireturn, 1) := by decide +kernel
theorem v_X9_then : yX9_then.cls = RX9 ∧ yX9_then.cls ≠ "java/lang/invoke/MethodHandle" ∧ yX9_then.cls ≠ "java/lang/invoke/VarHandle" ∧ (parseMethodDescriptor yX9_then.desc).map (fun d => d.parameters.length) = some 1 := ⟨rfl, by decide +kernel, by decide +kernel, by decide +kernel⟩
noncomputable def k_X9_then_11 (κ : gb_K) : gb_C := (o_ci (-1) o_ri)
theorem l_X9_then_11 : gb_Li (fun κ => k_X9_then_11 κ) := (gb_li (q_ci (-1)) (gb_li0 _))
theorem s_X9_then_11   {κ : gb_K} (hκ : ∀ q, gb_S RX9 cX9_then 3 (gb_rm 5 115) 1 q (κ q)) : gb_S RX9 cX9_then 3 (gb_rm 5 115) 1 11 (k_X9_then_11 κ) := (s_iconst (by decide +kernel) dX9_then_11 (s_ri rfl dX9_then_12))
noncomputable def k_X9_then_62 (κ : gb_K) : gb_C := (o_gf 9 7 (o_al 0 (o_gf 9 3 (o_al 0 (o_gf 9 3 (o_gf 7 9 (o_il 1 (o_ib (fun x y => x + y) (o_cv 1 7 1 f_X7_spoiltGrades (o_i2l (o_cv 1 4 0 f_X4_add (o_il 2 o_ri))))))))))))
theorem l_X9_then_62 : gb_Li (fun κ => k_X9_then_62 κ) := (gb_li (q_gf 9 7) (gb_li (q_al 0) (gb_li (q_gf 9 3) (gb_li (q_al 0) (gb_li (q_gf 9 3) (gb_li (q_gf 7 9) (gb_li (q_il 1) (gb_li (q_ib _) (gb_li (q_cv 1 7 1 f_X7_spoiltGrades) (gb_li q_i2l (gb_li (q_cv 1 4 0 f_X4_add) (gb_li (q_il 2) (gb_li0 _)))))))))))))
theorem s_X9_then_62   {κ : gb_K} (hκ : ∀ q, gb_S RX9 cX9_then 3 (gb_rm 5 115) 1 q (κ q)) : gb_S RX9 cX9_then 3 (gb_rm 5 115) 1 62 (k_X9_then_62 κ) := (s_gf (T := TX9) winX9 rfl (Nat.le_of_ble_eq_true rfl) gw_293 rfl dX9_then_62 (s_aln 0 rfl dX9_then_65 (s_gf (T := TX9) winX9 rfl (Nat.le_of_ble_eq_true rfl) gw_238 rfl dX9_then_66 (s_aln 0 rfl dX9_then_69 (s_gf (T := TX9) winX9 rfl (Nat.le_of_ble_eq_true rfl) gw_238 rfl dX9_then_70 (s_gf (T := TX7) winX7 rfl (Nat.le_of_ble_eq_true rfl) gw_267 rfl dX9_then_73 (s_iln 1 rfl dX9_then_76 (s_iadd dX9_then_77 (s_cv (C := RX7) c_X7_spoiltGrades rfl (gb_l5 gw_369 gw_370 gw_371 gw_11 gw_372) v_X7_spoiltGrades ⟨rfl, rfl⟩ ⟨Nat.le_of_ble_eq_true rfl, Nat.le_of_ble_eq_true rfl⟩ dX9_then_78 (s_i2l dX9_then_81 (s_cv (C := RX4) c_X4_add rfl (gb_l5 gw_307 gw_308 gw_309 gw_297 gw_310) v_X4_add ⟨rfl, rfl⟩ ⟨Nat.le_of_ble_eq_true rfl, Nat.le_of_ble_eq_true rfl⟩ dX9_then_82 (s_iln 2 rfl dX9_then_85 (s_ri rfl dX9_then_86)))))))))))))
noncomputable def k_X9_then_0 (κ : gb_K) : gb_C := (o_il 1 (o_zlt (k_X9_then_11 κ) (o_il 1 (o_ci 999 (o_cle (o_al 0 (o_gf 9 3 (o_al 0 (o_gf 9 3 (o_gf 7 9 (o_il 1 (o_ib (fun x y => x + y) (o_cv 1 7 1 f_X7_valueOfAll (o_is 2 (o_al 0 (o_gf 9 7 (o_cv 0 4 0 f_X4_start (o_al 0 (o_gf 9 7 (o_al 0 (o_gf 9 3 (o_al 0 (o_gf 9 3 (o_gf 7 9 (o_cv 1 7 1 f_X7_valueOfAll (o_il 2 (o_ib (fun x y => x - y) (o_i2l (o_cv 1 4 0 f_X4_add (o_al 0 (k_X9_then_62 κ)))))))))))))))))))))))))) (k_X9_then_11 κ))))))
theorem l_X9_then_0 : gb_Li (fun κ => k_X9_then_0 κ) := (gb_li (q_il 1) (q_zlt (l_X9_then_11) (gb_li (q_il 1) (gb_li (q_ci 999) (q_cle (gb_li (q_al 0) (gb_li (q_gf 9 3) (gb_li (q_al 0) (gb_li (q_gf 9 3) (gb_li (q_gf 7 9) (gb_li (q_il 1) (gb_li (q_ib _) (gb_li (q_cv 1 7 1 f_X7_valueOfAll) (gb_li (q_is 2) (gb_li (q_al 0) (gb_li (q_gf 9 7) (gb_li (q_cv 0 4 0 f_X4_start) (gb_li (q_al 0) (gb_li (q_gf 9 7) (gb_li (q_al 0) (gb_li (q_gf 9 3) (gb_li (q_al 0) (gb_li (q_gf 9 3) (gb_li (q_gf 7 9) (gb_li (q_cv 1 7 1 f_X7_valueOfAll) (gb_li (q_il 2) (gb_li (q_ib _) (gb_li q_i2l (gb_li (q_cv 1 4 0 f_X4_add) (gb_li (q_al 0) (l_X9_then_62)))))))))))))))))))))))))) (l_X9_then_11))))))
theorem s_X9_then_0   {κ : gb_K} (hκ : ∀ q, gb_S RX9 cX9_then 3 (gb_rm 5 115) 1 q (κ q)) : gb_S RX9 cX9_then 3 (gb_rm 5 115) 1 0 (k_X9_then_0 κ) := (s_iln 1 rfl dX9_then_0 (s_zlt (tgt := 11) (by decide +kernel) dX9_then_1 (s_X9_then_11 hκ) (s_iln 1 rfl dX9_then_4 (s_sipush (by decide +kernel) dX9_then_5 (s_cle (tgt := 13) (by decide +kernel) dX9_then_8 (s_aln 0 rfl dX9_then_13 (s_gf (T := TX9) winX9 rfl (Nat.le_of_ble_eq_true rfl) gw_238 rfl dX9_then_14 (s_aln 0 rfl dX9_then_17 (s_gf (T := TX9) winX9 rfl (Nat.le_of_ble_eq_true rfl) gw_238 rfl dX9_then_18 (s_gf (T := TX7) winX7 rfl (Nat.le_of_ble_eq_true rfl) gw_267 rfl dX9_then_21 (s_iln 1 rfl dX9_then_24 (s_iadd dX9_then_25 (s_cv (C := RX7) c_X7_valueOfAll rfl (gb_l5 gw_341 gw_342 gw_343 gw_11 gw_344) v_X7_valueOfAll ⟨rfl, rfl⟩ ⟨Nat.le_of_ble_eq_true rfl, Nat.le_of_ble_eq_true rfl⟩ dX9_then_26 (s_isn 2 rfl (Nat.le_of_ble_eq_true rfl) dX9_then_29 (s_aln 0 rfl dX9_then_30 (s_gf (T := TX9) winX9 rfl (Nat.le_of_ble_eq_true rfl) gw_293 rfl dX9_then_31 (s_cv (C := RX4) c_X4_start rfl (gb_l5 gw_294 gw_295 gw_296 gw_297 gw_298) v_X4_start ⟨rfl, rfl⟩ ⟨Nat.le_of_ble_eq_true rfl, Nat.le_of_ble_eq_true rfl⟩ dX9_then_34 (s_aln 0 rfl dX9_then_37 (s_gf (T := TX9) winX9 rfl (Nat.le_of_ble_eq_true rfl) gw_293 rfl dX9_then_38 (s_aln 0 rfl dX9_then_41 (s_gf (T := TX9) winX9 rfl (Nat.le_of_ble_eq_true rfl) gw_238 rfl dX9_then_42 (s_aln 0 rfl dX9_then_45 (s_gf (T := TX9) winX9 rfl (Nat.le_of_ble_eq_true rfl) gw_238 rfl dX9_then_46 (s_gf (T := TX7) winX7 rfl (Nat.le_of_ble_eq_true rfl) gw_267 rfl dX9_then_49 (s_cv (C := RX7) c_X7_valueOfAll rfl (gb_l5 gw_341 gw_342 gw_343 gw_11 gw_344) v_X7_valueOfAll ⟨rfl, rfl⟩ ⟨Nat.le_of_ble_eq_true rfl, Nat.le_of_ble_eq_true rfl⟩ dX9_then_52 (s_iln 2 rfl dX9_then_55 (s_isub dX9_then_56 (s_i2l dX9_then_57 (s_cv (C := RX4) c_X4_add rfl (gb_l5 gw_307 gw_308 gw_309 gw_297 gw_310) v_X4_add ⟨rfl, rfl⟩ ⟨Nat.le_of_ble_eq_true rfl, Nat.le_of_ble_eq_true rfl⟩ dX9_then_58 (s_aln 0 rfl dX9_then_61 (s_X9_then_62 hκ)))))))))))))))))))))))))) (s_X9_then_11 hκ))))))
noncomputable def f_X9_then : gb_F := gb_hide (gb_mf 3 (k_X9_then_0 gb_n))
theorem c_X9_then : ∀ l, gb_Met l yX9_then cX9_then 3 (some .int) 1 (gb_rm 5 115) f_X9_then := gb_hide_c (gb_met (own := RX9) (rk := 1) rfl (by decide +kernel) ⟨rfl, rfl⟩ (s_X9_then_0 gb_S_n))
theorem dX9_undo_0 : decode cX9_undo 0 = .ok (.aload_n 0, 1) := by decide +kernel
theorem dX9_undo_1 : decode cX9_undo 1 = .ok (.getfield 41, 3) := by decide +kernel
theorem dX9_undo_4 : decode cX9_undo 4 = .ok (.aload_n 0, 1) := by decide +kernel
theorem dX9_undo_5 : decode cX9_undo 5 = .ok (.getfield 31, 3) := by decide +kernel
theorem dX9_undo_8 : decode cX9_undo 8 = .ok (.invokevirtual 311, 3) := by decide +kernel
theorem dX9_undo_11 : decode cX9_undo 11 = .ok (.ifCond .eq 13, 3) := by decide +kernel
theorem dX9_undo_14 : decode cX9_undo 14 = .ok (.aload_n 0, 1) := by decide +kernel
theorem dX9_undo_15 : decode cX9_undo 15 = .ok (.getfield 41, 3) := by decide +kernel
theorem dX9_undo_18 : decode cX9_undo 18 = .ok (.getfield 315, 3) := by decide +kernel
theorem dX9_undo_21 : decode cX9_undo 21 = .ok (.goto 5, 3) := by decide +kernel
theorem dX9_undo_24 : decode cX9_undo 24 = .ok (.bipush (-2), 2) := by decide +kernel
theorem dX9_undo_26 : decode cX9_undo 26 = .ok (.ireturn, 1) := by decide +kernel
theorem v_X9_undo : yX9_undo.cls = RX9 ∧ yX9_undo.cls ≠ "java/lang/invoke/MethodHandle" ∧ yX9_undo.cls ≠ "java/lang/invoke/VarHandle" ∧ (parseMethodDescriptor yX9_undo.desc).map (fun d => d.parameters.length) = some 0 := ⟨rfl, by decide +kernel, by decide +kernel, by decide +kernel⟩
noncomputable def k_X9_undo_26 (κ : gb_K) : gb_C := o_ri
theorem l_X9_undo_26 : gb_Li (fun κ => k_X9_undo_26 κ) := (gb_li0 _)
theorem s_X9_undo_26   {κ : gb_K} (hκ : ∀ q, gb_S RX9 cX9_undo 1 (gb_rm 4 88) 1 q (κ q)) : gb_S RX9 cX9_undo 1 (gb_rm 4 88) 1 26 (k_X9_undo_26 κ) := (s_ri rfl dX9_undo_26)
noncomputable def k_X9_undo_0 (κ : gb_K) : gb_C := (o_al 0 (o_gf 9 6 (o_al 0 (o_gf 9 3 (o_cv 1 3 2 f_X3_takeBack (o_zeq (o_ci (-2) (k_X9_undo_26 κ)) (o_al 0 (o_gf 9 6 (o_gf 3 2 (k_X9_undo_26 κ))))))))))
theorem l_X9_undo_0 : gb_Li (fun κ => k_X9_undo_0 κ) := (gb_li (q_al 0) (gb_li (q_gf 9 6) (gb_li (q_al 0) (gb_li (q_gf 9 3) (gb_li (q_cv 1 3 2 f_X3_takeBack) (q_zeq (gb_li (q_ci (-2)) (l_X9_undo_26)) (gb_li (q_al 0) (gb_li (q_gf 9 6) (gb_li (q_gf 3 2) (l_X9_undo_26))))))))))
theorem s_X9_undo_0   {κ : gb_K} (hκ : ∀ q, gb_S RX9 cX9_undo 1 (gb_rm 4 88) 1 q (κ q)) : gb_S RX9 cX9_undo 1 (gb_rm 4 88) 1 0 (k_X9_undo_0 κ) := (s_aln 0 rfl dX9_undo_0 (s_gf (T := TX9) winX9 rfl (Nat.le_of_ble_eq_true rfl) gw_243 rfl dX9_undo_1 (s_aln 0 rfl dX9_undo_4 (s_gf (T := TX9) winX9 rfl (Nat.le_of_ble_eq_true rfl) gw_238 rfl dX9_undo_5 (s_cv (C := RX3) c_X3_takeBack rfl (gb_l5 gw_373 gw_374 gw_375 gw_247 gw_376) v_X3_takeBack ⟨rfl, rfl⟩ ⟨Nat.le_of_ble_eq_true rfl, Nat.le_of_ble_eq_true rfl⟩ dX9_undo_8 (s_zeq (tgt := 24) (by decide +kernel) dX9_undo_11 (s_bipush (by decide +kernel) dX9_undo_24 (s_X9_undo_26 hκ)) (s_aln 0 rfl dX9_undo_14 (s_gf (T := TX9) winX9 rfl (Nat.le_of_ble_eq_true rfl) gw_243 rfl dX9_undo_15 (s_gf (T := TX3) winX3 rfl (Nat.le_of_ble_eq_true rfl) gw_377 rfl dX9_undo_18 (s_goto (tgt := 26) (by decide +kernel) dX9_undo_21 (s_X9_undo_26 hκ)))))))))))
noncomputable def f_X9_undo : gb_F := gb_hide (gb_mf 1 (k_X9_undo_0 gb_n))
theorem c_X9_undo : ∀ l, gb_Met l yX9_undo cX9_undo 1 (some .int) 1 (gb_rm 4 88) f_X9_undo := gb_hide_c (gb_met (own := RX9) (rk := 1) rfl (by decide +kernel) ⟨rfl, rfl⟩ (s_X9_undo_0 gb_S_n))
theorem dX9_keeps_0 : decode cX9_keeps 0 = .ok (.aload_n 0, 1) := by decide +kernel
theorem dX9_keeps_1 : decode cX9_keeps 1 = .ok (.getfield 35, 3) := by decide +kernel
theorem dX9_keeps_4 : decode cX9_keeps 4 = .ok (.aload_n 0, 1) := by decide +kernel
theorem dX9_keeps_5 : decode cX9_keeps 5 = .ok (.getfield 31, 3) := by decide +kernel
theorem dX9_keeps_8 : decode cX9_keeps 8 = .ok (.invokevirtual 316, 3) := by decide +kernel
theorem dX9_keeps_11 : decode cX9_keeps 11 = .ok (.aload_n 0, 1) := by decide +kernel
theorem dX9_keeps_12 : decode cX9_keeps 12 = .ok (.iconst 1, 1) := by decide +kernel
theorem dX9_keeps_13 : decode cX9_keeps 13 = .ok (.putfield 110, 3) := by decide +kernel
theorem dX9_keeps_16 : decode cX9_keeps 16 = .ok (.aload_n 0, 1) := by decide +kernel
theorem dX9_keeps_17 : decode cX9_keeps 17 = .ok (.getfield 31, 3) := by decide +kernel
theorem dX9_keeps_20 : decode cX9_keeps 20 = .ok (.getfield 151, 3) := by decide +kernel
theorem dX9_keeps_23 : decode cX9_keeps 23 = .ok (.ireturn, 1) := by decide +kernel
theorem v_X9_keeps : yX9_keeps.cls = RX9 ∧ yX9_keeps.cls ≠ "java/lang/invoke/MethodHandle" ∧ yX9_keeps.cls ≠ "java/lang/invoke/VarHandle" ∧ (parseMethodDescriptor yX9_keeps.desc).map (fun d => d.parameters.length) = some 0 := ⟨rfl, by decide +kernel, by decide +kernel, by decide +kernel⟩
noncomputable def k_X9_keeps_0 (κ : gb_K) : gb_C := (o_al 0 (o_gf 9 4 (o_al 0 (o_gf 9 3 (o_cv 1 7 0 f_X7_copy (o_al 0 (o_ci 1 (o_pz 9 5 (o_al 0 (o_gf 9 3 (o_gf 7 9 o_ri)))))))))))
theorem l_X9_keeps_0 : gb_Li (fun κ => k_X9_keeps_0 κ) := (gb_li (q_al 0) (gb_li (q_gf 9 4) (gb_li (q_al 0) (gb_li (q_gf 9 3) (gb_li (q_cv 1 7 0 f_X7_copy) (gb_li (q_al 0) (gb_li (q_ci 1) (gb_li (q_pz 9 5) (gb_li (q_al 0) (gb_li (q_gf 9 3) (gb_li (q_gf 7 9) (gb_li0 _))))))))))))
theorem s_X9_keeps_0   {κ : gb_K} (hκ : ∀ q, gb_S RX9 cX9_keeps 1 (gb_rm 3 67) 1 q (κ q)) : gb_S RX9 cX9_keeps 1 (gb_rm 3 67) 1 0 (k_X9_keeps_0 κ) := (s_aln 0 rfl dX9_keeps_0 (s_gf (T := TX9) winX9 rfl (Nat.le_of_ble_eq_true rfl) gw_378 rfl dX9_keeps_1 (s_aln 0 rfl dX9_keeps_4 (s_gf (T := TX9) winX9 rfl (Nat.le_of_ble_eq_true rfl) gw_238 rfl dX9_keeps_5 (s_cv (C := RX7) c_X7_copy rfl (gb_l5 gw_379 gw_95 gw_96 gw_11 gw_97) v_X7_copy ⟨rfl, rfl⟩ ⟨Nat.le_of_ble_eq_true rfl, Nat.le_of_ble_eq_true rfl⟩ dX9_keeps_8 (s_aln 0 rfl dX9_keeps_11 (s_iconst (by decide +kernel) dX9_keeps_12 (s_pz (T := TX9) winX9 rfl (Nat.le_of_ble_eq_true rfl) tyX9_ok nmX9 rfl (by decide +kernel) gw_249 rfl dX9_keeps_13 (s_aln 0 rfl dX9_keeps_16 (s_gf (T := TX9) winX9 rfl (Nat.le_of_ble_eq_true rfl) gw_238 rfl dX9_keeps_17 (s_gf (T := TX7) winX7 rfl (Nat.le_of_ble_eq_true rfl) gw_267 rfl dX9_keeps_20 (s_ri rfl dX9_keeps_23))))))))))))
noncomputable def f_X9_keeps : gb_F := gb_hide (gb_mf 1 (k_X9_keeps_0 gb_n))
theorem c_X9_keeps : ∀ l, gb_Met l yX9_keeps cX9_keeps 1 (some .int) 1 (gb_rm 3 67) f_X9_keeps := gb_hide_c (gb_met (own := RX9) (rk := 1) rfl (by decide +kernel) ⟨rfl, rfl⟩ (s_X9_keeps_0 gb_S_n))
theorem dX9_back_0 : decode cX9_back 0 = .ok (.aload_n 0, 1) := by decide +kernel
theorem dX9_back_1 : decode cX9_back 1 = .ok (.getfield 110, 3) := by decide +kernel
theorem dX9_back_4 : decode cX9_back 4 = .ok (.ifCond .ne 6, 3) := by decide +kernel
theorem dX9_back_7 : decode cX9_back 7 = .ok (.bipush (-2), 2) := by decide +kernel
theorem dX9_back_9 : decode cX9_back 9 = .ok (.ireturn, 1) := by decide +kernel
theorem dX9_back_10 : decode cX9_back 10 = .ok (.aload_n 0, 1) := by decide +kernel
theorem dX9_back_11 : decode cX9_back 11 = .ok (.getfield 41, 3) := by decide +kernel
theorem dX9_back_14 : decode cX9_back 14 = .ok (.aload_n 0, 1) := by decide +kernel
theorem dX9_back_15 : decode cX9_back 15 = .ok (.getfield 31, 3) := by decide +kernel
theorem dX9_back_18 : decode cX9_back 18 = .ok (.invokevirtual 184, 3) := by decide +kernel
theorem dX9_back_21 : decode cX9_back 21 = .ok (.aload_n 0, 1) := by decide +kernel
theorem dX9_back_22 : decode cX9_back 22 = .ok (.getfield 31, 3) := by decide +kernel
theorem dX9_back_25 : decode cX9_back 25 = .ok (.aload_n 0, 1) := by decide +kernel
theorem dX9_back_26 : decode cX9_back 26 = .ok (.getfield 35, 3) := by decide +kernel
theorem dX9_back_29 : decode cX9_back 29 = .ok (.invokevirtual 316, 3) := by decide +kernel
theorem dX9_back_32 : decode cX9_back 32 = .ok (.aload_n 0, 1) := by decide +kernel
theorem dX9_back_33 : decode cX9_back 33 = .ok (.getfield 31, 3) := by decide +kernel
theorem dX9_back_36 : decode cX9_back 36 = .ok (.getfield 151, 3) := by decide +kernel
theorem dX9_back_39 : decode cX9_back 39 = .ok (.ireturn, 1) := by decide +kernel
theorem v_X9_back : yX9_back.cls = RX9 ∧ yX9_back.cls ≠ "java/lang/invoke/MethodHandle" ∧ yX9_back.cls ≠ "java/lang/invoke/VarHandle" ∧ (parseMethodDescriptor yX9_back.desc).map (fun d => d.parameters.length) = some 0 := ⟨rfl, by decide +kernel, by decide +kernel, by decide +kernel⟩
noncomputable def k_X9_back_0 (κ : gb_K) : gb_C := (o_al 0 (o_gf 9 5 (o_zeq (o_ci (-2) o_ri) (o_al 0 (o_gf 9 6 (o_al 0 (o_gf 9 3 (o_cv 1 3 0 f_X3_add (o_al 0 (o_gf 9 3 (o_al 0 (o_gf 9 4 (o_cv 1 7 0 f_X7_copy (o_al 0 (o_gf 9 3 (o_gf 7 9 o_ri))))))))))))))))
theorem l_X9_back_0 : gb_Li (fun κ => k_X9_back_0 κ) := (gb_li (q_al 0) (gb_li (q_gf 9 5) (q_zeq (gb_li (q_ci (-2)) (gb_li0 _)) (gb_li (q_al 0) (gb_li (q_gf 9 6) (gb_li (q_al 0) (gb_li (q_gf 9 3) (gb_li (q_cv 1 3 0 f_X3_add) (gb_li (q_al 0) (gb_li (q_gf 9 3) (gb_li (q_al 0) (gb_li (q_gf 9 4) (gb_li (q_cv 1 7 0 f_X7_copy) (gb_li (q_al 0) (gb_li (q_gf 9 3) (gb_li (q_gf 7 9) (gb_li0 _)))))))))))))))))
theorem s_X9_back_0   {κ : gb_K} (hκ : ∀ q, gb_S RX9 cX9_back 1 (gb_rm 4 88) 1 q (κ q)) : gb_S RX9 cX9_back 1 (gb_rm 4 88) 1 0 (k_X9_back_0 κ) := (s_aln 0 rfl dX9_back_0 (s_gf (T := TX9) winX9 rfl (Nat.le_of_ble_eq_true rfl) gw_249 rfl dX9_back_1 (s_zne (tgt := 10) (by decide +kernel) dX9_back_4 (s_aln 0 rfl dX9_back_10 (s_gf (T := TX9) winX9 rfl (Nat.le_of_ble_eq_true rfl) gw_243 rfl dX9_back_11 (s_aln 0 rfl dX9_back_14 (s_gf (T := TX9) winX9 rfl (Nat.le_of_ble_eq_true rfl) gw_238 rfl dX9_back_15 (s_cv (C := RX3) c_X3_add rfl (gb_l5 gw_288 gw_289 gw_290 gw_247 gw_291) v_X3_add ⟨rfl, rfl⟩ ⟨Nat.le_of_ble_eq_true rfl, Nat.le_of_ble_eq_true rfl⟩ dX9_back_18 (s_aln 0 rfl dX9_back_21 (s_gf (T := TX9) winX9 rfl (Nat.le_of_ble_eq_true rfl) gw_238 rfl dX9_back_22 (s_aln 0 rfl dX9_back_25 (s_gf (T := TX9) winX9 rfl (Nat.le_of_ble_eq_true rfl) gw_378 rfl dX9_back_26 (s_cv (C := RX7) c_X7_copy rfl (gb_l5 gw_379 gw_95 gw_96 gw_11 gw_97) v_X7_copy ⟨rfl, rfl⟩ ⟨Nat.le_of_ble_eq_true rfl, Nat.le_of_ble_eq_true rfl⟩ dX9_back_29 (s_aln 0 rfl dX9_back_32 (s_gf (T := TX9) winX9 rfl (Nat.le_of_ble_eq_true rfl) gw_238 rfl dX9_back_33 (s_gf (T := TX7) winX7 rfl (Nat.le_of_ble_eq_true rfl) gw_267 rfl dX9_back_36 (s_ri rfl dX9_back_39)))))))))))))) (s_bipush (by decide +kernel) dX9_back_7 (s_ri rfl dX9_back_9)))))
noncomputable def f_X9_back : gb_F := gb_hide (gb_mf 1 (k_X9_back_0 gb_n))
theorem c_X9_back : ∀ l, gb_Met l yX9_back cX9_back 1 (some .int) 1 (gb_rm 4 88) f_X9_back := gb_hide_c (gb_met (own := RX9) (rk := 1) rfl (by decide +kernel) ⟨rfl, rfl⟩ (s_X9_back_0 gb_S_n))
theorem dX9_count_0 : decode cX9_count 0 = .ok (.iload_n 1, 1) := by decide +kernel
theorem dX9_count_1 : decode cX9_count 1 = .ok (.tableswitch 123 0 8 #[51, 59, 67, 75, 83, 91, 99, 107, 115], 51) := by decide +kernel
theorem dX9_count_52 : decode cX9_count 52 = .ok (.aload_n 0, 1) := by decide +kernel
theorem dX9_count_53 : decode cX9_count 53 = .ok (.getfield 31, 3) := by decide +kernel
theorem dX9_count_56 : decode cX9_count 56 = .ok (.getfield 151, 3) := by decide +kernel
theorem dX9_count_59 : decode cX9_count 59 = .ok (.ireturn, 1) := by decide +kernel
theorem dX9_count_60 : decode cX9_count 60 = .ok (.aload_n 0, 1) := by decide +kernel
theorem dX9_count_61 : decode cX9_count 61 = .ok (.getfield 31, 3) := by decide +kernel
theorem dX9_count_64 : decode cX9_count 64 = .ok (.invokevirtual 325, 3) := by decide +kernel
theorem dX9_count_67 : decode cX9_count 67 = .ok (.ireturn, 1) := by decide +kernel
theorem dX9_count_68 : decode cX9_count 68 = .ok (.aload_n 0, 1) := by decide +kernel
theorem dX9_count_69 : decode cX9_count 69 = .ok (.getfield 31, 3) := by decide +kernel
theorem dX9_count_72 : decode cX9_count 72 = .ok (.invokevirtual 328, 3) := by decide +kernel
theorem dX9_count_75 : decode cX9_count 75 = .ok (.ireturn, 1) := by decide +kernel
theorem dX9_count_76 : decode cX9_count 76 = .ok (.aload_n 0, 1) := by decide +kernel
theorem dX9_count_77 : decode cX9_count 77 = .ok (.getfield 31, 3) := by decide +kernel
theorem dX9_count_80 : decode cX9_count 80 = .ok (.invokevirtual 331, 3) := by decide +kernel
theorem dX9_count_83 : decode cX9_count 83 = .ok (.ireturn, 1) := by decide +kernel
theorem dX9_count_84 : decode cX9_count 84 = .ok (.aload_n 0, 1) := by decide +kernel
theorem dX9_count_85 : decode cX9_count 85 = .ok (.getfield 31, 3) := by decide +kernel
theorem dX9_count_88 : decode cX9_count 88 = .ok (.invokevirtual 334, 3) := by decide +kernel
theorem dX9_count_91 : decode cX9_count 91 = .ok (.ireturn, 1) := by decide +kernel
theorem dX9_count_92 : decode cX9_count 92 = .ok (.aload_n 0, 1) := by decide +kernel
theorem dX9_count_93 : decode cX9_count 93 = .ok (.getfield 41, 3) := by decide +kernel
theorem dX9_count_96 : decode cX9_count 96 = .ok (.getfield 315, 3) := by decide +kernel
theorem dX9_count_99 : decode cX9_count 99 = .ok (.ireturn, 1) := by decide +kernel
theorem dX9_count_100 : decode cX9_count 100 = .ok (.aload_n 0, 1) := by decide +kernel
theorem dX9_count_101 : decode cX9_count 101 = .ok (.getfield 31, 3) := by decide +kernel
theorem dX9_count_104 : decode cX9_count 104 = .ok (.getfield 337, 3) := by decide +kernel
theorem dX9_count_107 : decode cX9_count 107 = .ok (.ireturn, 1) := by decide +kernel
theorem dX9_count_108 : decode cX9_count 108 = .ok (.aload_n 0, 1) := by decide +kernel
theorem dX9_count_109 : decode cX9_count 109 = .ok (.getfield 48, 3) := by decide +kernel
theorem dX9_count_112 : decode cX9_count 112 = .ok (.getfield 340, 3) := by decide +kernel
theorem dX9_count_115 : decode cX9_count 115 = .ok (.ireturn, 1) := by decide +kernel
theorem dX9_count_116 : decode cX9_count 116 = .ok (.aload_n 0, 1) := by decide +kernel
theorem dX9_count_117 : decode cX9_count 117 = .ok (.getfield 10, 3) := by decide +kernel
theorem dX9_count_120 : decode cX9_count 120 = .ok (.getfield 88, 3) := by decide +kernel
theorem dX9_count_123 : decode cX9_count 123 = .ok (.ireturn, 1) := by decide +kernel
theorem dX9_count_124 : decode cX9_count 124 = .ok (.iconst (-1), 1) := by decide +kernel
theorem dX9_count_125 : decode cX9_count 125 = .ok (.ireturn, 1) := by decide +kernel
theorem v_X9_count : yX9_count.cls = RX9 ∧ yX9_count.cls ≠ "java/lang/invoke/MethodHandle" ∧ yX9_count.cls ≠ "java/lang/invoke/VarHandle" ∧ (parseMethodDescriptor yX9_count.desc).map (fun d => d.parameters.length) = some 1 := ⟨rfl, by decide +kernel, by decide +kernel, by decide +kernel⟩
noncomputable def k_X9_count_124 (κ : gb_K) : gb_C := (o_ci (-1) o_ri)
theorem l_X9_count_124 : gb_Li (fun κ => k_X9_count_124 κ) := (gb_li (q_ci (-1)) (gb_li0 _))
theorem s_X9_count_124   {κ : gb_K} (hκ : ∀ q, gb_S RX9 cX9_count 2 (gb_rm 2 43) 1 q (κ q)) : gb_S RX9 cX9_count 2 (gb_rm 2 43) 1 124 (k_X9_count_124 κ) := (s_iconst (by decide +kernel) dX9_count_124 (s_ri rfl dX9_count_125))
noncomputable def k_X9_count_116 (κ : gb_K) : gb_C := (o_al 0 (o_gf 9 0 (o_gf 8 1 o_ri)))
theorem l_X9_count_116 : gb_Li (fun κ => k_X9_count_116 κ) := (gb_li (q_al 0) (gb_li (q_gf 9 0) (gb_li (q_gf 8 1) (gb_li0 _))))
theorem s_X9_count_116   {κ : gb_K} (hκ : ∀ q, gb_S RX9 cX9_count 2 (gb_rm 2 43) 1 q (κ q)) : gb_S RX9 cX9_count 2 (gb_rm 2 43) 1 116 (k_X9_count_116 κ) := (s_aln 0 rfl dX9_count_116 (s_gf (T := TX9) winX9 rfl (Nat.le_of_ble_eq_true rfl) gw_210 rfl dX9_count_117 (s_gf (T := TX8) winX8 rfl (Nat.le_of_ble_eq_true rfl) gw_215 rfl dX9_count_120 (s_ri rfl dX9_count_123))))
noncomputable def k_X9_count_108 (κ : gb_K) : gb_C := (o_al 0 (o_gf 9 7 (o_gf 4 1 o_ri)))
theorem l_X9_count_108 : gb_Li (fun κ => k_X9_count_108 κ) := (gb_li (q_al 0) (gb_li (q_gf 9 7) (gb_li (q_gf 4 1) (gb_li0 _))))
theorem s_X9_count_108   {κ : gb_K} (hκ : ∀ q, gb_S RX9 cX9_count 2 (gb_rm 2 43) 1 q (κ q)) : gb_S RX9 cX9_count 2 (gb_rm 2 43) 1 108 (k_X9_count_108 κ) := (s_aln 0 rfl dX9_count_108 (s_gf (T := TX9) winX9 rfl (Nat.le_of_ble_eq_true rfl) gw_293 rfl dX9_count_109 (s_gf (T := TX4) winX4 rfl (Nat.le_of_ble_eq_true rfl) gw_380 rfl dX9_count_112 (s_ri rfl dX9_count_115))))
noncomputable def k_X9_count_100 (κ : gb_K) : gb_C := (o_al 0 (o_gf 9 3 (o_gf 7 10 o_ri)))
theorem l_X9_count_100 : gb_Li (fun κ => k_X9_count_100 κ) := (gb_li (q_al 0) (gb_li (q_gf 9 3) (gb_li (q_gf 7 10) (gb_li0 _))))
theorem s_X9_count_100   {κ : gb_K} (hκ : ∀ q, gb_S RX9 cX9_count 2 (gb_rm 2 43) 1 q (κ q)) : gb_S RX9 cX9_count 2 (gb_rm 2 43) 1 100 (k_X9_count_100 κ) := (s_aln 0 rfl dX9_count_100 (s_gf (T := TX9) winX9 rfl (Nat.le_of_ble_eq_true rfl) gw_238 rfl dX9_count_101 (s_gf (T := TX7) winX7 rfl (Nat.le_of_ble_eq_true rfl) gw_381 rfl dX9_count_104 (s_ri rfl dX9_count_107))))
noncomputable def k_X9_count_92 (κ : gb_K) : gb_C := (o_al 0 (o_gf 9 6 (o_gf 3 2 o_ri)))
theorem l_X9_count_92 : gb_Li (fun κ => k_X9_count_92 κ) := (gb_li (q_al 0) (gb_li (q_gf 9 6) (gb_li (q_gf 3 2) (gb_li0 _))))
theorem s_X9_count_92   {κ : gb_K} (hκ : ∀ q, gb_S RX9 cX9_count 2 (gb_rm 2 43) 1 q (κ q)) : gb_S RX9 cX9_count 2 (gb_rm 2 43) 1 92 (k_X9_count_92 κ) := (s_aln 0 rfl dX9_count_92 (s_gf (T := TX9) winX9 rfl (Nat.le_of_ble_eq_true rfl) gw_243 rfl dX9_count_93 (s_gf (T := TX3) winX3 rfl (Nat.le_of_ble_eq_true rfl) gw_377 rfl dX9_count_96 (s_ri rfl dX9_count_99))))
noncomputable def k_X9_count_84 (κ : gb_K) : gb_C := (o_al 0 (o_gf 9 3 (o_cv 0 7 1 f_X7_emptyBins o_ri)))
theorem l_X9_count_84 : gb_Li (fun κ => k_X9_count_84 κ) := (gb_li (q_al 0) (gb_li (q_gf 9 3) (gb_li (q_cv 0 7 1 f_X7_emptyBins) (gb_li0 _))))
theorem s_X9_count_84   {κ : gb_K} (hκ : ∀ q, gb_S RX9 cX9_count 2 (gb_rm 2 43) 1 q (κ q)) : gb_S RX9 cX9_count 2 (gb_rm 2 43) 1 84 (k_X9_count_84 κ) := (s_aln 0 rfl dX9_count_84 (s_gf (T := TX9) winX9 rfl (Nat.le_of_ble_eq_true rfl) gw_238 rfl dX9_count_85 (s_cv (C := RX7) c_X7_emptyBins rfl (gb_l5 gw_382 gw_383 gw_384 gw_11 gw_385) v_X7_emptyBins ⟨rfl, rfl⟩ ⟨Nat.le_of_ble_eq_true rfl, Nat.le_of_ble_eq_true rfl⟩ dX9_count_88 (s_ri rfl dX9_count_91))))
noncomputable def k_X9_count_76 (κ : gb_K) : gb_C := (o_al 0 (o_gf 9 3 (o_cv 0 7 1 f_X7_closedBins o_ri)))
theorem l_X9_count_76 : gb_Li (fun κ => k_X9_count_76 κ) := (gb_li (q_al 0) (gb_li (q_gf 9 3) (gb_li (q_cv 0 7 1 f_X7_closedBins) (gb_li0 _))))
theorem s_X9_count_76   {κ : gb_K} (hκ : ∀ q, gb_S RX9 cX9_count 2 (gb_rm 2 43) 1 q (κ q)) : gb_S RX9 cX9_count 2 (gb_rm 2 43) 1 76 (k_X9_count_76 κ) := (s_aln 0 rfl dX9_count_76 (s_gf (T := TX9) winX9 rfl (Nat.le_of_ble_eq_true rfl) gw_238 rfl dX9_count_77 (s_cv (C := RX7) c_X7_closedBins rfl (gb_l5 gw_386 gw_387 gw_388 gw_11 gw_389) v_X7_closedBins ⟨rfl, rfl⟩ ⟨Nat.le_of_ble_eq_true rfl, Nat.le_of_ble_eq_true rfl⟩ dX9_count_80 (s_ri rfl dX9_count_83))))
noncomputable def k_X9_count_68 (κ : gb_K) : gb_C := (o_al 0 (o_gf 9 3 (o_cv 0 7 1 f_X7_layersInAll o_ri)))
theorem l_X9_count_68 : gb_Li (fun κ => k_X9_count_68 κ) := (gb_li (q_al 0) (gb_li (q_gf 9 3) (gb_li (q_cv 0 7 1 f_X7_layersInAll) (gb_li0 _))))
theorem s_X9_count_68   {κ : gb_K} (hκ : ∀ q, gb_S RX9 cX9_count 2 (gb_rm 2 43) 1 q (κ q)) : gb_S RX9 cX9_count 2 (gb_rm 2 43) 1 68 (k_X9_count_68 κ) := (s_aln 0 rfl dX9_count_68 (s_gf (T := TX9) winX9 rfl (Nat.le_of_ble_eq_true rfl) gw_238 rfl dX9_count_69 (s_cv (C := RX7) c_X7_layersInAll rfl (gb_l5 gw_390 gw_391 gw_392 gw_11 gw_393) v_X7_layersInAll ⟨rfl, rfl⟩ ⟨Nat.le_of_ble_eq_true rfl, Nat.le_of_ble_eq_true rfl⟩ dX9_count_72 (s_ri rfl dX9_count_75))))
noncomputable def k_X9_count_60 (κ : gb_K) : gb_C := (o_al 0 (o_gf 9 3 (o_cv 0 7 1 f_X7_tonsInAll o_ri)))
theorem l_X9_count_60 : gb_Li (fun κ => k_X9_count_60 κ) := (gb_li (q_al 0) (gb_li (q_gf 9 3) (gb_li (q_cv 0 7 1 f_X7_tonsInAll) (gb_li0 _))))
theorem s_X9_count_60   {κ : gb_K} (hκ : ∀ q, gb_S RX9 cX9_count 2 (gb_rm 2 43) 1 q (κ q)) : gb_S RX9 cX9_count 2 (gb_rm 2 43) 1 60 (k_X9_count_60 κ) := (s_aln 0 rfl dX9_count_60 (s_gf (T := TX9) winX9 rfl (Nat.le_of_ble_eq_true rfl) gw_238 rfl dX9_count_61 (s_cv (C := RX7) c_X7_tonsInAll rfl (gb_l5 gw_394 gw_395 gw_396 gw_11 gw_397) v_X7_tonsInAll ⟨rfl, rfl⟩ ⟨Nat.le_of_ble_eq_true rfl, Nat.le_of_ble_eq_true rfl⟩ dX9_count_64 (s_ri rfl dX9_count_67))))
noncomputable def k_X9_count_52 (κ : gb_K) : gb_C := (o_al 0 (o_gf 9 3 (o_gf 7 9 o_ri)))
theorem l_X9_count_52 : gb_Li (fun κ => k_X9_count_52 κ) := (gb_li (q_al 0) (gb_li (q_gf 9 3) (gb_li (q_gf 7 9) (gb_li0 _))))
theorem s_X9_count_52   {κ : gb_K} (hκ : ∀ q, gb_S RX9 cX9_count 2 (gb_rm 2 43) 1 q (κ q)) : gb_S RX9 cX9_count 2 (gb_rm 2 43) 1 52 (k_X9_count_52 κ) := (s_aln 0 rfl dX9_count_52 (s_gf (T := TX9) winX9 rfl (Nat.le_of_ble_eq_true rfl) gw_238 rfl dX9_count_53 (s_gf (T := TX7) winX7 rfl (Nat.le_of_ble_eq_true rfl) gw_267 rfl dX9_count_56 (s_ri rfl dX9_count_59))))
noncomputable def k_X9_count_0 (κ : gb_K) : gb_C := (o_il 1 (o_ts 0 8 [(k_X9_count_52 κ), (k_X9_count_60 κ), (k_X9_count_68 κ), (k_X9_count_76 κ), (k_X9_count_84 κ), (k_X9_count_92 κ), (k_X9_count_100 κ), (k_X9_count_108 κ), (k_X9_count_116 κ)] (k_X9_count_124 κ)))
theorem l_X9_count_0 : gb_Li (fun κ => k_X9_count_0 κ) := (gb_li (q_il 1) (q_ts (ts := [(fun κ => (k_X9_count_52 κ)), (fun κ => (k_X9_count_60 κ)), (fun κ => (k_X9_count_68 κ)), (fun κ => (k_X9_count_76 κ)), (fun κ => (k_X9_count_84 κ)), (fun κ => (k_X9_count_92 κ)), (fun κ => (k_X9_count_100 κ)), (fun κ => (k_X9_count_108 κ)), (fun κ => (k_X9_count_116 κ))]) (List.forall_mem_cons.mpr ⟨(l_X9_count_52), List.forall_mem_cons.mpr ⟨(l_X9_count_60), List.forall_mem_cons.mpr ⟨(l_X9_count_68), List.forall_mem_cons.mpr ⟨(l_X9_count_76), List.forall_mem_cons.mpr ⟨(l_X9_count_84), List.forall_mem_cons.mpr ⟨(l_X9_count_92), List.forall_mem_cons.mpr ⟨(l_X9_count_100), List.forall_mem_cons.mpr ⟨(l_X9_count_108), List.forall_mem_cons.mpr ⟨(l_X9_count_116), (fun _ h => absurd h List.not_mem_nil)⟩⟩⟩⟩⟩⟩⟩⟩⟩) (l_X9_count_124)))
theorem s_X9_count_0   {κ : gb_K} (hκ : ∀ q, gb_S RX9 cX9_count 2 (gb_rm 2 43) 1 q (κ q)) : gb_S RX9 cX9_count 2 (gb_rm 2 43) 1 0 (k_X9_count_0 κ) := (s_iln 1 rfl dX9_count_0 (s_ts (dt := 124) dX9_count_1 (by decide +kernel) (s_X9_count_124 hκ) (gb_tsl (gb_tslc (off := 51) (tgt := 52) (by decide +kernel) (s_X9_count_52 hκ) (gb_tslc (off := 59) (tgt := 60) (by decide +kernel) (s_X9_count_60 hκ) (gb_tslc (off := 67) (tgt := 68) (by decide +kernel) (s_X9_count_68 hκ) (gb_tslc (off := 75) (tgt := 76) (by decide +kernel) (s_X9_count_76 hκ) (gb_tslc (off := 83) (tgt := 84) (by decide +kernel) (s_X9_count_84 hκ) (gb_tslc (off := 91) (tgt := 92) (by decide +kernel) (s_X9_count_92 hκ) (gb_tslc (off := 99) (tgt := 100) (by decide +kernel) (s_X9_count_100 hκ) (gb_tslc (off := 107) (tgt := 108) (by decide +kernel) (s_X9_count_108 hκ) (gb_tslc (off := 115) (tgt := 116) (by decide +kernel) (s_X9_count_116 hκ) gb_tsl0))))))))))))
noncomputable def f_X9_count : gb_F := gb_hide (gb_mf 2 (k_X9_count_0 gb_n))
theorem c_X9_count : ∀ l, gb_Met l yX9_count cX9_count 2 (some .int) 1 (gb_rm 2 43) f_X9_count := gb_hide_c (gb_met (own := RX9) (rk := 1) rfl (by decide +kernel) ⟨rfl, rfl⟩ (s_X9_count_0 gb_S_n))
theorem dX9_row_0 : decode cX9_row 0 = .ok (.iload_n 1, 1) := by decide +kernel
theorem dX9_row_1 : decode cX9_row 1 = .ok (.ifCond .lt 14, 3) := by decide +kernel
theorem dX9_row_4 : decode cX9_row 4 = .ok (.iload_n 1, 1) := by decide +kernel
theorem dX9_row_5 : decode cX9_row 5 = .ok (.aload_n 0, 1) := by decide +kernel
theorem dX9_row_6 : decode cX9_row 6 = .ok (.getfield 48, 3) := by decide +kernel
theorem dX9_row_9 : decode cX9_row 9 = .ok (.getfield 340, 3) := by decide +kernel
theorem dX9_row_12 : decode cX9_row 12 = .ok (.if_icmp .lt 11, 3) := by decide +kernel
theorem dX9_row_15 : decode cX9_row 15 = .ok (.new 341, 3) := by decide +kernel
theorem dX9_row_23 : decode cX9_row 23 = .ok (.aload_n 0, 1) := by decide +kernel
theorem dX9_row_24 : decode cX9_row 24 = .ok (.getfield 48, 3) := by decide +kernel
theorem dX9_row_27 : decode cX9_row 27 = .ok (.getfield 344, 3) := by decide +kernel
theorem dX9_row_30 : decode cX9_row 30 = .ok (.iload_n 1, 1) := by decide +kernel
theorem dX9_row_31 : decode cX9_row 31 = .ok (.laload, 1) := by decide +kernel
theorem dX9_row_32 : decode cX9_row 32 = .ok (.lreturn, 1) := by decide +kernel
theorem v_X9_row : yX9_row.cls = RX9 ∧ yX9_row.cls ≠ "java/lang/invoke/MethodHandle" ∧ yX9_row.cls ≠ "java/lang/invoke/VarHandle" ∧ (parseMethodDescriptor yX9_row.desc).map (fun d => d.parameters.length) = some 1 := ⟨rfl, by decide +kernel, by decide +kernel, by decide +kernel⟩
noncomputable def k_X9_row_15 (κ : gb_K) : gb_C := (gb_n 15)
theorem l_X9_row_15 : gb_Li (fun κ => k_X9_row_15 κ) := (gb_li0 _)
theorem s_X9_row_15   {κ : gb_K} (hκ : ∀ q, gb_S RX9 cX9_row 2 (gb_rm 0 0) 3 q (κ q)) : gb_S RX9 cX9_row 2 (gb_rm 0 0) 3 15 (k_X9_row_15 κ) := (gb_S_n 15)
noncomputable def k_X9_row_0 (κ : gb_K) : gb_C := (o_il 1 (o_zlt (k_X9_row_15 κ) (o_il 1 (o_al 0 (o_gf 9 7 (o_gf 4 1 (o_clt (o_al 0 (o_gf 9 7 (o_gf 4 0 (o_il 1 (o_lald o_rl))))) (k_X9_row_15 κ))))))))
theorem l_X9_row_0 : gb_Li (fun κ => k_X9_row_0 κ) := (gb_li (q_il 1) (q_zlt (l_X9_row_15) (gb_li (q_il 1) (gb_li (q_al 0) (gb_li (q_gf 9 7) (gb_li (q_gf 4 1) (q_clt (gb_li (q_al 0) (gb_li (q_gf 9 7) (gb_li (q_gf 4 0) (gb_li (q_il 1) (gb_li q_lald (gb_li0 _)))))) (l_X9_row_15))))))))
theorem s_X9_row_0   {κ : gb_K} (hκ : ∀ q, gb_S RX9 cX9_row 2 (gb_rm 0 0) 3 q (κ q)) : gb_S RX9 cX9_row 2 (gb_rm 0 0) 3 0 (k_X9_row_0 κ) := (s_iln 1 rfl dX9_row_0 (s_zlt (tgt := 15) (by decide +kernel) dX9_row_1 (s_X9_row_15 hκ) (s_iln 1 rfl dX9_row_4 (s_aln 0 rfl dX9_row_5 (s_gf (T := TX9) winX9 rfl (Nat.le_of_ble_eq_true rfl) gw_293 rfl dX9_row_6 (s_gf (T := TX4) winX4 rfl (Nat.le_of_ble_eq_true rfl) gw_380 rfl dX9_row_9 (s_clt (tgt := 23) (by decide +kernel) dX9_row_12 (s_aln 0 rfl dX9_row_23 (s_gf (T := TX9) winX9 rfl (Nat.le_of_ble_eq_true rfl) gw_293 rfl dX9_row_24 (s_gf (T := TX4) winX4 rfl (Nat.le_of_ble_eq_true rfl) gw_398 rfl dX9_row_27 (s_iln 1 rfl dX9_row_30 (s_lald dX9_row_31 (s_rl rfl dX9_row_32)))))) (s_X9_row_15 hκ))))))))
noncomputable def f_X9_row : gb_F := gb_hide (gb_mf 2 (k_X9_row_0 gb_n))
theorem c_X9_row : ∀ l, gb_Met l yX9_row cX9_row 2 (some .long) 3 (gb_rm 0 0) f_X9_row := gb_hide_c (gb_met (own := RX9) (rk := 3) rfl (by decide +kernel) ⟨rfl, rfl⟩ (s_X9_row_0 gb_S_n))
theorem dL_holds_0 : decode cL_holds 0 = .ok (.iconst 0, 1) := by decide +kernel
theorem dL_holds_1 : decode cL_holds 1 = .ok (.istore_n 1, 1) := by decide +kernel
theorem dL_holds_2 : decode cL_holds 2 = .ok (.iconst 0, 1) := by decide +kernel
theorem dL_holds_3 : decode cL_holds 3 = .ok (.istore_n 2, 1) := by decide +kernel
theorem dL_holds_4 : decode cL_holds 4 = .ok (.iconst 0, 1) := by decide +kernel
theorem dL_holds_5 : decode cL_holds 5 = .ok (.istore_n 3, 1) := by decide +kernel
theorem dL_holds_6 : decode cL_holds 6 = .ok (.iconst 0, 1) := by decide +kernel
theorem dL_holds_7 : decode cL_holds 7 = .ok (.istore 4, 2) := by decide +kernel
theorem dL_holds_9 : decode cL_holds 9 = .ok (.iload 4, 2) := by decide +kernel
theorem dL_holds_11 : decode cL_holds 11 = .ok (.bipush 6, 2) := by decide +kernel
theorem dL_holds_13 : decode cL_holds 13 = .ok (.if_icmp .ge 412, 3) := by decide +kernel
theorem dL_holds_16 : decode cL_holds 16 = .ok (.aload_n 0, 1) := by decide +kernel
theorem dL_holds_17 : decode cL_holds 17 = .ok (.iload 4, 2) := by decide +kernel
theorem dL_holds_19 : decode cL_holds 19 = .ok (.iconst 2, 1) := by decide +kernel
theorem dL_holds_20 : decode cL_holds 20 = .ok (.invokevirtual 27, 3) := by decide +kernel
theorem dL_holds_23 : decode cL_holds 23 = .ok (.istore 5, 2) := by decide +kernel
theorem dL_holds_25 : decode cL_holds 25 = .ok (.aload_n 0, 1) := by decide +kernel
theorem dL_holds_26 : decode cL_holds 26 = .ok (.iload 4, 2) := by decide +kernel
theorem dL_holds_28 : decode cL_holds 28 = .ok (.iconst 1, 1) := by decide +kernel
theorem dL_holds_29 : decode cL_holds 29 = .ok (.invokevirtual 27, 3) := by decide +kernel
theorem dL_holds_32 : decode cL_holds 32 = .ok (.istore 6, 2) := by decide +kernel
theorem dL_holds_34 : decode cL_holds 34 = .ok (.iconst 0, 1) := by decide +kernel
theorem dL_holds_35 : decode cL_holds 35 = .ok (.istore 7, 2) := by decide +kernel
theorem dL_holds_37 : decode cL_holds 37 = .ok (.iconst 0, 1) := by decide +kernel
theorem dL_holds_38 : decode cL_holds 38 = .ok (.istore 8, 2) := by decide +kernel
theorem dL_holds_40 : decode cL_holds 40 = .ok (.iconst 0, 1) := by decide +kernel
theorem dL_holds_41 : decode cL_holds 41 = .ok (.istore 9, 2) := by decide +kernel
theorem dL_holds_43 : decode cL_holds 43 = .ok (.iload 6, 2) := by decide +kernel
theorem dL_holds_45 : decode cL_holds 45 = .ok (.aload_n 0, 1) := by decide +kernel
theorem dL_holds_46 : decode cL_holds 46 = .ok (.iload 4, 2) := by decide +kernel
theorem dL_holds_48 : decode cL_holds 48 = .ok (.iconst 0, 1) := by decide +kernel
theorem dL_holds_49 : decode cL_holds 49 = .ok (.invokevirtual 27, 3) := by decide +kernel
theorem dL_holds_52 : decode cL_holds 52 = .ok (.if_icmp .gt 33, 3) := by decide +kernel
theorem dL_holds_55 : decode cL_holds 55 = .ok (.iload 5, 2) := by decide +kernel
theorem dL_holds_57 : decode cL_holds 57 = .ok (.bipush 6, 2) := by decide +kernel
theorem dL_holds_59 : decode cL_holds 59 = .ok (.if_icmp .gt 26, 3) := by decide +kernel
theorem dL_holds_62 : decode cL_holds 62 = .ok (.iload 5, 2) := by decide +kernel
theorem dL_holds_64 : decode cL_holds 64 = .ok (.ifCond .ne 7, 3) := by decide +kernel
theorem dL_holds_67 : decode cL_holds 67 = .ok (.iconst 1, 1) := by decide +kernel
theorem dL_holds_68 : decode cL_holds 68 = .ok (.goto 4, 3) := by decide +kernel
theorem dL_holds_71 : decode cL_holds 71 = .ok (.iconst 0, 1) := by decide +kernel
theorem dL_holds_72 : decode cL_holds 72 = .ok (.iload 6, 2) := by decide +kernel
theorem dL_holds_74 : decode cL_holds 74 = .ok (.ifCond .ne 7, 3) := by decide +kernel
theorem dL_holds_77 : decode cL_holds 77 = .ok (.iconst 1, 1) := by decide +kernel
theorem dL_holds_78 : decode cL_holds 78 = .ok (.goto 4, 3) := by decide +kernel
theorem dL_holds_81 : decode cL_holds 81 = .ok (.iconst 0, 1) := by decide +kernel
theorem dL_holds_82 : decode cL_holds 82 = .ok (.if_icmp .eq 5, 3) := by decide +kernel
theorem dL_holds_85 : decode cL_holds 85 = .ok (.iconst 0, 1) := by decide +kernel
theorem dL_holds_86 : decode cL_holds 86 = .ok (.ireturn, 1) := by decide +kernel
theorem dL_holds_87 : decode cL_holds 87 = .ok (.iconst 0, 1) := by decide +kernel
theorem dL_holds_88 : decode cL_holds 88 = .ok (.istore 10, 2) := by decide +kernel
theorem dL_holds_90 : decode cL_holds 90 = .ok (.iload 10, 2) := by decide +kernel
theorem dL_holds_92 : decode cL_holds 92 = .ok (.iload 5, 2) := by decide +kernel
theorem dL_holds_94 : decode cL_holds 94 = .ok (.if_icmp .ge 175, 3) := by decide +kernel
theorem dL_holds_97 : decode cL_holds 97 = .ok (.aload_n 0, 1) := by decide +kernel
theorem dL_holds_98 : decode cL_holds 98 = .ok (.iload 4, 2) := by decide +kernel
theorem dL_holds_100 : decode cL_holds 100 = .ok (.iload 10, 2) := by decide +kernel
theorem dL_holds_102 : decode cL_holds 102 = .ok (.iconst 0, 1) := by decide +kernel
theorem dL_holds_103 : decode cL_holds 103 = .ok (.invokevirtual 31, 3) := by decide +kernel
theorem dL_holds_106 : decode cL_holds 106 = .ok (.istore 11, 2) := by decide +kernel
theorem dL_holds_108 : decode cL_holds 108 = .ok (.aload_n 0, 1) := by decide +kernel
theorem dL_holds_109 : decode cL_holds 109 = .ok (.iload 4, 2) := by decide +kernel
theorem dL_holds_111 : decode cL_holds 111 = .ok (.iload 10, 2) := by decide +kernel
theorem dL_holds_113 : decode cL_holds 113 = .ok (.iconst 1, 1) := by decide +kernel
theorem dL_holds_114 : decode cL_holds 114 = .ok (.invokevirtual 31, 3) := by decide +kernel
theorem dL_holds_117 : decode cL_holds 117 = .ok (.istore 12, 2) := by decide +kernel
theorem dL_holds_119 : decode cL_holds 119 = .ok (.aload_n 0, 1) := by decide +kernel
theorem dL_holds_120 : decode cL_holds 120 = .ok (.iload 4, 2) := by decide +kernel
theorem dL_holds_122 : decode cL_holds 122 = .ok (.iload 10, 2) := by decide +kernel
theorem dL_holds_124 : decode cL_holds 124 = .ok (.iconst 3, 1) := by decide +kernel
theorem dL_holds_125 : decode cL_holds 125 = .ok (.invokevirtual 31, 3) := by decide +kernel
theorem dL_holds_128 : decode cL_holds 128 = .ok (.istore 13, 2) := by decide +kernel
theorem dL_holds_130 : decode cL_holds 130 = .ok (.iload 12, 2) := by decide +kernel
theorem dL_holds_132 : decode cL_holds 132 = .ok (.iconst 1, 1) := by decide +kernel
theorem dL_holds_133 : decode cL_holds 133 = .ok (.if_icmp .lt 20, 3) := by decide +kernel
theorem dL_holds_136 : decode cL_holds 136 = .ok (.iload 13, 2) := by decide +kernel
theorem dL_holds_138 : decode cL_holds 138 = .ok (.ifCond .lt 15, 3) := by decide +kernel
theorem dL_holds_141 : decode cL_holds 141 = .ok (.iload 13, 2) := by decide +kernel
theorem dL_holds_143 : decode cL_holds 143 = .ok (.aload_n 0, 1) := by decide +kernel
theorem dL_holds_144 : decode cL_holds 144 = .ok (.iload 11, 2) := by decide +kernel
theorem dL_holds_146 : decode cL_holds 146 = .ok (.iconst 0, 1) := by decide +kernel
theorem dL_holds_147 : decode cL_holds 147 = .ok (.invokevirtual 35, 3) := by decide +kernel
theorem dL_holds_150 : decode cL_holds 150 = .ok (.if_icmp .le 5, 3) := by decide +kernel
theorem dL_holds_153 : decode cL_holds 153 = .ok (.iconst 0, 1) := by decide +kernel
theorem dL_holds_154 : decode cL_holds 154 = .ok (.ireturn, 1) := by decide +kernel
theorem dL_holds_155 : decode cL_holds 155 = .ok (.iload 10, 2) := by decide +kernel
theorem dL_holds_157 : decode cL_holds 157 = .ok (.ifCond .le 44, 3) := by decide +kernel
theorem dL_holds_160 : decode cL_holds 160 = .ok (.iload 11, 2) := by decide +kernel
theorem dL_holds_162 : decode cL_holds 162 = .ok (.aload_n 0, 1) := by decide +kernel
theorem dL_holds_163 : decode cL_holds 163 = .ok (.iload 4, 2) := by decide +kernel
theorem dL_holds_165 : decode cL_holds 165 = .ok (.iload 10, 2) := by decide +kernel
theorem dL_holds_167 : decode cL_holds 167 = .ok (.iconst 1, 1) := by decide +kernel
theorem dL_holds_168 : decode cL_holds 168 = .ok (.isub, 1) := by decide +kernel
theorem dL_holds_169 : decode cL_holds 169 = .ok (.iconst 0, 1) := by decide +kernel
theorem dL_holds_170 : decode cL_holds 170 = .ok (.invokevirtual 31, 3) := by decide +kernel
theorem dL_holds_173 : decode cL_holds 173 = .ok (.if_icmp .ne 28, 3) := by decide +kernel
theorem dL_holds_176 : decode cL_holds 176 = .ok (.aload_n 0, 1) := by decide +kernel
theorem dL_holds_177 : decode cL_holds 177 = .ok (.iload 4, 2) := by decide +kernel
theorem dL_holds_179 : decode cL_holds 179 = .ok (.iload 10, 2) := by decide +kernel
theorem dL_holds_181 : decode cL_holds 181 = .ok (.iconst 2, 1) := by decide +kernel
theorem dL_holds_182 : decode cL_holds 182 = .ok (.invokevirtual 31, 3) := by decide +kernel
theorem dL_holds_185 : decode cL_holds 185 = .ok (.aload_n 0, 1) := by decide +kernel
theorem dL_holds_186 : decode cL_holds 186 = .ok (.iload 4, 2) := by decide +kernel
theorem dL_holds_188 : decode cL_holds 188 = .ok (.iload 10, 2) := by decide +kernel
theorem dL_holds_190 : decode cL_holds 190 = .ok (.iconst 1, 1) := by decide +kernel
theorem dL_holds_191 : decode cL_holds 191 = .ok (.isub, 1) := by decide +kernel
theorem dL_holds_192 : decode cL_holds 192 = .ok (.iconst 2, 1) := by decide +kernel
theorem dL_holds_193 : decode cL_holds 193 = .ok (.invokevirtual 31, 3) := by decide +kernel
theorem dL_holds_196 : decode cL_holds 196 = .ok (.if_icmp .ne 5, 3) := by decide +kernel
theorem dL_holds_199 : decode cL_holds 199 = .ok (.iconst 0, 1) := by decide +kernel
theorem dL_holds_200 : decode cL_holds 200 = .ok (.ireturn, 1) := by decide +kernel
theorem dL_holds_201 : decode cL_holds 201 = .ok (.iconst 0, 1) := by decide +kernel
theorem dL_holds_202 : decode cL_holds 202 = .ok (.istore 14, 2) := by decide +kernel
theorem dL_holds_204 : decode cL_holds 204 = .ok (.iload 14, 2) := by decide +kernel
theorem dL_holds_206 : decode cL_holds 206 = .ok (.iload 10, 2) := by decide +kernel
theorem dL_holds_208 : decode cL_holds 208 = .ok (.if_icmp .ge 29, 3) := by decide +kernel
theorem dL_holds_211 : decode cL_holds 211 = .ok (.aload_n 0, 1) := by decide +kernel
theorem dL_holds_212 : decode cL_holds 212 = .ok (.iload 11, 2) := by decide +kernel
theorem dL_holds_214 : decode cL_holds 214 = .ok (.aload_n 0, 1) := by decide +kernel
theorem dL_holds_215 : decode cL_holds 215 = .ok (.iload 4, 2) := by decide +kernel
theorem dL_holds_217 : decode cL_holds 217 = .ok (.iload 14, 2) := by decide +kernel
theorem dL_holds_219 : decode cL_holds 219 = .ok (.iconst 0, 1) := by decide +kernel
theorem dL_holds_220 : decode cL_holds 220 = .ok (.invokevirtual 31, 3) := by decide +kernel
theorem dL_holds_223 : decode cL_holds 223 = .ok (.invokevirtual 38, 3) := by decide +kernel
theorem dL_holds_226 : decode cL_holds 226 = .ok (.ifCond .ge 5, 3) := by decide +kernel
theorem dL_holds_229 : decode cL_holds 229 = .ok (.iconst 0, 1) := by decide +kernel
theorem dL_holds_230 : decode cL_holds 230 = .ok (.ireturn, 1) := by decide +kernel
theorem dL_holds_231 : decode cL_holds 231 = .ok (.iinc 14 1, 3) := by decide +kernel
theorem dL_holds_234 : decode cL_holds 234 = .ok (.goto (-30), 3) := by decide +kernel
theorem dL_holds_237 : decode cL_holds 237 = .ok (.iload 7, 2) := by decide +kernel
theorem dL_holds_239 : decode cL_holds 239 = .ok (.iload 12, 2) := by decide +kernel
theorem dL_holds_241 : decode cL_holds 241 = .ok (.iadd, 1) := by decide +kernel
theorem dL_holds_242 : decode cL_holds 242 = .ok (.istore 7, 2) := by decide +kernel
theorem dL_holds_244 : decode cL_holds 244 = .ok (.iload 8, 2) := by decide +kernel
theorem dL_holds_246 : decode cL_holds 246 = .ok (.iload 12, 2) := by decide +kernel
theorem dL_holds_248 : decode cL_holds 248 = .ok (.iload 13, 2) := by decide +kernel
theorem dL_holds_250 : decode cL_holds 250 = .ok (.imul, 1) := by decide +kernel
theorem dL_holds_251 : decode cL_holds 251 = .ok (.iadd, 1) := by decide +kernel
theorem dL_holds_252 : decode cL_holds 252 = .ok (.istore 8, 2) := by decide +kernel
theorem dL_holds_254 : decode cL_holds 254 = .ok (.iload 9, 2) := by decide +kernel
theorem dL_holds_256 : decode cL_holds 256 = .ok (.iconst 1, 1) := by decide +kernel
theorem dL_holds_257 : decode cL_holds 257 = .ok (.iload 11, 2) := by decide +kernel
theorem dL_holds_259 : decode cL_holds 259 = .ok (.ishl, 1) := by decide +kernel
theorem dL_holds_260 : decode cL_holds 260 = .ok (.ior, 1) := by decide +kernel
theorem dL_holds_261 : decode cL_holds 261 = .ok (.istore 9, 2) := by decide +kernel
theorem dL_holds_263 : decode cL_holds 263 = .ok (.iinc 10 1, 3) := by decide +kernel
theorem dL_holds_266 : decode cL_holds 266 = .ok (.goto (-176), 3) := by decide +kernel
theorem dL_holds_269 : decode cL_holds 269 = .ok (.aload_n 0, 1) := by decide +kernel
theorem dL_holds_270 : decode cL_holds 270 = .ok (.iload 4, 2) := by decide +kernel
theorem dL_holds_272 : decode cL_holds 272 = .ok (.invokevirtual 41, 3) := by decide +kernel
theorem dL_holds_275 : decode cL_holds 275 = .ok (.istore 10, 2) := by decide +kernel
theorem dL_holds_277 : decode cL_holds 277 = .ok (.iload 7, 2) := by decide +kernel
theorem dL_holds_279 : decode cL_holds 279 = .ok (.iload 6, 2) := by decide +kernel
theorem dL_holds_281 : decode cL_holds 281 = .ok (.if_icmp .ne 65, 3) := by decide +kernel
theorem dL_holds_284 : decode cL_holds 284 = .ok (.aload_n 0, 1) := by decide +kernel
theorem dL_holds_285 : decode cL_holds 285 = .ok (.iconst 0, 1) := by decide +kernel
theorem dL_holds_286 : decode cL_holds 286 = .ok (.invokevirtual 44, 3) := by decide +kernel
theorem dL_holds_289 : decode cL_holds 289 = .ok (.iload 8, 2) := by decide +kernel
theorem dL_holds_291 : decode cL_holds 291 = .ok (.i2l, 1) := by decide +kernel
theorem dL_holds_292 : decode cL_holds 292 = .ok (.lcmp, 1) := by decide +kernel
theorem dL_holds_293 : decode cL_holds 293 = .ok (.ifCond .ne 53, 3) := by decide +kernel
theorem dL_holds_296 : decode cL_holds 296 = .ok (.aload_n 0, 1) := by decide +kernel
theorem dL_holds_297 : decode cL_holds 297 = .ok (.iconst 1, 1) := by decide +kernel
theorem dL_holds_298 : decode cL_holds 298 = .ok (.invokevirtual 44, 3) := by decide +kernel
theorem dL_holds_301 : decode cL_holds 301 = .ok (.lconst 0, 1) := by decide +kernel
theorem dL_holds_302 : decode cL_holds 302 = .ok (.lcmp, 1) := by decide +kernel
theorem dL_holds_303 : decode cL_holds 303 = .ok (.ifCond .lt 43, 3) := by decide +kernel
theorem dL_holds_306 : decode cL_holds 306 = .ok (.iload 10, 2) := by decide +kernel
theorem dL_holds_308 : decode cL_holds 308 = .ok (.i2l, 1) := by decide +kernel
theorem dL_holds_309 : decode cL_holds 309 = .ok (.iload 8, 2) := by decide +kernel
theorem dL_holds_311 : decode cL_holds 311 = .ok (.i2l, 1) := by decide +kernel
theorem dL_holds_312 : decode cL_holds 312 = .ok (.aload_n 0, 1) := by decide +kernel
theorem dL_holds_313 : decode cL_holds 313 = .ok (.iconst 1, 1) := by decide +kernel
theorem dL_holds_314 : decode cL_holds 314 = .ok (.invokevirtual 44, 3) := by decide +kernel
theorem dL_holds_317 : decode cL_holds 317 = .ok (.lsub, 1) := by decide +kernel
theorem dL_holds_318 : decode cL_holds 318 = .ok (.lcmp, 1) := by decide +kernel
theorem dL_holds_319 : decode cL_holds 319 = .ok (.ifCond .ne 27, 3) := by decide +kernel
theorem dL_holds_322 : decode cL_holds 322 = .ok (.aload_n 0, 1) := by decide +kernel
theorem dL_holds_323 : decode cL_holds 323 = .ok (.iconst 2, 1) := by decide +kernel
theorem dL_holds_324 : decode cL_holds 324 = .ok (.invokevirtual 44, 3) := by decide +kernel
theorem dL_holds_327 : decode cL_holds 327 = .ok (.iload 8, 2) := by decide +kernel
theorem dL_holds_329 : decode cL_holds 329 = .ok (.i2l, 1) := by decide +kernel
theorem dL_holds_330 : decode cL_holds 330 = .ok (.lcmp, 1) := by decide +kernel
theorem dL_holds_331 : decode cL_holds 331 = .ok (.ifCond .lt 15, 3) := by decide +kernel
theorem dL_holds_334 : decode cL_holds 334 = .ok (.aload_n 0, 1) := by decide +kernel
theorem dL_holds_335 : decode cL_holds 335 = .ok (.iload 4, 2) := by decide +kernel
theorem dL_holds_337 : decode cL_holds 337 = .ok (.iconst 4, 1) := by decide +kernel
theorem dL_holds_338 : decode cL_holds 338 = .ok (.invokevirtual 27, 3) := by decide +kernel
theorem dL_holds_341 : decode cL_holds 341 = .ok (.iload 9, 2) := by decide +kernel
theorem dL_holds_343 : decode cL_holds 343 = .ok (.if_icmp .eq 5, 3) := by decide +kernel
theorem dL_holds_346 : decode cL_holds 346 = .ok (.iconst 0, 1) := by decide +kernel
theorem dL_holds_347 : decode cL_holds 347 = .ok (.ireturn, 1) := by decide +kernel
theorem dL_holds_348 : decode cL_holds 348 = .ok (.iload 5, 2) := by decide +kernel
theorem dL_holds_350 : decode cL_holds 350 = .ok (.ifCond .le 41, 3) := by decide +kernel
theorem dL_holds_353 : decode cL_holds 353 = .ok (.aload_n 0, 1) := by decide +kernel
theorem dL_holds_354 : decode cL_holds 354 = .ok (.iload 4, 2) := by decide +kernel
theorem dL_holds_356 : decode cL_holds 356 = .ok (.invokevirtual 48, 3) := by decide +kernel
theorem dL_holds_359 : decode cL_holds 359 = .ok (.aload_n 0, 1) := by decide +kernel
theorem dL_holds_360 : decode cL_holds 360 = .ok (.iload 4, 2) := by decide +kernel
theorem dL_holds_362 : decode cL_holds 362 = .ok (.iconst 0, 1) := by decide +kernel
theorem dL_holds_363 : decode cL_holds 363 = .ok (.iconst 0, 1) := by decide +kernel
theorem dL_holds_364 : decode cL_holds 364 = .ok (.invokevirtual 31, 3) := by decide +kernel
theorem dL_holds_367 : decode cL_holds 367 = .ok (.if_icmp .ne 35, 3) := by decide +kernel
theorem dL_holds_370 : decode cL_holds 370 = .ok (.aload_n 0, 1) := by decide +kernel
theorem dL_holds_371 : decode cL_holds 371 = .ok (.iconst 0, 1) := by decide +kernel
theorem dL_holds_372 : decode cL_holds 372 = .ok (.invokevirtual 44, 3) := by decide +kernel
theorem dL_holds_375 : decode cL_holds 375 = .ok (.aload_n 0, 1) := by decide +kernel
theorem dL_holds_376 : decode cL_holds 376 = .ok (.iload 4, 2) := by decide +kernel
theorem dL_holds_378 : decode cL_holds 378 = .ok (.iconst 0, 1) := by decide +kernel
theorem dL_holds_379 : decode cL_holds 379 = .ok (.iconst 1, 1) := by decide +kernel
theorem dL_holds_380 : decode cL_holds 380 = .ok (.invokevirtual 31, 3) := by decide +kernel
theorem dL_holds_383 : decode cL_holds 383 = .ok (.i2l, 1) := by decide +kernel
theorem dL_holds_384 : decode cL_holds 384 = .ok (.lcmp, 1) := by decide +kernel
theorem dL_holds_385 : decode cL_holds 385 = .ok (.ifCond .ge 19, 3) := by decide +kernel
theorem dL_holds_388 : decode cL_holds 388 = .ok (.goto 14, 3) := by decide +kernel
theorem dL_holds_391 : decode cL_holds 391 = .ok (.aload_n 0, 1) := by decide +kernel
theorem dL_holds_392 : decode cL_holds 392 = .ok (.iload 4, 2) := by decide +kernel
theorem dL_holds_394 : decode cL_holds 394 = .ok (.invokevirtual 48, 3) := by decide +kernel
theorem dL_holds_397 : decode cL_holds 397 = .ok (.bipush (-2), 2) := by decide +kernel
theorem dL_holds_399 : decode cL_holds 399 = .ok (.if_icmp .eq 5, 3) := by decide +kernel
theorem dL_holds_402 : decode cL_holds 402 = .ok (.iconst 0, 1) := by decide +kernel
theorem dL_holds_403 : decode cL_holds 403 = .ok (.ireturn, 1) := by decide +kernel
theorem dL_holds_404 : decode cL_holds 404 = .ok (.iload_n 1, 1) := by decide +kernel
theorem dL_holds_405 : decode cL_holds 405 = .ok (.iload 10, 2) := by decide +kernel
theorem dL_holds_407 : decode cL_holds 407 = .ok (.iadd, 1) := by decide +kernel
theorem dL_holds_408 : decode cL_holds 408 = .ok (.istore_n 1, 1) := by decide +kernel
theorem dL_holds_409 : decode cL_holds 409 = .ok (.iload_n 2, 1) := by decide +kernel
theorem dL_holds_410 : decode cL_holds 410 = .ok (.iload 6, 2) := by decide +kernel
theorem dL_holds_412 : decode cL_holds 412 = .ok (.iadd, 1) := by decide +kernel
theorem dL_holds_413 : decode cL_holds 413 = .ok (.istore_n 2, 1) := by decide +kernel
theorem dL_holds_414 : decode cL_holds 414 = .ok (.iload_n 3, 1) := by decide +kernel
theorem dL_holds_415 : decode cL_holds 415 = .ok (.iload 5, 2) := by decide +kernel
theorem dL_holds_417 : decode cL_holds 417 = .ok (.iadd, 1) := by decide +kernel
theorem dL_holds_418 : decode cL_holds 418 = .ok (.istore_n 3, 1) := by decide +kernel
theorem dL_holds_419 : decode cL_holds 419 = .ok (.iinc 4 1, 3) := by decide +kernel
theorem dL_holds_422 : decode cL_holds 422 = .ok (.goto (-413), 3) := by decide +kernel
theorem dL_holds_425 : decode cL_holds 425 = .ok (.iconst 0, 1) := by decide +kernel
theorem dL_holds_426 : decode cL_holds 426 = .ok (.istore 4, 2) := by decide +kernel
theorem dL_holds_428 : decode cL_holds 428 = .ok (.iconst 0, 1) := by decide +kernel
theorem dL_holds_429 : decode cL_holds 429 = .ok (.istore 5, 2) := by decide +kernel
theorem dL_holds_431 : decode cL_holds 431 = .ok (.iconst 0, 1) := by decide +kernel
theorem dL_holds_432 : decode cL_holds 432 = .ok (.istore 6, 2) := by decide +kernel
theorem dL_holds_434 : decode cL_holds 434 = .ok (.iload 6, 2) := by decide +kernel
theorem dL_holds_436 : decode cL_holds 436 = .ok (.bipush 6, 2) := by decide +kernel
theorem dL_holds_438 : decode cL_holds 438 = .ok (.if_icmp .ge 28, 3) := by decide +kernel
theorem dL_holds_441 : decode cL_holds 441 = .ok (.aload_n 0, 1) := by decide +kernel
theorem dL_holds_442 : decode cL_holds 442 = .ok (.iload 6, 2) := by decide +kernel
theorem dL_holds_444 : decode cL_holds 444 = .ok (.invokevirtual 41, 3) := by decide +kernel
theorem dL_holds_447 : decode cL_holds 447 = .ok (.pop, 1) := by decide +kernel
theorem dL_holds_448 : decode cL_holds 448 = .ok (.iload 4, 2) := by decide +kernel
theorem dL_holds_450 : decode cL_holds 450 = .ok (.i2l, 1) := by decide +kernel
theorem dL_holds_451 : decode cL_holds 451 = .ok (.aload_n 0, 1) := by decide +kernel
theorem dL_holds_452 : decode cL_holds 452 = .ok (.iconst 1, 1) := by decide +kernel
theorem dL_holds_453 : decode cL_holds 453 = .ok (.invokevirtual 44, 3) := by decide +kernel
theorem dL_holds_456 : decode cL_holds 456 = .ok (.ladd, 1) := by decide +kernel
theorem dL_holds_457 : decode cL_holds 457 = .ok (.l2i, 1) := by decide +kernel
theorem dL_holds_458 : decode cL_holds 458 = .ok (.istore 4, 2) := by decide +kernel
theorem dL_holds_460 : decode cL_holds 460 = .ok (.iinc 6 1, 3) := by decide +kernel
theorem dL_holds_463 : decode cL_holds 463 = .ok (.goto (-29), 3) := by decide +kernel
theorem dL_holds_466 : decode cL_holds 466 = .ok (.iconst 0, 1) := by decide +kernel
theorem dL_holds_467 : decode cL_holds 467 = .ok (.istore 6, 2) := by decide +kernel
theorem dL_holds_469 : decode cL_holds 469 = .ok (.iload 6, 2) := by decide +kernel
theorem dL_holds_471 : decode cL_holds 471 = .ok (.bipush 6, 2) := by decide +kernel
theorem dL_holds_473 : decode cL_holds 473 = .ok (.if_icmp .ge 20, 3) := by decide +kernel
theorem dL_holds_476 : decode cL_holds 476 = .ok (.iload 5, 2) := by decide +kernel
theorem dL_holds_478 : decode cL_holds 478 = .ok (.aload_n 0, 1) := by decide +kernel
theorem dL_holds_479 : decode cL_holds 479 = .ok (.iload 6, 2) := by decide +kernel
theorem dL_holds_481 : decode cL_holds 481 = .ok (.invokevirtual 51, 3) := by decide +kernel
theorem dL_holds_484 : decode cL_holds 484 = .ok (.iadd, 1) := by decide +kernel
theorem dL_holds_485 : decode cL_holds 485 = .ok (.istore 5, 2) := by decide +kernel
theorem dL_holds_487 : decode cL_holds 487 = .ok (.iinc 6 1, 3) := by decide +kernel
theorem dL_holds_490 : decode cL_holds 490 = .ok (.goto (-21), 3) := by decide +kernel
theorem dL_holds_493 : decode cL_holds 493 = .ok (.iload 5, 2) := by decide +kernel
theorem dL_holds_495 : decode cL_holds 495 = .ok (.iconst 2, 1) := by decide +kernel
theorem dL_holds_496 : decode cL_holds 496 = .ok (.iload 4, 2) := by decide +kernel
theorem dL_holds_498 : decode cL_holds 498 = .ok (.imul, 1) := by decide +kernel
theorem dL_holds_499 : decode cL_holds 499 = .ok (.if_icmp .ne 30, 3) := by decide +kernel
theorem dL_holds_502 : decode cL_holds 502 = .ok (.aload_n 0, 1) := by decide +kernel
theorem dL_holds_503 : decode cL_holds 503 = .ok (.invokevirtual 54, 3) := by decide +kernel
theorem dL_holds_506 : decode cL_holds 506 = .ok (.bipush (-2), 2) := by decide +kernel
theorem dL_holds_508 : decode cL_holds 508 = .ok (.if_icmp .ne 7, 3) := by decide +kernel
theorem dL_holds_511 : decode cL_holds 511 = .ok (.iconst 1, 1) := by decide +kernel
theorem dL_holds_512 : decode cL_holds 512 = .ok (.goto 4, 3) := by decide +kernel
theorem dL_holds_515 : decode cL_holds 515 = .ok (.iconst 0, 1) := by decide +kernel
theorem dL_holds_516 : decode cL_holds 516 = .ok (.iload 4, 2) := by decide +kernel
theorem dL_holds_518 : decode cL_holds 518 = .ok (.ifCond .ne 7, 3) := by decide +kernel
theorem dL_holds_521 : decode cL_holds 521 = .ok (.iconst 1, 1) := by decide +kernel
theorem dL_holds_522 : decode cL_holds 522 = .ok (.goto 4, 3) := by decide +kernel
theorem dL_holds_525 : decode cL_holds 525 = .ok (.iconst 0, 1) := by decide +kernel
theorem dL_holds_526 : decode cL_holds 526 = .ok (.if_icmp .eq 5, 3) := by decide +kernel
theorem dL_holds_529 : decode cL_holds 529 = .ok (.iconst 0, 1) := by decide +kernel
theorem dL_holds_530 : decode cL_holds 530 = .ok (.ireturn, 1) := by decide +kernel
theorem dL_holds_531 : decode cL_holds 531 = .ok (.aload_n 0, 1) := by decide +kernel
theorem dL_holds_532 : decode cL_holds 532 = .ok (.invokevirtual 57, 3) := by decide +kernel
theorem dL_holds_535 : decode cL_holds 535 = .ok (.iload_n 1, 1) := by decide +kernel
theorem dL_holds_536 : decode cL_holds 536 = .ok (.if_icmp .ne 44, 3) := by decide +kernel
theorem dL_holds_539 : decode cL_holds 539 = .ok (.aload_n 0, 1) := by decide +kernel
theorem dL_holds_540 : decode cL_holds 540 = .ok (.iconst 1, 1) := by decide +kernel
theorem dL_holds_541 : decode cL_holds 541 = .ok (.invokevirtual 60, 3) := by decide +kernel
theorem dL_holds_544 : decode cL_holds 544 = .ok (.iload_n 2, 1) := by decide +kernel
theorem dL_holds_545 : decode cL_holds 545 = .ok (.if_icmp .ne 35, 3) := by decide +kernel
theorem dL_holds_548 : decode cL_holds 548 = .ok (.aload_n 0, 1) := by decide +kernel
theorem dL_holds_549 : decode cL_holds 549 = .ok (.iconst 2, 1) := by decide +kernel
theorem dL_holds_550 : decode cL_holds 550 = .ok (.invokevirtual 60, 3) := by decide +kernel
theorem dL_holds_553 : decode cL_holds 553 = .ok (.iload_n 3, 1) := by decide +kernel
theorem dL_holds_554 : decode cL_holds 554 = .ok (.if_icmp .ne 26, 3) := by decide +kernel
theorem dL_holds_557 : decode cL_holds 557 = .ok (.aload_n 0, 1) := by decide +kernel
theorem dL_holds_558 : decode cL_holds 558 = .ok (.iconst 0, 1) := by decide +kernel
theorem dL_holds_559 : decode cL_holds 559 = .ok (.invokevirtual 63, 3) := by decide +kernel
theorem dL_holds_562 : decode cL_holds 562 = .ok (.iload_n 1, 1) := by decide +kernel
theorem dL_holds_563 : decode cL_holds 563 = .ok (.if_icmp .ne 17, 3) := by decide +kernel
theorem dL_holds_566 : decode cL_holds 566 = .ok (.aload_n 0, 1) := by decide +kernel
theorem dL_holds_567 : decode cL_holds 567 = .ok (.iconst 0, 1) := by decide +kernel
theorem dL_holds_568 : decode cL_holds 568 = .ok (.invokevirtual 44, 3) := by decide +kernel
theorem dL_holds_571 : decode cL_holds 571 = .ok (.lconst 0, 1) := by decide +kernel
theorem dL_holds_572 : decode cL_holds 572 = .ok (.lcmp, 1) := by decide +kernel
theorem dL_holds_573 : decode cL_holds 573 = .ok (.ifCond .ne 7, 3) := by decide +kernel
theorem dL_holds_576 : decode cL_holds 576 = .ok (.iconst 1, 1) := by decide +kernel
theorem dL_holds_577 : decode cL_holds 577 = .ok (.goto 4, 3) := by decide +kernel
theorem dL_holds_580 : decode cL_holds 580 = .ok (.iconst 0, 1) := by decide +kernel
theorem dL_holds_581 : decode cL_holds 581 = .ok (.ireturn, 1) := by decide +kernel
theorem v_L_holds : yL_holds.cls = RL ∧ yL_holds.cls ≠ "java/lang/invoke/MethodHandle" ∧ yL_holds.cls ≠ "java/lang/invoke/VarHandle" ∧ (parseMethodDescriptor yL_holds.desc).map (fun d => d.parameters.length) = some 1 := ⟨rfl, by decide +kernel, by decide +kernel, by decide +kernel⟩
noncomputable def k_L_holds_0 (κ : gb_K) : gb_C := (o_ci 0 (o_is 1 (o_ci 0 (o_is 2 (o_ci 0 (o_is 3 (o_ci 0 (o_is 4 (o_j [0, 1, 2, 3, 4] (κ 9))))))))))
theorem l_L_holds_0 : gb_Li (fun κ => k_L_holds_0 κ) := (gb_li (q_ci 0) (gb_li (q_is 1) (gb_li (q_ci 0) (gb_li (q_is 2) (gb_li (q_ci 0) (gb_li (q_is 3) (gb_li (q_ci 0) (gb_li (q_is 4) (q_j [0, 1, 2, 3, 4] 9)))))))))
theorem s_L_holds_0   {κ : gb_K} (hκ : ∀ q, gb_S RL cL_holds 15 (gb_rm 6 137) 2 q (κ q)) : gb_S RL cL_holds 15 (gb_rm 6 137) 2 0 (k_L_holds_0 κ) := (s_iconst (by decide +kernel) dL_holds_0 (s_isn 1 rfl (Nat.le_of_ble_eq_true rfl) dL_holds_1 (s_iconst (by decide +kernel) dL_holds_2 (s_isn 2 rfl (Nat.le_of_ble_eq_true rfl) dL_holds_3 (s_iconst (by decide +kernel) dL_holds_4 (s_isn 3 rfl (Nat.le_of_ble_eq_true rfl) dL_holds_5 (s_iconst (by decide +kernel) dL_holds_6 (s_is (Nat.le_of_ble_eq_true rfl) dL_holds_7 (s_j (hκ 9))))))))))
noncomputable def k_L_holds_85 (κ : gb_K) : gb_C := (o_ci 0 o_rz)
theorem l_L_holds_85 : gb_Li (fun κ => k_L_holds_85 κ) := (gb_li (q_ci 0) (gb_li0 _))
theorem s_L_holds_85   {κ : gb_K} (hκ : ∀ q, gb_S RL cL_holds 15 (gb_rm 6 137) 2 q (κ q)) : gb_S RL cL_holds 15 (gb_rm 6 137) 2 85 (k_L_holds_85 κ) := (s_iconst (by decide +kernel) dL_holds_85 (s_rz rfl dL_holds_86))
noncomputable def k_L_holds_82 (κ : gb_K) : gb_C := (o_ceq (o_ci 0 (o_is 10 (o_j [0, 1, 2, 3, 4, 5, 6, 7, 8, 9, 10] (κ 90)))) (k_L_holds_85 κ))
theorem l_L_holds_82 : gb_Li (fun κ => k_L_holds_82 κ) := (q_ceq (gb_li (q_ci 0) (gb_li (q_is 10) (q_j [0, 1, 2, 3, 4, 5, 6, 7, 8, 9, 10] 90))) (l_L_holds_85))
theorem s_L_holds_82   {κ : gb_K} (hκ : ∀ q, gb_S RL cL_holds 15 (gb_rm 6 137) 2 q (κ q)) : gb_S RL cL_holds 15 (gb_rm 6 137) 2 82 (k_L_holds_82 κ) := (s_ceq (tgt := 87) (by decide +kernel) dL_holds_82 (s_iconst (by decide +kernel) dL_holds_87 (s_is (Nat.le_of_ble_eq_true rfl) dL_holds_88 (s_j (hκ 90)))) (s_L_holds_85 hκ))
noncomputable def k_L_holds_72 (κ : gb_K) : gb_C := (o_il 6 (o_zeq (o_ci 1 (k_L_holds_82 κ)) (o_ci 0 (k_L_holds_82 κ))))
theorem l_L_holds_72 : gb_Li (fun κ => k_L_holds_72 κ) := (gb_li (q_il 6) (q_zeq (gb_li (q_ci 1) (l_L_holds_82)) (gb_li (q_ci 0) (l_L_holds_82))))
theorem s_L_holds_72   {κ : gb_K} (hκ : ∀ q, gb_S RL cL_holds 15 (gb_rm 6 137) 2 q (κ q)) : gb_S RL cL_holds 15 (gb_rm 6 137) 2 72 (k_L_holds_72 κ) := (s_il dL_holds_72 (s_zne (tgt := 81) (by decide +kernel) dL_holds_74 (s_iconst (by decide +kernel) dL_holds_81 (s_L_holds_82 hκ)) (s_iconst (by decide +kernel) dL_holds_77 (s_goto (tgt := 82) (by decide +kernel) dL_holds_78 (s_L_holds_82 hκ)))))
noncomputable def k_L_holds_67 (κ : gb_K) : gb_C := (o_ci 1 (k_L_holds_72 κ))
theorem l_L_holds_67 : gb_Li (fun κ => k_L_holds_67 κ) := (gb_li (q_ci 1) (l_L_holds_72))
theorem s_L_holds_67   {κ : gb_K} (hκ : ∀ q, gb_S RL cL_holds 15 (gb_rm 6 137) 2 q (κ q)) : gb_S RL cL_holds 15 (gb_rm 6 137) 2 67 (k_L_holds_67 κ) := (s_iconst (by decide +kernel) dL_holds_67 (s_goto (tgt := 72) (by decide +kernel) dL_holds_68 (s_L_holds_72 hκ)))
noncomputable def k_L_holds_71 (κ : gb_K) : gb_C := (o_ci 0 (k_L_holds_72 κ))
theorem l_L_holds_71 : gb_Li (fun κ => k_L_holds_71 κ) := (gb_li (q_ci 0) (l_L_holds_72))
theorem s_L_holds_71   {κ : gb_K} (hκ : ∀ q, gb_S RL cL_holds 15 (gb_rm 6 137) 2 q (κ q)) : gb_S RL cL_holds 15 (gb_rm 6 137) 2 71 (k_L_holds_71 κ) := (s_iconst (by decide +kernel) dL_holds_71 (s_L_holds_72 hκ))
noncomputable def k_L_holds_9 (κ : gb_K) : gb_C := (o_il 4 (o_ci 6 (o_cge (o_ci 0 (o_is 4 (o_ci 0 (o_is 5 (o_ci 0 (o_is 6 (o_j [0, 1, 2, 3, 4, 5, 6] (κ 434)))))))) (o_al 0 (o_il 4 (o_ci 2 (o_cv 2 9 1 f_X9_bin (o_is 5 (o_al 0 (o_il 4 (o_ci 1 (o_cv 2 9 1 f_X9_bin (o_is 6 (o_ci 0 (o_is 7 (o_ci 0 (o_is 8 (o_ci 0 (o_is 9 (o_il 6 (o_al 0 (o_il 4 (o_ci 0 (o_cv 2 9 1 f_X9_bin (o_cgt (k_L_holds_85 κ) (o_il 5 (o_ci 6 (o_cgt (k_L_holds_85 κ) (o_il 5 (o_zeq (k_L_holds_67 κ) (k_L_holds_71 κ)))))))))))))))))))))))))))))))
theorem l_L_holds_9 : gb_Li (fun κ => k_L_holds_9 κ) := (gb_li (q_il 4) (gb_li (q_ci 6) (q_cge (gb_li (q_ci 0) (gb_li (q_is 4) (gb_li (q_ci 0) (gb_li (q_is 5) (gb_li (q_ci 0) (gb_li (q_is 6) (q_j [0, 1, 2, 3, 4, 5, 6] 434))))))) (gb_li (q_al 0) (gb_li (q_il 4) (gb_li (q_ci 2) (gb_li (q_cv 2 9 1 f_X9_bin) (gb_li (q_is 5) (gb_li (q_al 0) (gb_li (q_il 4) (gb_li (q_ci 1) (gb_li (q_cv 2 9 1 f_X9_bin) (gb_li (q_is 6) (gb_li (q_ci 0) (gb_li (q_is 7) (gb_li (q_ci 0) (gb_li (q_is 8) (gb_li (q_ci 0) (gb_li (q_is 9) (gb_li (q_il 6) (gb_li (q_al 0) (gb_li (q_il 4) (gb_li (q_ci 0) (gb_li (q_cv 2 9 1 f_X9_bin) (q_cgt (l_L_holds_85) (gb_li (q_il 5) (gb_li (q_ci 6) (q_cgt (l_L_holds_85) (gb_li (q_il 5) (q_zeq (l_L_holds_67) (l_L_holds_71)))))))))))))))))))))))))))))))
theorem s_L_holds_9   {κ : gb_K} (hκ : ∀ q, gb_S RL cL_holds 15 (gb_rm 6 137) 2 q (κ q)) : gb_S RL cL_holds 15 (gb_rm 6 137) 2 9 (k_L_holds_9 κ) := (s_il dL_holds_9 (s_bipush (by decide +kernel) dL_holds_11 (s_cge (tgt := 425) (by decide +kernel) dL_holds_13 (s_iconst (by decide +kernel) dL_holds_425 (s_is (Nat.le_of_ble_eq_true rfl) dL_holds_426 (s_iconst (by decide +kernel) dL_holds_428 (s_is (Nat.le_of_ble_eq_true rfl) dL_holds_429 (s_iconst (by decide +kernel) dL_holds_431 (s_is (Nat.le_of_ble_eq_true rfl) dL_holds_432 (s_j (hκ 434)))))))) (s_aln 0 rfl dL_holds_16 (s_il dL_holds_17 (s_iconst (by decide +kernel) dL_holds_19 (s_cv (C := RX9) c_X9_bin rfl (gb_l5 gw_399 gw_400 gw_401 gw_258 gw_402) v_X9_bin ⟨rfl, rfl⟩ ⟨Nat.le_of_ble_eq_true rfl, Nat.le_of_ble_eq_true rfl⟩ dL_holds_20 (s_is (Nat.le_of_ble_eq_true rfl) dL_holds_23 (s_aln 0 rfl dL_holds_25 (s_il dL_holds_26 (s_iconst (by decide +kernel) dL_holds_28 (s_cv (C := RX9) c_X9_bin rfl (gb_l5 gw_399 gw_400 gw_401 gw_258 gw_402) v_X9_bin ⟨rfl, rfl⟩ ⟨Nat.le_of_ble_eq_true rfl, Nat.le_of_ble_eq_true rfl⟩ dL_holds_29 (s_is (Nat.le_of_ble_eq_true rfl) dL_holds_32 (s_iconst (by decide +kernel) dL_holds_34 (s_is (Nat.le_of_ble_eq_true rfl) dL_holds_35 (s_iconst (by decide +kernel) dL_holds_37 (s_is (Nat.le_of_ble_eq_true rfl) dL_holds_38 (s_iconst (by decide +kernel) dL_holds_40 (s_is (Nat.le_of_ble_eq_true rfl) dL_holds_41 (s_il dL_holds_43 (s_aln 0 rfl dL_holds_45 (s_il dL_holds_46 (s_iconst (by decide +kernel) dL_holds_48 (s_cv (C := RX9) c_X9_bin rfl (gb_l5 gw_399 gw_400 gw_401 gw_258 gw_402) v_X9_bin ⟨rfl, rfl⟩ ⟨Nat.le_of_ble_eq_true rfl, Nat.le_of_ble_eq_true rfl⟩ dL_holds_49 (s_cgt (tgt := 85) (by decide +kernel) dL_holds_52 (s_L_holds_85 hκ) (s_il dL_holds_55 (s_bipush (by decide +kernel) dL_holds_57 (s_cgt (tgt := 85) (by decide +kernel) dL_holds_59 (s_L_holds_85 hκ) (s_il dL_holds_62 (s_zne (tgt := 71) (by decide +kernel) dL_holds_64 (s_L_holds_71 hκ) (s_L_holds_67 hκ)))))))))))))))))))))))))))))))
noncomputable def k_L_holds_153 (κ : gb_K) : gb_C := (o_ci 0 o_rz)
theorem l_L_holds_153 : gb_Li (fun κ => k_L_holds_153 κ) := (gb_li (q_ci 0) (gb_li0 _))
theorem s_L_holds_153   {κ : gb_K} (hκ : ∀ q, gb_S RL cL_holds 15 (gb_rm 6 137) 2 q (κ q)) : gb_S RL cL_holds 15 (gb_rm 6 137) 2 153 (k_L_holds_153 κ) := (s_iconst (by decide +kernel) dL_holds_153 (s_rz rfl dL_holds_154))
noncomputable def k_L_holds_201 (κ : gb_K) : gb_C := (o_ci 0 (o_is 14 (o_j [0, 1, 2, 3, 4, 5, 6, 7, 8, 9, 10, 11, 12, 13, 14] (κ 204))))
theorem l_L_holds_201 : gb_Li (fun κ => k_L_holds_201 κ) := (gb_li (q_ci 0) (gb_li (q_is 14) (q_j [0, 1, 2, 3, 4, 5, 6, 7, 8, 9, 10, 11, 12, 13, 14] 204)))
theorem s_L_holds_201   {κ : gb_K} (hκ : ∀ q, gb_S RL cL_holds 15 (gb_rm 6 137) 2 q (κ q)) : gb_S RL cL_holds 15 (gb_rm 6 137) 2 201 (k_L_holds_201 κ) := (s_iconst (by decide +kernel) dL_holds_201 (s_is (Nat.le_of_ble_eq_true rfl) dL_holds_202 (s_j (hκ 204))))
noncomputable def k_L_holds_147 (κ : gb_K) : gb_C := (o_cv 2 9 1 f_X9_grade (o_cle (o_il 10 (o_zle (k_L_holds_201 κ) (o_il 11 (o_al 0 (o_il 4 (o_il 10 (o_ci 1 (o_ib (fun x y => x - y) (o_ci 0 (o_cv 3 9 1 f_X9_layer (o_ceq (o_al 0 (o_il 4 (o_il 10 (o_ci 2 (o_cv 3 9 1 f_X9_layer (o_al 0 (o_il 4 (o_il 10 (o_ci 1 (o_ib (fun x y => x - y) (o_ci 2 (o_cv 3 9 1 f_X9_layer (o_ceq (o_ci 0 o_rz) (k_L_holds_201 κ)))))))))))))) (k_L_holds_201 κ)))))))))))) (k_L_holds_153 κ)))
theorem l_L_holds_147 : gb_Li (fun κ => k_L_holds_147 κ) := (gb_li (q_cv 2 9 1 f_X9_grade) (q_cle (gb_li (q_il 10) (q_zle (l_L_holds_201) (gb_li (q_il 11) (gb_li (q_al 0) (gb_li (q_il 4) (gb_li (q_il 10) (gb_li (q_ci 1) (gb_li (q_ib _) (gb_li (q_ci 0) (gb_li (q_cv 3 9 1 f_X9_layer) (q_ceq (gb_li (q_al 0) (gb_li (q_il 4) (gb_li (q_il 10) (gb_li (q_ci 2) (gb_li (q_cv 3 9 1 f_X9_layer) (gb_li (q_al 0) (gb_li (q_il 4) (gb_li (q_il 10) (gb_li (q_ci 1) (gb_li (q_ib _) (gb_li (q_ci 2) (gb_li (q_cv 3 9 1 f_X9_layer) (q_ceq (gb_li (q_ci 0) (gb_li0 _)) (l_L_holds_201)))))))))))))) (l_L_holds_201)))))))))))) (l_L_holds_153)))
theorem s_L_holds_147   {κ : gb_K} (hκ : ∀ q, gb_S RL cL_holds 15 (gb_rm 6 137) 2 q (κ q)) : gb_S RL cL_holds 15 (gb_rm 6 137) 2 147 (k_L_holds_147 κ) := (s_cv (C := RX9) c_X9_grade rfl (gb_l5 gw_403 gw_404 gw_405 gw_258 gw_406) v_X9_grade ⟨rfl, rfl⟩ ⟨Nat.le_of_ble_eq_true rfl, Nat.le_of_ble_eq_true rfl⟩ dL_holds_147 (s_cle (tgt := 155) (by decide +kernel) dL_holds_150 (s_il dL_holds_155 (s_zle (tgt := 201) (by decide +kernel) dL_holds_157 (s_L_holds_201 hκ) (s_il dL_holds_160 (s_aln 0 rfl dL_holds_162 (s_il dL_holds_163 (s_il dL_holds_165 (s_iconst (by decide +kernel) dL_holds_167 (s_isub dL_holds_168 (s_iconst (by decide +kernel) dL_holds_169 (s_cv (C := RX9) c_X9_layer rfl (gb_l5 gw_407 gw_408 gw_409 gw_258 gw_410) v_X9_layer ⟨rfl, rfl⟩ ⟨Nat.le_of_ble_eq_true rfl, Nat.le_of_ble_eq_true rfl⟩ dL_holds_170 (s_cne (tgt := 201) (by decide +kernel) dL_holds_173 (s_L_holds_201 hκ) (s_aln 0 rfl dL_holds_176 (s_il dL_holds_177 (s_il dL_holds_179 (s_iconst (by decide +kernel) dL_holds_181 (s_cv (C := RX9) c_X9_layer rfl (gb_l5 gw_407 gw_408 gw_409 gw_258 gw_410) v_X9_layer ⟨rfl, rfl⟩ ⟨Nat.le_of_ble_eq_true rfl, Nat.le_of_ble_eq_true rfl⟩ dL_holds_182 (s_aln 0 rfl dL_holds_185 (s_il dL_holds_186 (s_il dL_holds_188 (s_iconst (by decide +kernel) dL_holds_190 (s_isub dL_holds_191 (s_iconst (by decide +kernel) dL_holds_192 (s_cv (C := RX9) c_X9_layer rfl (gb_l5 gw_407 gw_408 gw_409 gw_258 gw_410) v_X9_layer ⟨rfl, rfl⟩ ⟨Nat.le_of_ble_eq_true rfl, Nat.le_of_ble_eq_true rfl⟩ dL_holds_193 (s_cne (tgt := 201) (by decide +kernel) dL_holds_196 (s_L_holds_201 hκ) (s_iconst (by decide +kernel) dL_holds_199 (s_rz rfl dL_holds_200)))))))))))))))))))))))))) (s_L_holds_153 hκ)))
noncomputable def k_L_holds_346 (κ : gb_K) : gb_C := (o_ci 0 o_rz)
theorem l_L_holds_346 : gb_Li (fun κ => k_L_holds_346 κ) := (gb_li (q_ci 0) (gb_li0 _))
theorem s_L_holds_346   {κ : gb_K} (hκ : ∀ q, gb_S RL cL_holds 15 (gb_rm 6 137) 2 q (κ q)) : gb_S RL cL_holds 15 (gb_rm 6 137) 2 346 (k_L_holds_346 κ) := (s_iconst (by decide +kernel) dL_holds_346 (s_rz rfl dL_holds_347))
noncomputable def k_L_holds_402 (κ : gb_K) : gb_C := (o_ci 0 o_rz)
theorem l_L_holds_402 : gb_Li (fun κ => k_L_holds_402 κ) := (gb_li (q_ci 0) (gb_li0 _))
theorem s_L_holds_402   {κ : gb_K} (hκ : ∀ q, gb_S RL cL_holds 15 (gb_rm 6 137) 2 q (κ q)) : gb_S RL cL_holds 15 (gb_rm 6 137) 2 402 (k_L_holds_402 κ) := (s_iconst (by decide +kernel) dL_holds_402 (s_rz rfl dL_holds_403))
noncomputable def k_L_holds_404 (κ : gb_K) : gb_C := (o_il 1 (o_il 10 (o_ib (fun x y => x + y) (o_is 1 (o_il 2 (o_il 6 (o_ib (fun x y => x + y) (o_is 2 (o_il 3 (o_il 5 (o_ib (fun x y => x + y) (o_is 3 (o_inc 4 1 (o_j [0, 1, 2, 3, 4] (κ 9)))))))))))))))
theorem l_L_holds_404 : gb_Li (fun κ => k_L_holds_404 κ) := (gb_li (q_il 1) (gb_li (q_il 10) (gb_li (q_ib _) (gb_li (q_is 1) (gb_li (q_il 2) (gb_li (q_il 6) (gb_li (q_ib _) (gb_li (q_is 2) (gb_li (q_il 3) (gb_li (q_il 5) (gb_li (q_ib _) (gb_li (q_is 3) (gb_li (q_inc 4 1) (q_j [0, 1, 2, 3, 4] 9))))))))))))))
theorem s_L_holds_404   {κ : gb_K} (hκ : ∀ q, gb_S RL cL_holds 15 (gb_rm 6 137) 2 q (κ q)) : gb_S RL cL_holds 15 (gb_rm 6 137) 2 404 (k_L_holds_404 κ) := (s_iln 1 rfl dL_holds_404 (s_il dL_holds_405 (s_iadd dL_holds_407 (s_isn 1 rfl (Nat.le_of_ble_eq_true rfl) dL_holds_408 (s_iln 2 rfl dL_holds_409 (s_il dL_holds_410 (s_iadd dL_holds_412 (s_isn 2 rfl (Nat.le_of_ble_eq_true rfl) dL_holds_413 (s_iln 3 rfl dL_holds_414 (s_il dL_holds_415 (s_iadd dL_holds_417 (s_isn 3 rfl (Nat.le_of_ble_eq_true rfl) dL_holds_418 (s_inc (by decide +kernel) (Nat.le_of_ble_eq_true rfl) dL_holds_419 (s_goto (tgt := 9) (by decide +kernel) dL_holds_422 (s_j (hκ 9))))))))))))))))
noncomputable def k_L_holds_375 (κ : gb_K) : gb_C := (o_al 0 (o_il 4 (o_ci 0 (o_ci 1 (o_cv 3 9 1 f_X9_layer (o_i2l (o_lcmp (o_zge (k_L_holds_404 κ) (k_L_holds_402 κ)))))))))
theorem l_L_holds_375 : gb_Li (fun κ => k_L_holds_375 κ) := (gb_li (q_al 0) (gb_li (q_il 4) (gb_li (q_ci 0) (gb_li (q_ci 1) (gb_li (q_cv 3 9 1 f_X9_layer) (gb_li q_i2l (gb_li q_lcmp (q_zge (l_L_holds_404) (l_L_holds_402)))))))))
theorem s_L_holds_375   {κ : gb_K} (hκ : ∀ q, gb_S RL cL_holds 15 (gb_rm 6 137) 2 q (κ q)) : gb_S RL cL_holds 15 (gb_rm 6 137) 2 375 (k_L_holds_375 κ) := (s_aln 0 rfl dL_holds_375 (s_il dL_holds_376 (s_iconst (by decide +kernel) dL_holds_378 (s_iconst (by decide +kernel) dL_holds_379 (s_cv (C := RX9) c_X9_layer rfl (gb_l5 gw_407 gw_408 gw_409 gw_258 gw_410) v_X9_layer ⟨rfl, rfl⟩ ⟨Nat.le_of_ble_eq_true rfl, Nat.le_of_ble_eq_true rfl⟩ dL_holds_380 (s_i2l dL_holds_383 (s_lcmp dL_holds_384 (s_zge (tgt := 404) (by decide +kernel) dL_holds_385 (s_L_holds_404 hκ) (s_goto (tgt := 402) (by decide +kernel) dL_holds_388 (s_L_holds_402 hκ))))))))))
noncomputable def k_L_holds_317 (κ : gb_K) : gb_C := (o_lb (fun x y => x - y) (o_lcmp (o_zeq (o_al 0 (o_ci 2 (o_cv 1 9 3 f_X9_row (o_il 8 (o_i2l (o_lcmp (o_zlt (k_L_holds_346 κ) (o_al 0 (o_il 4 (o_ci 4 (o_cv 2 9 1 f_X9_bin (o_il 9 (o_ceq (o_il 5 (o_zle (o_al 0 (o_il 4 (o_cv 1 9 1 f_X9_bottom (o_ci (-2) (o_ceq (k_L_holds_404 κ) (k_L_holds_402 κ)))))) (o_al 0 (o_il 4 (o_cv 1 9 1 f_X9_bottom (o_al 0 (o_il 4 (o_ci 0 (o_ci 0 (o_cv 3 9 1 f_X9_layer (o_ceq (o_al 0 (o_ci 0 (o_cv 1 9 3 f_X9_row (k_L_holds_375 κ)))) (k_L_holds_402 κ)))))))))))) (k_L_holds_346 κ)))))))))))))) (k_L_holds_346 κ))))
theorem l_L_holds_317 : gb_Li (fun κ => k_L_holds_317 κ) := (gb_li (q_lb _) (gb_li q_lcmp (q_zeq (gb_li (q_al 0) (gb_li (q_ci 2) (gb_li (q_cv 1 9 3 f_X9_row) (gb_li (q_il 8) (gb_li q_i2l (gb_li q_lcmp (q_zlt (l_L_holds_346) (gb_li (q_al 0) (gb_li (q_il 4) (gb_li (q_ci 4) (gb_li (q_cv 2 9 1 f_X9_bin) (gb_li (q_il 9) (q_ceq (gb_li (q_il 5) (q_zle (gb_li (q_al 0) (gb_li (q_il 4) (gb_li (q_cv 1 9 1 f_X9_bottom) (gb_li (q_ci (-2)) (q_ceq (l_L_holds_404) (l_L_holds_402)))))) (gb_li (q_al 0) (gb_li (q_il 4) (gb_li (q_cv 1 9 1 f_X9_bottom) (gb_li (q_al 0) (gb_li (q_il 4) (gb_li (q_ci 0) (gb_li (q_ci 0) (gb_li (q_cv 3 9 1 f_X9_layer) (q_ceq (gb_li (q_al 0) (gb_li (q_ci 0) (gb_li (q_cv 1 9 3 f_X9_row) (l_L_holds_375)))) (l_L_holds_402)))))))))))) (l_L_holds_346)))))))))))))) (l_L_holds_346))))
theorem s_L_holds_317   {κ : gb_K} (hκ : ∀ q, gb_S RL cL_holds 15 (gb_rm 6 137) 2 q (κ q)) : gb_S RL cL_holds 15 (gb_rm 6 137) 2 317 (k_L_holds_317 κ) := (s_lsub dL_holds_317 (s_lcmp dL_holds_318 (s_zne (tgt := 346) (by decide +kernel) dL_holds_319 (s_L_holds_346 hκ) (s_aln 0 rfl dL_holds_322 (s_iconst (by decide +kernel) dL_holds_323 (s_cv (C := RX9) c_X9_row rfl (gb_l5 gw_411 gw_412 gw_413 gw_258 gw_414) v_X9_row ⟨rfl, rfl⟩ ⟨Nat.le_of_ble_eq_true rfl, Nat.le_of_ble_eq_true rfl⟩ dL_holds_324 (s_il dL_holds_327 (s_i2l dL_holds_329 (s_lcmp dL_holds_330 (s_zlt (tgt := 346) (by decide +kernel) dL_holds_331 (s_L_holds_346 hκ) (s_aln 0 rfl dL_holds_334 (s_il dL_holds_335 (s_iconst (by decide +kernel) dL_holds_337 (s_cv (C := RX9) c_X9_bin rfl (gb_l5 gw_399 gw_400 gw_401 gw_258 gw_402) v_X9_bin ⟨rfl, rfl⟩ ⟨Nat.le_of_ble_eq_true rfl, Nat.le_of_ble_eq_true rfl⟩ dL_holds_338 (s_il dL_holds_341 (s_ceq (tgt := 348) (by decide +kernel) dL_holds_343 (s_il dL_holds_348 (s_zle (tgt := 391) (by decide +kernel) dL_holds_350 (s_aln 0 rfl dL_holds_391 (s_il dL_holds_392 (s_cv (C := RX9) c_X9_bottom rfl (gb_l5 gw_415 gw_416 gw_417 gw_258 gw_418) v_X9_bottom ⟨rfl, rfl⟩ ⟨Nat.le_of_ble_eq_true rfl, Nat.le_of_ble_eq_true rfl⟩ dL_holds_394 (s_bipush (by decide +kernel) dL_holds_397 (s_ceq (tgt := 404) (by decide +kernel) dL_holds_399 (s_L_holds_404 hκ) (s_L_holds_402 hκ)))))) (s_aln 0 rfl dL_holds_353 (s_il dL_holds_354 (s_cv (C := RX9) c_X9_bottom rfl (gb_l5 gw_415 gw_416 gw_417 gw_258 gw_418) v_X9_bottom ⟨rfl, rfl⟩ ⟨Nat.le_of_ble_eq_true rfl, Nat.le_of_ble_eq_true rfl⟩ dL_holds_356 (s_aln 0 rfl dL_holds_359 (s_il dL_holds_360 (s_iconst (by decide +kernel) dL_holds_362 (s_iconst (by decide +kernel) dL_holds_363 (s_cv (C := RX9) c_X9_layer rfl (gb_l5 gw_407 gw_408 gw_409 gw_258 gw_410) v_X9_layer ⟨rfl, rfl⟩ ⟨Nat.le_of_ble_eq_true rfl, Nat.le_of_ble_eq_true rfl⟩ dL_holds_364 (s_cne (tgt := 402) (by decide +kernel) dL_holds_367 (s_L_holds_402 hκ) (s_aln 0 rfl dL_holds_370 (s_iconst (by decide +kernel) dL_holds_371 (s_cv (C := RX9) c_X9_row rfl (gb_l5 gw_411 gw_412 gw_413 gw_258 gw_414) v_X9_row ⟨rfl, rfl⟩ ⟨Nat.le_of_ble_eq_true rfl, Nat.le_of_ble_eq_true rfl⟩ dL_holds_372 (s_L_holds_375 hκ))))))))))))))) (s_L_holds_346 hκ)))))))))))))))))
noncomputable def k_L_holds_90 (κ : gb_K) : gb_C := (o_il 10 (o_il 5 (o_cge (o_al 0 (o_il 4 (o_cv 1 9 1 f_X9_value (o_is 10 (o_il 7 (o_il 6 (o_ceq (o_al 0 (o_ci 0 (o_cv 1 9 3 f_X9_row (o_il 8 (o_i2l (o_lcmp (o_zeq (o_al 0 (o_ci 1 (o_cv 1 9 3 f_X9_row (o_cl 0 (o_lcmp (o_zlt (k_L_holds_346 κ) (o_il 10 (o_i2l (o_il 8 (o_i2l (o_al 0 (o_ci 1 (o_cv 1 9 3 f_X9_row (k_L_holds_317 κ)))))))))))))) (k_L_holds_346 κ)))))))) (k_L_holds_346 κ)))))))) (o_al 0 (o_il 4 (o_il 10 (o_ci 0 (o_cv 3 9 1 f_X9_layer (o_is 11 (o_al 0 (o_il 4 (o_il 10 (o_ci 1 (o_cv 3 9 1 f_X9_layer (o_is 12 (o_al 0 (o_il 4 (o_il 10 (o_ci 3 (o_cv 3 9 1 f_X9_layer (o_is 13 (o_il 12 (o_ci 1 (o_clt (k_L_holds_153 κ) (o_il 13 (o_zlt (k_L_holds_153 κ) (o_il 13 (o_al 0 (o_il 11 (o_ci 0 (k_L_holds_147 κ)))))))))))))))))))))))))))))))
theorem l_L_holds_90 : gb_Li (fun κ => k_L_holds_90 κ) := (gb_li (q_il 10) (gb_li (q_il 5) (q_cge (gb_li (q_al 0) (gb_li (q_il 4) (gb_li (q_cv 1 9 1 f_X9_value) (gb_li (q_is 10) (gb_li (q_il 7) (gb_li (q_il 6) (q_ceq (gb_li (q_al 0) (gb_li (q_ci 0) (gb_li (q_cv 1 9 3 f_X9_row) (gb_li (q_il 8) (gb_li q_i2l (gb_li q_lcmp (q_zeq (gb_li (q_al 0) (gb_li (q_ci 1) (gb_li (q_cv 1 9 3 f_X9_row) (gb_li (q_cl 0) (gb_li q_lcmp (q_zlt (l_L_holds_346) (gb_li (q_il 10) (gb_li q_i2l (gb_li (q_il 8) (gb_li q_i2l (gb_li (q_al 0) (gb_li (q_ci 1) (gb_li (q_cv 1 9 3 f_X9_row) (l_L_holds_317)))))))))))))) (l_L_holds_346)))))))) (l_L_holds_346)))))))) (gb_li (q_al 0) (gb_li (q_il 4) (gb_li (q_il 10) (gb_li (q_ci 0) (gb_li (q_cv 3 9 1 f_X9_layer) (gb_li (q_is 11) (gb_li (q_al 0) (gb_li (q_il 4) (gb_li (q_il 10) (gb_li (q_ci 1) (gb_li (q_cv 3 9 1 f_X9_layer) (gb_li (q_is 12) (gb_li (q_al 0) (gb_li (q_il 4) (gb_li (q_il 10) (gb_li (q_ci 3) (gb_li (q_cv 3 9 1 f_X9_layer) (gb_li (q_is 13) (gb_li (q_il 12) (gb_li (q_ci 1) (q_clt (l_L_holds_153) (gb_li (q_il 13) (q_zlt (l_L_holds_153) (gb_li (q_il 13) (gb_li (q_al 0) (gb_li (q_il 11) (gb_li (q_ci 0) (l_L_holds_147)))))))))))))))))))))))))))))))
theorem s_L_holds_90   {κ : gb_K} (hκ : ∀ q, gb_S RL cL_holds 15 (gb_rm 6 137) 2 q (κ q)) : gb_S RL cL_holds 15 (gb_rm 6 137) 2 90 (k_L_holds_90 κ) := (s_il dL_holds_90 (s_il dL_holds_92 (s_cge (tgt := 269) (by decide +kernel) dL_holds_94 (s_aln 0 rfl dL_holds_269 (s_il dL_holds_270 (s_cv (C := RX9) c_X9_value rfl (gb_l5 gw_419 gw_420 gw_421 gw_258 gw_422) v_X9_value ⟨rfl, rfl⟩ ⟨Nat.le_of_ble_eq_true rfl, Nat.le_of_ble_eq_true rfl⟩ dL_holds_272 (s_is (Nat.le_of_ble_eq_true rfl) dL_holds_275 (s_il dL_holds_277 (s_il dL_holds_279 (s_cne (tgt := 346) (by decide +kernel) dL_holds_281 (s_L_holds_346 hκ) (s_aln 0 rfl dL_holds_284 (s_iconst (by decide +kernel) dL_holds_285 (s_cv (C := RX9) c_X9_row rfl (gb_l5 gw_411 gw_412 gw_413 gw_258 gw_414) v_X9_row ⟨rfl, rfl⟩ ⟨Nat.le_of_ble_eq_true rfl, Nat.le_of_ble_eq_true rfl⟩ dL_holds_286 (s_il dL_holds_289 (s_i2l dL_holds_291 (s_lcmp dL_holds_292 (s_zne (tgt := 346) (by decide +kernel) dL_holds_293 (s_L_holds_346 hκ) (s_aln 0 rfl dL_holds_296 (s_iconst (by decide +kernel) dL_holds_297 (s_cv (C := RX9) c_X9_row rfl (gb_l5 gw_411 gw_412 gw_413 gw_258 gw_414) v_X9_row ⟨rfl, rfl⟩ ⟨Nat.le_of_ble_eq_true rfl, Nat.le_of_ble_eq_true rfl⟩ dL_holds_298 (s_lconst (by decide +kernel) dL_holds_301 (s_lcmp dL_holds_302 (s_zlt (tgt := 346) (by decide +kernel) dL_holds_303 (s_L_holds_346 hκ) (s_il dL_holds_306 (s_i2l dL_holds_308 (s_il dL_holds_309 (s_i2l dL_holds_311 (s_aln 0 rfl dL_holds_312 (s_iconst (by decide +kernel) dL_holds_313 (s_cv (C := RX9) c_X9_row rfl (gb_l5 gw_411 gw_412 gw_413 gw_258 gw_414) v_X9_row ⟨rfl, rfl⟩ ⟨Nat.le_of_ble_eq_true rfl, Nat.le_of_ble_eq_true rfl⟩ dL_holds_314 (s_L_holds_317 hκ)))))))))))))))))))))))))))) (s_aln 0 rfl dL_holds_97 (s_il dL_holds_98 (s_il dL_holds_100 (s_iconst (by decide +kernel) dL_holds_102 (s_cv (C := RX9) c_X9_layer rfl (gb_l5 gw_407 gw_408 gw_409 gw_258 gw_410) v_X9_layer ⟨rfl, rfl⟩ ⟨Nat.le_of_ble_eq_true rfl, Nat.le_of_ble_eq_true rfl⟩ dL_holds_103 (s_is (Nat.le_of_ble_eq_true rfl) dL_holds_106 (s_aln 0 rfl dL_holds_108 (s_il dL_holds_109 (s_il dL_holds_111 (s_iconst (by decide +kernel) dL_holds_113 (s_cv (C := RX9) c_X9_layer rfl (gb_l5 gw_407 gw_408 gw_409 gw_258 gw_410) v_X9_layer ⟨rfl, rfl⟩ ⟨Nat.le_of_ble_eq_true rfl, Nat.le_of_ble_eq_true rfl⟩ dL_holds_114 (s_is (Nat.le_of_ble_eq_true rfl) dL_holds_117 (s_aln 0 rfl dL_holds_119 (s_il dL_holds_120 (s_il dL_holds_122 (s_iconst (by decide +kernel) dL_holds_124 (s_cv (C := RX9) c_X9_layer rfl (gb_l5 gw_407 gw_408 gw_409 gw_258 gw_410) v_X9_layer ⟨rfl, rfl⟩ ⟨Nat.le_of_ble_eq_true rfl, Nat.le_of_ble_eq_true rfl⟩ dL_holds_125 (s_is (Nat.le_of_ble_eq_true rfl) dL_holds_128 (s_il dL_holds_130 (s_iconst (by decide +kernel) dL_holds_132 (s_clt (tgt := 153) (by decide +kernel) dL_holds_133 (s_L_holds_153 hκ) (s_il dL_holds_136 (s_zlt (tgt := 153) (by decide +kernel) dL_holds_138 (s_L_holds_153 hκ) (s_il dL_holds_141 (s_aln 0 rfl dL_holds_143 (s_il dL_holds_144 (s_iconst (by decide +kernel) dL_holds_146 (s_L_holds_147 hκ)))))))))))))))))))))))))))))))
noncomputable def k_L_holds_204 (κ : gb_K) : gb_C := (o_il 14 (o_il 10 (o_cge (o_il 7 (o_il 12 (o_ib (fun x y => x + y) (o_is 7 (o_il 8 (o_il 12 (o_il 13 (o_ib (fun x y => x * y) (o_ib (fun x y => x + y) (o_is 8 (o_il 9 (o_ci 1 (o_il 11 (o_ib (fun x y => x <<< (y &&& 31)) (o_ib (fun x y => x ||| y) (o_is 9 (o_inc 10 1 (o_j [0, 1, 2, 3, 4, 5, 6, 7, 8, 9, 10] (κ 90))))))))))))))))))) (o_al 0 (o_il 11 (o_al 0 (o_il 4 (o_il 14 (o_ci 0 (o_cv 3 9 1 f_X9_layer (o_cv 2 9 1 f_X9_pair (o_zge (o_inc 14 1 (o_j [0, 1, 2, 3, 4, 5, 6, 7, 8, 9, 10, 11, 12, 13, 14] (κ 204))) (o_ci 0 o_rz)))))))))))))
theorem l_L_holds_204 : gb_Li (fun κ => k_L_holds_204 κ) := (gb_li (q_il 14) (gb_li (q_il 10) (q_cge (gb_li (q_il 7) (gb_li (q_il 12) (gb_li (q_ib _) (gb_li (q_is 7) (gb_li (q_il 8) (gb_li (q_il 12) (gb_li (q_il 13) (gb_li (q_ib _) (gb_li (q_ib _) (gb_li (q_is 8) (gb_li (q_il 9) (gb_li (q_ci 1) (gb_li (q_il 11) (gb_li (q_ib _) (gb_li (q_ib _) (gb_li (q_is 9) (gb_li (q_inc 10 1) (q_j [0, 1, 2, 3, 4, 5, 6, 7, 8, 9, 10] 90)))))))))))))))))) (gb_li (q_al 0) (gb_li (q_il 11) (gb_li (q_al 0) (gb_li (q_il 4) (gb_li (q_il 14) (gb_li (q_ci 0) (gb_li (q_cv 3 9 1 f_X9_layer) (gb_li (q_cv 2 9 1 f_X9_pair) (q_zge (gb_li (q_inc 14 1) (q_j [0, 1, 2, 3, 4, 5, 6, 7, 8, 9, 10, 11, 12, 13, 14] 204)) (gb_li (q_ci 0) (gb_li0 _))))))))))))))
theorem s_L_holds_204   {κ : gb_K} (hκ : ∀ q, gb_S RL cL_holds 15 (gb_rm 6 137) 2 q (κ q)) : gb_S RL cL_holds 15 (gb_rm 6 137) 2 204 (k_L_holds_204 κ) := (s_il dL_holds_204 (s_il dL_holds_206 (s_cge (tgt := 237) (by decide +kernel) dL_holds_208 (s_il dL_holds_237 (s_il dL_holds_239 (s_iadd dL_holds_241 (s_is (Nat.le_of_ble_eq_true rfl) dL_holds_242 (s_il dL_holds_244 (s_il dL_holds_246 (s_il dL_holds_248 (s_imul dL_holds_250 (s_iadd dL_holds_251 (s_is (Nat.le_of_ble_eq_true rfl) dL_holds_252 (s_il dL_holds_254 (s_iconst (by decide +kernel) dL_holds_256 (s_il dL_holds_257 (s_ishl dL_holds_259 (s_ior dL_holds_260 (s_is (Nat.le_of_ble_eq_true rfl) dL_holds_261 (s_inc (by decide +kernel) (Nat.le_of_ble_eq_true rfl) dL_holds_263 (s_goto (tgt := 90) (by decide +kernel) dL_holds_266 (s_j (hκ 90)))))))))))))))))))) (s_aln 0 rfl dL_holds_211 (s_il dL_holds_212 (s_aln 0 rfl dL_holds_214 (s_il dL_holds_215 (s_il dL_holds_217 (s_iconst (by decide +kernel) dL_holds_219 (s_cv (C := RX9) c_X9_layer rfl (gb_l5 gw_407 gw_408 gw_409 gw_258 gw_410) v_X9_layer ⟨rfl, rfl⟩ ⟨Nat.le_of_ble_eq_true rfl, Nat.le_of_ble_eq_true rfl⟩ dL_holds_220 (s_cv (C := RX9) c_X9_pair rfl (gb_l5 gw_423 gw_424 gw_425 gw_258 gw_426) v_X9_pair ⟨rfl, rfl⟩ ⟨Nat.le_of_ble_eq_true rfl, Nat.le_of_ble_eq_true rfl⟩ dL_holds_223 (s_zge (tgt := 231) (by decide +kernel) dL_holds_226 (s_inc (by decide +kernel) (Nat.le_of_ble_eq_true rfl) dL_holds_231 (s_goto (tgt := 204) (by decide +kernel) dL_holds_234 (s_j (hκ 204)))) (s_iconst (by decide +kernel) dL_holds_229 (s_rz rfl dL_holds_230))))))))))))))
noncomputable def k_L_holds_434 (κ : gb_K) : gb_C := (o_il 6 (o_ci 6 (o_cge (o_ci 0 (o_is 6 (o_j [0, 1, 2, 3, 4, 5, 6] (κ 469)))) (o_al 0 (o_il 6 (o_cv 1 9 1 f_X9_value (o_pop (o_il 4 (o_i2l (o_al 0 (o_ci 1 (o_cv 1 9 3 f_X9_row (o_lb (fun x y => x + y) (o_l2i (o_is 4 (o_inc 6 1 (o_j [0, 1, 2, 3, 4, 5, 6] (κ 434))))))))))))))))))
theorem l_L_holds_434 : gb_Li (fun κ => k_L_holds_434 κ) := (gb_li (q_il 6) (gb_li (q_ci 6) (q_cge (gb_li (q_ci 0) (gb_li (q_is 6) (q_j [0, 1, 2, 3, 4, 5, 6] 469))) (gb_li (q_al 0) (gb_li (q_il 6) (gb_li (q_cv 1 9 1 f_X9_value) (gb_li q_pop (gb_li (q_il 4) (gb_li q_i2l (gb_li (q_al 0) (gb_li (q_ci 1) (gb_li (q_cv 1 9 3 f_X9_row) (gb_li (q_lb _) (gb_li q_l2i (gb_li (q_is 4) (gb_li (q_inc 6 1) (q_j [0, 1, 2, 3, 4, 5, 6] 434)))))))))))))))))
theorem s_L_holds_434   {κ : gb_K} (hκ : ∀ q, gb_S RL cL_holds 15 (gb_rm 6 137) 2 q (κ q)) : gb_S RL cL_holds 15 (gb_rm 6 137) 2 434 (k_L_holds_434 κ) := (s_il dL_holds_434 (s_bipush (by decide +kernel) dL_holds_436 (s_cge (tgt := 466) (by decide +kernel) dL_holds_438 (s_iconst (by decide +kernel) dL_holds_466 (s_is (Nat.le_of_ble_eq_true rfl) dL_holds_467 (s_j (hκ 469)))) (s_aln 0 rfl dL_holds_441 (s_il dL_holds_442 (s_cv (C := RX9) c_X9_value rfl (gb_l5 gw_419 gw_420 gw_421 gw_258 gw_422) v_X9_value ⟨rfl, rfl⟩ ⟨Nat.le_of_ble_eq_true rfl, Nat.le_of_ble_eq_true rfl⟩ dL_holds_444 (s_pop dL_holds_447 (s_il dL_holds_448 (s_i2l dL_holds_450 (s_aln 0 rfl dL_holds_451 (s_iconst (by decide +kernel) dL_holds_452 (s_cv (C := RX9) c_X9_row rfl (gb_l5 gw_411 gw_412 gw_413 gw_258 gw_414) v_X9_row ⟨rfl, rfl⟩ ⟨Nat.le_of_ble_eq_true rfl, Nat.le_of_ble_eq_true rfl⟩ dL_holds_453 (s_ladd dL_holds_456 (s_l2i dL_holds_457 (s_is (Nat.le_of_ble_eq_true rfl) dL_holds_458 (s_inc (by decide +kernel) (Nat.le_of_ble_eq_true rfl) dL_holds_460 (s_goto (tgt := 434) (by decide +kernel) dL_holds_463 (s_j (hκ 434)))))))))))))))))))
noncomputable def k_L_holds_529 (κ : gb_K) : gb_C := (o_ci 0 o_rz)
theorem l_L_holds_529 : gb_Li (fun κ => k_L_holds_529 κ) := (gb_li (q_ci 0) (gb_li0 _))
theorem s_L_holds_529   {κ : gb_K} (hκ : ∀ q, gb_S RL cL_holds 15 (gb_rm 6 137) 2 q (κ q)) : gb_S RL cL_holds 15 (gb_rm 6 137) 2 529 (k_L_holds_529 κ) := (s_iconst (by decide +kernel) dL_holds_529 (s_rz rfl dL_holds_530))
noncomputable def k_L_holds_581 (κ : gb_K) : gb_C := o_rz
theorem l_L_holds_581 : gb_Li (fun κ => k_L_holds_581 κ) := (gb_li0 _)
theorem s_L_holds_581   {κ : gb_K} (hκ : ∀ q, gb_S RL cL_holds 15 (gb_rm 6 137) 2 q (κ q)) : gb_S RL cL_holds 15 (gb_rm 6 137) 2 581 (k_L_holds_581 κ) := (s_rz rfl dL_holds_581)
noncomputable def k_L_holds_580 (κ : gb_K) : gb_C := (o_ci 0 (k_L_holds_581 κ))
theorem l_L_holds_580 : gb_Li (fun κ => k_L_holds_580 κ) := (gb_li (q_ci 0) (l_L_holds_581))
theorem s_L_holds_580   {κ : gb_K} (hκ : ∀ q, gb_S RL cL_holds 15 (gb_rm 6 137) 2 q (κ q)) : gb_S RL cL_holds 15 (gb_rm 6 137) 2 580 (k_L_holds_580 κ) := (s_iconst (by decide +kernel) dL_holds_580 (s_L_holds_581 hκ))
noncomputable def k_L_holds_526 (κ : gb_K) : gb_C := (o_ceq (o_al 0 (o_cv 0 9 1 f_X9_all (o_il 1 (o_ceq (o_al 0 (o_ci 1 (o_cv 1 9 1 f_X9_count (o_il 2 (o_ceq (o_al 0 (o_ci 2 (o_cv 1 9 1 f_X9_count (o_il 3 (o_ceq (o_al 0 (o_ci 0 (o_cv 1 9 1 f_X9_then (o_il 1 (o_ceq (o_al 0 (o_ci 0 (o_cv 1 9 3 f_X9_row (o_cl 0 (o_lcmp (o_zeq (o_ci 1 (k_L_holds_581 κ)) (k_L_holds_580 κ))))))) (k_L_holds_580 κ)))))) (k_L_holds_580 κ)))))) (k_L_holds_580 κ)))))) (k_L_holds_580 κ))))) (k_L_holds_529 κ))
theorem l_L_holds_526 : gb_Li (fun κ => k_L_holds_526 κ) := (q_ceq (gb_li (q_al 0) (gb_li (q_cv 0 9 1 f_X9_all) (gb_li (q_il 1) (q_ceq (gb_li (q_al 0) (gb_li (q_ci 1) (gb_li (q_cv 1 9 1 f_X9_count) (gb_li (q_il 2) (q_ceq (gb_li (q_al 0) (gb_li (q_ci 2) (gb_li (q_cv 1 9 1 f_X9_count) (gb_li (q_il 3) (q_ceq (gb_li (q_al 0) (gb_li (q_ci 0) (gb_li (q_cv 1 9 1 f_X9_then) (gb_li (q_il 1) (q_ceq (gb_li (q_al 0) (gb_li (q_ci 0) (gb_li (q_cv 1 9 3 f_X9_row) (gb_li (q_cl 0) (gb_li q_lcmp (q_zeq (gb_li (q_ci 1) (l_L_holds_581)) (l_L_holds_580))))))) (l_L_holds_580)))))) (l_L_holds_580)))))) (l_L_holds_580)))))) (l_L_holds_580))))) (l_L_holds_529))
theorem s_L_holds_526   {κ : gb_K} (hκ : ∀ q, gb_S RL cL_holds 15 (gb_rm 6 137) 2 q (κ q)) : gb_S RL cL_holds 15 (gb_rm 6 137) 2 526 (k_L_holds_526 κ) := (s_ceq (tgt := 531) (by decide +kernel) dL_holds_526 (s_aln 0 rfl dL_holds_531 (s_cv (C := RX9) c_X9_all rfl (gb_l5 gw_427 gw_428 gw_429 gw_258 gw_430) v_X9_all ⟨rfl, rfl⟩ ⟨Nat.le_of_ble_eq_true rfl, Nat.le_of_ble_eq_true rfl⟩ dL_holds_532 (s_iln 1 rfl dL_holds_535 (s_cne (tgt := 580) (by decide +kernel) dL_holds_536 (s_L_holds_580 hκ) (s_aln 0 rfl dL_holds_539 (s_iconst (by decide +kernel) dL_holds_540 (s_cv (C := RX9) c_X9_count rfl (gb_l5 gw_431 gw_432 gw_433 gw_258 gw_434) v_X9_count ⟨rfl, rfl⟩ ⟨Nat.le_of_ble_eq_true rfl, Nat.le_of_ble_eq_true rfl⟩ dL_holds_541 (s_iln 2 rfl dL_holds_544 (s_cne (tgt := 580) (by decide +kernel) dL_holds_545 (s_L_holds_580 hκ) (s_aln 0 rfl dL_holds_548 (s_iconst (by decide +kernel) dL_holds_549 (s_cv (C := RX9) c_X9_count rfl (gb_l5 gw_431 gw_432 gw_433 gw_258 gw_434) v_X9_count ⟨rfl, rfl⟩ ⟨Nat.le_of_ble_eq_true rfl, Nat.le_of_ble_eq_true rfl⟩ dL_holds_550 (s_iln 3 rfl dL_holds_553 (s_cne (tgt := 580) (by decide +kernel) dL_holds_554 (s_L_holds_580 hκ) (s_aln 0 rfl dL_holds_557 (s_iconst (by decide +kernel) dL_holds_558 (s_cv (C := RX9) c_X9_then rfl (gb_l5 gw_435 gw_436 gw_437 gw_258 gw_438) v_X9_then ⟨rfl, rfl⟩ ⟨Nat.le_of_ble_eq_true rfl, Nat.le_of_ble_eq_true rfl⟩ dL_holds_559 (s_iln 1 rfl dL_holds_562 (s_cne (tgt := 580) (by decide +kernel) dL_holds_563 (s_L_holds_580 hκ) (s_aln 0 rfl dL_holds_566 (s_iconst (by decide +kernel) dL_holds_567 (s_cv (C := RX9) c_X9_row rfl (gb_l5 gw_411 gw_412 gw_413 gw_258 gw_414) v_X9_row ⟨rfl, rfl⟩ ⟨Nat.le_of_ble_eq_true rfl, Nat.le_of_ble_eq_true rfl⟩ dL_holds_568 (s_lconst (by decide +kernel) dL_holds_571 (s_lcmp dL_holds_572 (s_zne (tgt := 580) (by decide +kernel) dL_holds_573 (s_L_holds_580 hκ) (s_iconst (by decide +kernel) dL_holds_576 (s_goto (tgt := 581) (by decide +kernel) dL_holds_577 (s_L_holds_581 hκ)))))))))))))))))))))))))))) (s_L_holds_529 hκ))
noncomputable def k_L_holds_516 (κ : gb_K) : gb_C := (o_il 4 (o_zeq (o_ci 1 (k_L_holds_526 κ)) (o_ci 0 (k_L_holds_526 κ))))
theorem l_L_holds_516 : gb_Li (fun κ => k_L_holds_516 κ) := (gb_li (q_il 4) (q_zeq (gb_li (q_ci 1) (l_L_holds_526)) (gb_li (q_ci 0) (l_L_holds_526))))
theorem s_L_holds_516   {κ : gb_K} (hκ : ∀ q, gb_S RL cL_holds 15 (gb_rm 6 137) 2 q (κ q)) : gb_S RL cL_holds 15 (gb_rm 6 137) 2 516 (k_L_holds_516 κ) := (s_il dL_holds_516 (s_zne (tgt := 525) (by decide +kernel) dL_holds_518 (s_iconst (by decide +kernel) dL_holds_525 (s_L_holds_526 hκ)) (s_iconst (by decide +kernel) dL_holds_521 (s_goto (tgt := 526) (by decide +kernel) dL_holds_522 (s_L_holds_526 hκ)))))
noncomputable def k_L_holds_469 (κ : gb_K) : gb_C := (o_il 6 (o_ci 6 (o_cge (o_il 5 (o_ci 2 (o_il 4 (o_ib (fun x y => x * y) (o_ceq (o_al 0 (o_cv 0 9 1 f_X9_worst (o_ci (-2) (o_ceq (o_ci 1 (k_L_holds_516 κ)) (o_ci 0 (k_L_holds_516 κ)))))) (k_L_holds_529 κ)))))) (o_il 5 (o_al 0 (o_il 6 (o_cv 1 9 1 f_X9_mixed (o_ib (fun x y => x + y) (o_is 5 (o_inc 6 1 (o_j [0, 1, 2, 3, 4, 5, 6] (κ 469))))))))))))
theorem l_L_holds_469 : gb_Li (fun κ => k_L_holds_469 κ) := (gb_li (q_il 6) (gb_li (q_ci 6) (q_cge (gb_li (q_il 5) (gb_li (q_ci 2) (gb_li (q_il 4) (gb_li (q_ib _) (q_ceq (gb_li (q_al 0) (gb_li (q_cv 0 9 1 f_X9_worst) (gb_li (q_ci (-2)) (q_ceq (gb_li (q_ci 1) (l_L_holds_516)) (gb_li (q_ci 0) (l_L_holds_516)))))) (l_L_holds_529)))))) (gb_li (q_il 5) (gb_li (q_al 0) (gb_li (q_il 6) (gb_li (q_cv 1 9 1 f_X9_mixed) (gb_li (q_ib _) (gb_li (q_is 5) (gb_li (q_inc 6 1) (q_j [0, 1, 2, 3, 4, 5, 6] 469)))))))))))
theorem s_L_holds_469   {κ : gb_K} (hκ : ∀ q, gb_S RL cL_holds 15 (gb_rm 6 137) 2 q (κ q)) : gb_S RL cL_holds 15 (gb_rm 6 137) 2 469 (k_L_holds_469 κ) := (s_il dL_holds_469 (s_bipush (by decide +kernel) dL_holds_471 (s_cge (tgt := 493) (by decide +kernel) dL_holds_473 (s_il dL_holds_493 (s_iconst (by decide +kernel) dL_holds_495 (s_il dL_holds_496 (s_imul dL_holds_498 (s_cne (tgt := 529) (by decide +kernel) dL_holds_499 (s_L_holds_529 hκ) (s_aln 0 rfl dL_holds_502 (s_cv (C := RX9) c_X9_worst rfl (gb_l5 gw_439 gw_440 gw_441 gw_258 gw_442) v_X9_worst ⟨rfl, rfl⟩ ⟨Nat.le_of_ble_eq_true rfl, Nat.le_of_ble_eq_true rfl⟩ dL_holds_503 (s_bipush (by decide +kernel) dL_holds_506 (s_cne (tgt := 515) (by decide +kernel) dL_holds_508 (s_iconst (by decide +kernel) dL_holds_515 (s_L_holds_516 hκ)) (s_iconst (by decide +kernel) dL_holds_511 (s_goto (tgt := 516) (by decide +kernel) dL_holds_512 (s_L_holds_516 hκ)))))))))))) (s_il dL_holds_476 (s_aln 0 rfl dL_holds_478 (s_il dL_holds_479 (s_cv (C := RX9) c_X9_mixed rfl (gb_l5 gw_443 gw_444 gw_445 gw_258 gw_446) v_X9_mixed ⟨rfl, rfl⟩ ⟨Nat.le_of_ble_eq_true rfl, Nat.le_of_ble_eq_true rfl⟩ dL_holds_481 (s_iadd dL_holds_484 (s_is (Nat.le_of_ble_eq_true rfl) dL_holds_485 (s_inc (by decide +kernel) (Nat.le_of_ble_eq_true rfl) dL_holds_487 (s_goto (tgt := 469) (by decide +kernel) dL_holds_490 (s_j (hκ 469)))))))))))))
noncomputable def B_L_holds : List (Nat × (gb_K → gb_C)) := [(9, fun κ => k_L_holds_9 κ), (90, fun κ => k_L_holds_90 κ), (204, fun κ => k_L_holds_204 κ), (434, fun κ => k_L_holds_434 κ), (469, fun κ => k_L_holds_469 κ)]
noncomputable def K_L_holds : gb_K := gb_fx (gb_tb (B_L_holds))
theorem L_L_holds : ∀ q, gb_Li (fun κ => gb_tb (B_L_holds) κ q) := gb_tb_li (List.forall_mem_cons.mpr ⟨l_L_holds_9, List.forall_mem_cons.mpr ⟨l_L_holds_90, List.forall_mem_cons.mpr ⟨l_L_holds_204, List.forall_mem_cons.mpr ⟨l_L_holds_434, List.forall_mem_cons.mpr ⟨l_L_holds_469, (fun _ h => absurd h List.not_mem_nil)⟩⟩⟩⟩⟩)
theorem S_L_holds   : ∀ q, gb_S RL cL_holds 15 (gb_rm 6 137) 2 q (K_L_holds q) := fun q => gb_fx_S (L_L_holds) (gb_tb_S (List.forall_mem_cons.mpr ⟨fun κ hκ => s_L_holds_9 hκ, List.forall_mem_cons.mpr ⟨fun κ hκ => s_L_holds_90 hκ, List.forall_mem_cons.mpr ⟨fun κ hκ => s_L_holds_204 hκ, List.forall_mem_cons.mpr ⟨fun κ hκ => s_L_holds_434 hκ, List.forall_mem_cons.mpr ⟨fun κ hκ => s_L_holds_469 hκ, (fun _ h => absurd h List.not_mem_nil)⟩⟩⟩⟩⟩)) q
noncomputable def f_L_holds : gb_F := gb_hide (gb_mf 15 (k_L_holds_0 (K_L_holds)))
theorem c_L_holds : ∀ l, gb_Met l yL_holds cL_holds 15 (some .boolean) 2 (gb_rm 6 137) f_L_holds := gb_hide_c (gb_met (own := RL) (rk := 2) rfl (by decide +kernel) ⟨rfl, rfl⟩ (s_L_holds_0 (S_L_holds)))
