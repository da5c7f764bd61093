/-! CODE: printed by wip/whole/gen.py -/
theorem dX9_fumes_0 : decode cX9_fumes 0 = .ok (.iload_n 1, 1) := by decide +kernel
theorem dX9_fumes_1 : decode cX9_fumes 1 = .ok (.invokestatic 136, 3) := by decide +kernel
theorem dX9_fumes_4 : decode cX9_fumes 4 = .ok (.ifCond .eq 14, 3) := by decide +kernel
theorem dX9_fumes_7 : decode cX9_fumes 7 = .ok (.iload_n 2, 1) := by decide +kernel
theorem dX9_fumes_8 : decode cX9_fumes 8 = .ok (.iconst 1, 1) := by decide +kernel
theorem dX9_fumes_9 : decode cX9_fumes 9 = .ok (.if_icmp .lt 9, 3) := by decide +kernel
theorem dX9_fumes_12 : decode cX9_fumes 12 = .ok (.iload_n 2, 1) := by decide +kernel
theorem dX9_fumes_13 : decode cX9_fumes 13 = .ok (.bipush 20, 2) := by decide +kernel
theorem dX9_fumes_15 : decode cX9_fumes 15 = .ok (.if_icmp .le 5, 3) := by decide +kernel
theorem dX9_fumes_18 : decode cX9_fumes 18 = .ok (.iconst (-1), 1) := by decide +kernel
theorem dX9_fumes_19 : decode cX9_fumes 19 = .ok (.ireturn, 1) := by decide +kernel
theorem dX9_fumes_20 : decode cX9_fumes 20 = .ok (.aload_n 0, 1) := by decide +kernel
theorem dX9_fumes_21 : decode cX9_fumes 21 = .ok (.getfield 31, 3) := by decide +kernel
theorem dX9_fumes_24 : decode cX9_fumes 24 = .ok (.iload_n 1, 1) := by decide +kernel
theorem dX9_fumes_25 : decode cX9_fumes 25 = .ok (.invokevirtual 191, 3) := by decide +kernel
theorem dX9_fumes_28 : decode cX9_fumes 28 = .ok (.ifCond .eq 6, 3) := by decide +kernel
theorem dX9_fumes_31 : decode cX9_fumes 31 = .ok (.bipush (-2), 2) := by decide +kernel
theorem dX9_fumes_33 : decode cX9_fumes 33 = .ok (.ireturn, 1) := by decide +kernel
theorem dX9_fumes_34 : decode cX9_fumes 34 = .ok (.aload_n 0, 1) := by decide +kernel
theorem dX9_fumes_35 : decode cX9_fumes 35 = .ok (.getfield 41, 3) := by decide +kernel
theorem dX9_fumes_38 : decode cX9_fumes 38 = .ok (.aload_n 0, 1) := by decide +kernel
theorem dX9_fumes_39 : decode cX9_fumes 39 = .ok (.getfield 31, 3) := by decide +kernel
theorem dX9_fumes_42 : decode cX9_fumes 42 = .ok (.invokevirtual 184, 3) := by decide +kernel
theorem dX9_fumes_45 : decode cX9_fumes 45 = .ok (.aload_n 0, 1) := by decide +kernel
theorem dX9_fumes_46 : decode cX9_fumes 46 = .ok (.getfield 31, 3) := by decide +kernel
theorem dX9_fumes_49 : decode cX9_fumes 49 = .ok (.iload_n 1, 1) := by decide +kernel
theorem dX9_fumes_50 : decode cX9_fumes 50 = .ok (.iload_n 2, 1) := by decide +kernel
theorem dX9_fumes_51 : decode cX9_fumes 51 = .ok (.invokevirtual 219, 3) := by decide +kernel
theorem dX9_fumes_54 : decode cX9_fumes 54 = .ok (.aload_n 0, 1) := by decide +kernel
theorem dX9_fumes_55 : decode cX9_fumes 55 = .ok (.getfield 31, 3) := by decide +kernel
theorem dX9_fumes_58 : decode cX9_fumes 58 = .ok (.getfield 148, 3) := by decide +kernel
theorem dX9_fumes_61 : decode cX9_fumes 61 = .ok (.iload_n 1, 1) := by decide +kernel
theorem dX9_fumes_62 : decode cX9_fumes 62 = .ok (.iaload, 1) := by decide +kernel
theorem dX9_fumes_63 : decode cX9_fumes 63 = .ok (.ireturn, 1) := by decide +kernel
theorem v_X9_fumes : yX9_fumes.cls = RX9 ∧ yX9_fumes.cls ≠ "java/lang/invoke/MethodHandle" ∧ yX9_fumes.cls ≠ "java/lang/invoke/VarHandle" ∧ (parseMethodDescriptor yX9_fumes.desc).map (fun d => d.parameters.length) = some 2 := ⟨rfl, by decide +kernel, by decide +kernel, by decide +kernel⟩
noncomputable def k_X9_fumes_18 (κ : gb_K) : gb_C := (o_ci (-1) o_ri)
theorem l_X9_fumes_18 : gb_Li (fun κ => k_X9_fumes_18 κ) := (gb_li (q_ci (-1)) (gb_li0 _))
theorem s_X9_fumes_18   {κ : gb_K} (hκ : ∀ q, gb_S RX9 cX9_fumes 3 (gb_rm 5 117) 1 q (κ q)) : gb_S RX9 cX9_fumes 3 (gb_rm 5 117) 1 18 (k_X9_fumes_18 κ) := (s_iconst (by decide +kernel) dX9_fumes_18 (s_ri rfl dX9_fumes_19))
noncomputable def k_X9_fumes_0 (κ : gb_K) : gb_C := (o_il 1 (o_cs 1 2 f_X9_isBin (o_zeq (k_X9_fumes_18 κ) (o_il 2 (o_ci 1 (o_clt (k_X9_fumes_18 κ) (o_il 2 (o_ci 20 (o_cle (o_al 0 (o_gf 9 3 (o_il 1 (o_cv 1 7 2 f_X7_closed (o_zeq (o_al 0 (o_gf 9 6 (o_al 0 (o_gf 9 3 (o_cv 1 3 0 f_X3_add (o_al 0 (o_gf 9 3 (o_il 1 (o_il 2 (o_cv 2 7 0 f_X7_fumigate (o_al 0 (o_gf 9 3 (o_gf 7 2 (o_il 1 (o_iald o_ri))))))))))))))) (o_ci (-2) o_ri)))))) (k_X9_fumes_18 κ))))))))))
theorem l_X9_fumes_0 : gb_Li (fun κ => k_X9_fumes_0 κ) := (gb_li (q_il 1) (gb_li (q_cs 1 2 f_X9_isBin) (q_zeq (l_X9_fumes_18) (gb_li (q_il 2) (gb_li (q_ci 1) (q_clt (l_X9_fumes_18) (gb_li (q_il 2) (gb_li (q_ci 20) (q_cle (gb_li (q_al 0) (gb_li (q_gf 9 3) (gb_li (q_il 1) (gb_li (q_cv 1 7 2 f_X7_closed) (q_zeq (gb_li (q_al 0) (gb_li (q_gf 9 6) (gb_li (q_al 0) (gb_li (q_gf 9 3) (gb_li (q_cv 1 3 0 f_X3_add) (gb_li (q_al 0) (gb_li (q_gf 9 3) (gb_li (q_il 1) (gb_li (q_il 2) (gb_li (q_cv 2 7 0 f_X7_fumigate) (gb_li (q_al 0) (gb_li (q_gf 9 3) (gb_li (q_gf 7 2) (gb_li (q_il 1) (gb_li q_iald (gb_li0 _)))))))))))))))) (gb_li (q_ci (-2)) (gb_li0 _))))))) (l_X9_fumes_18))))))))))
theorem s_X9_fumes_0   {κ : gb_K} (hκ : ∀ q, gb_S RX9 cX9_fumes 3 (gb_rm 5 117) 1 q (κ q)) : gb_S RX9 cX9_fumes 3 (gb_rm 5 117) 1 0 (k_X9_fumes_0 κ) := (s_iln 1 rfl dX9_fumes_0 (s_cs c_X9_isBin (gb_l4 gw_370 gw_371 gw_356 gw_372) v_X9_isBin.2 ⟨rfl, rfl⟩ ⟨Nat.le_of_ble_eq_true rfl, Nat.le_of_ble_eq_true rfl⟩ dX9_fumes_1 (s_zeq (tgt := 18) (by decide +kernel) dX9_fumes_4 (s_X9_fumes_18 hκ) (s_iln 2 rfl dX9_fumes_7 (s_iconst (by decide +kernel) dX9_fumes_8 (s_clt (tgt := 18) (by decide +kernel) dX9_fumes_9 (s_X9_fumes_18 hκ) (s_iln 2 rfl dX9_fumes_12 (s_bipush (by decide +kernel) dX9_fumes_13 (s_cle (tgt := 20) (by decide +kernel) dX9_fumes_15 (s_aln 0 rfl dX9_fumes_20 (s_gf (T := TX9) winX9 rfl (Nat.le_of_ble_eq_true rfl) gw_336 rfl dX9_fumes_21 (s_iln 1 rfl dX9_fumes_24 (s_cv (C := RX7) c_X7_closed rfl (gb_l5 gw_387 gw_9 gw_10 gw_11 gw_12) v_X7_closed ⟨rfl, rfl⟩ ⟨Nat.le_of_ble_eq_true rfl, Nat.le_of_ble_eq_true rfl⟩ dX9_fumes_25 (s_zeq (tgt := 34) (by decide +kernel) dX9_fumes_28 (s_aln 0 rfl dX9_fumes_34 (s_gf (T := TX9) winX9 rfl (Nat.le_of_ble_eq_true rfl) gw_341 rfl dX9_fumes_35 (s_aln 0 rfl dX9_fumes_38 (s_gf (T := TX9) winX9 rfl (Nat.le_of_ble_eq_true rfl) gw_336 rfl dX9_fumes_39 (s_cv (C := RX3) c_X3_add rfl (gb_l5 gw_383 gw_384 gw_385 gw_345 gw_386) v_X3_add ⟨rfl, rfl⟩ ⟨Nat.le_of_ble_eq_true rfl, Nat.le_of_ble_eq_true rfl⟩ dX9_fumes_42 (s_aln 0 rfl dX9_fumes_45 (s_gf (T := TX9) winX9 rfl (Nat.le_of_ble_eq_true rfl) gw_336 rfl dX9_fumes_46 (s_iln 1 rfl dX9_fumes_49 (s_iln 2 rfl dX9_fumes_50 (s_cv (C := RX7) c_X7_fumigate rfl (gb_l5 gw_422 gw_423 gw_424 gw_11 gw_425) v_X7_fumigate ⟨rfl, rfl⟩ ⟨Nat.le_of_ble_eq_true rfl, Nat.le_of_ble_eq_true rfl⟩ dX9_fumes_51 (s_aln 0 rfl dX9_fumes_54 (s_gf (T := TX9) winX9 rfl (Nat.le_of_ble_eq_true rfl) gw_336 rfl dX9_fumes_55 (s_gf (T := TX7) winX7 rfl (Nat.le_of_ble_eq_true rfl) gw_364 rfl dX9_fumes_58 (s_iln 1 rfl dX9_fumes_61 (s_iald dX9_fumes_62 (s_ri rfl dX9_fumes_63)))))))))))))))) (s_bipush (by decide +kernel) dX9_fumes_31 (s_ri rfl dX9_fumes_33))))))) (s_X9_fumes_18 hκ))))))))))
noncomputable def f_X9_fumes : gb_F := gb_hide (gb_mf 3 (k_X9_fumes_0 gb_n))
theorem c_X9_fumes : ∀ l, gb_Met l yX9_fumes cX9_fumes 3 (some .int) 1 (gb_rm 5 117) f_X9_fumes := gb_hide_c (gb_met (own := RX9) (rk := 1) rfl (by decide +kernel) ⟨rfl, rfl⟩ (s_X9_fumes_0 gb_S_n))
theorem dX9_days_0 : decode cX9_days 0 = .ok (.iload_n 1, 1) := by decide +kernel
theorem dX9_days_1 : decode cX9_days 1 = .ok (.iconst 1, 1) := by decide +kernel
theorem dX9_days_2 : decode cX9_days 2 = .ok (.if_icmp .lt 24, 3) := by decide +kernel
theorem dX9_days_5 : decode cX9_days 5 = .ok (.iload_n 1, 1) := by decide +kernel
theorem dX9_days_6 : decode cX9_days 6 = .ok (.bipush 99, 2) := by decide +kernel
theorem dX9_days_8 : decode cX9_days 8 = .ok (.if_icmp .gt 18, 3) := by decide +kernel
theorem dX9_days_11 : decode cX9_days 11 = .ok (.aload_n 0, 1) := by decide +kernel
theorem dX9_days_12 : decode cX9_days 12 = .ok (.getfield 31, 3) := by decide +kernel
theorem dX9_days_15 : decode cX9_days 15 = .ok (.getfield 151, 3) := by decide +kernel
theorem dX9_days_18 : decode cX9_days 18 = .ok (.iload_n 1, 1) := by decide +kernel
theorem dX9_days_19 : decode cX9_days 19 = .ok (.iadd, 1) := by decide +kernel
theorem dX9_days_20 : decode cX9_days 20 = .ok (.sipush 9999, 3) := by decide +kernel
theorem dX9_days_23 : decode cX9_days 23 = .ok (.if_icmp .le 5, 3) := by decide +kernel
theorem dX9_days_26 : decode cX9_days 26 = .ok (.iconst (-1), 1) := by decide +kernel
theorem dX9_days_27 : decode cX9_days 27 = .ok (.ireturn, 1) := by decide +kernel
theorem dX9_days_28 : decode cX9_days 28 = .ok (.aload_n 0, 1) := by decide +kernel
theorem dX9_days_29 : decode cX9_days 29 = .ok (.getfield 41, 3) := by decide +kernel
theorem dX9_days_32 : decode cX9_days 32 = .ok (.aload_n 0, 1) := by decide +kernel
theorem dX9_days_33 : decode cX9_days 33 = .ok (.getfield 31, 3) := by decide +kernel
theorem dX9_days_36 : decode cX9_days 36 = .ok (.invokevirtual 184, 3) := by decide +kernel
theorem dX9_days_39 : decode cX9_days 39 = .ok (.aload_n 0, 1) := by decide +kernel
theorem dX9_days_40 : decode cX9_days 40 = .ok (.getfield 31, 3) := by decide +kernel
theorem dX9_days_43 : decode cX9_days 43 = .ok (.dup, 1) := by decide +kernel
theorem dX9_days_44 : decode cX9_days 44 = .ok (.getfield 151, 3) := by decide +kernel
theorem dX9_days_47 : decode cX9_days 47 = .ok (.iload_n 1, 1) := by decide +kernel
theorem dX9_days_48 : decode cX9_days 48 = .ok (.iadd, 1) := by decide +kernel
theorem dX9_days_49 : decode cX9_days 49 = .ok (.putfield 151, 3) := by decide +kernel
theorem dX9_days_52 : decode cX9_days 52 = .ok (.aload_n 0, 1) := by decide +kernel
theorem dX9_days_53 : decode cX9_days 53 = .ok (.getfield 31, 3) := by decide +kernel
theorem dX9_days_56 : decode cX9_days 56 = .ok (.getfield 151, 3) := by decide +kernel
theorem dX9_days_59 : decode cX9_days 59 = .ok (.ireturn, 1) := by decide +kernel
theorem v_X9_days : yX9_days.cls = RX9 ∧ yX9_days.cls ≠ "java/lang/invoke/MethodHandle" ∧ yX9_days.cls ≠ "java/lang/invoke/VarHandle" ∧ (parseMethodDescriptor yX9_days.desc).map (fun d => d.parameters.length) = some 1 := ⟨rfl, by decide +kernel, by decide +kernel, by decide +kernel⟩
noncomputable def k_X9_days_26 (κ : gb_K) : gb_C := (o_ci (-1) o_ri)
theorem l_X9_days_26 : gb_Li (fun κ => k_X9_days_26 κ) := (gb_li (q_ci (-1)) (gb_li0 _))
theorem s_X9_days_26   {κ : gb_K} (hκ : ∀ q, gb_S RX9 cX9_days 2 (gb_rm 4 88) 1 q (κ q)) : gb_S RX9 cX9_days 2 (gb_rm 4 88) 1 26 (k_X9_days_26 κ) := (s_iconst (by decide +kernel) dX9_days_26 (s_ri rfl dX9_days_27))
noncomputable def k_X9_days_0 (κ : gb_K) : gb_C := (o_il 1 (o_ci 1 (o_clt (k_X9_days_26 κ) (o_il 1 (o_ci 99 (o_cgt (k_X9_days_26 κ) (o_al 0 (o_gf 9 3 (o_gf 7 9 (o_il 1 (o_ib (fun x y => x + y) (o_ci 9999 (o_cle (o_al 0 (o_gf 9 6 (o_al 0 (o_gf 9 3 (o_cv 1 3 0 f_X3_add (o_al 0 (o_gf 9 3 (o_dup (o_gf 7 9 (o_il 1 (o_ib (fun x y => x + y) (o_pf 7 9 (o_al 0 (o_gf 9 3 (o_gf 7 9 o_ri))))))))))))))) (k_X9_days_26 κ))))))))))))))
theorem l_X9_days_0 : gb_Li (fun κ => k_X9_days_0 κ) := (gb_li (q_il 1) (gb_li (q_ci 1) (q_clt (l_X9_days_26) (gb_li (q_il 1) (gb_li (q_ci 99) (q_cgt (l_X9_days_26) (gb_li (q_al 0) (gb_li (q_gf 9 3) (gb_li (q_gf 7 9) (gb_li (q_il 1) (gb_li (q_ib _) (gb_li (q_ci 9999) (q_cle (gb_li (q_al 0) (gb_li (q_gf 9 6) (gb_li (q_al 0) (gb_li (q_gf 9 3) (gb_li (q_cv 1 3 0 f_X3_add) (gb_li (q_al 0) (gb_li (q_gf 9 3) (gb_li q_dup (gb_li (q_gf 7 9) (gb_li (q_il 1) (gb_li (q_ib _) (gb_li (q_pf 7 9) (gb_li (q_al 0) (gb_li (q_gf 9 3) (gb_li (q_gf 7 9) (gb_li0 _)))))))))))))))) (l_X9_days_26))))))))))))))
theorem s_X9_days_0   {κ : gb_K} (hκ : ∀ q, gb_S RX9 cX9_days 2 (gb_rm 4 88) 1 q (κ q)) : gb_S RX9 cX9_days 2 (gb_rm 4 88) 1 0 (k_X9_days_0 κ) := (s_iln 1 rfl dX9_days_0 (s_iconst (by decide +kernel) dX9_days_1 (s_clt (tgt := 26) (by decide +kernel) dX9_days_2 (s_X9_days_26 hκ) (s_iln 1 rfl dX9_days_5 (s_bipush (by decide +kernel) dX9_days_6 (s_cgt (tgt := 26) (by decide +kernel) dX9_days_8 (s_X9_days_26 hκ) (s_aln 0 rfl dX9_days_11 (s_gf (T := TX9) winX9 rfl (Nat.le_of_ble_eq_true rfl) gw_336 rfl dX9_days_12 (s_gf (T := TX7) winX7 rfl (Nat.le_of_ble_eq_true rfl) gw_365 rfl dX9_days_15 (s_iln 1 rfl dX9_days_18 (s_iadd dX9_days_19 (s_sipush (by decide +kernel) dX9_days_20 (s_cle (tgt := 28) (by decide +kernel) dX9_days_23 (s_aln 0 rfl dX9_days_28 (s_gf (T := TX9) winX9 rfl (Nat.le_of_ble_eq_true rfl) gw_341 rfl dX9_days_29 (s_aln 0 rfl dX9_days_32 (s_gf (T := TX9) winX9 rfl (Nat.le_of_ble_eq_true rfl) gw_336 rfl dX9_days_33 (s_cv (C := RX3) c_X3_add rfl (gb_l5 gw_383 gw_384 gw_385 gw_345 gw_386) v_X3_add ⟨rfl, rfl⟩ ⟨Nat.le_of_ble_eq_true rfl, Nat.le_of_ble_eq_true rfl⟩ dX9_days_36 (s_aln 0 rfl dX9_days_39 (s_gf (T := TX9) winX9 rfl (Nat.le_of_ble_eq_true rfl) gw_336 rfl dX9_days_40 (s_dup dX9_days_43 (s_gf (T := TX7) winX7 rfl (Nat.le_of_ble_eq_true rfl) gw_365 rfl dX9_days_44 (s_iln 1 rfl dX9_days_47 (s_iadd dX9_days_48 (s_pf (T := TX7) winX7 rfl (Nat.le_of_ble_eq_true rfl) tyX7_ok nmX7 rfl (by decide +kernel) gw_365 rfl dX9_days_49 (s_aln 0 rfl dX9_days_52 (s_gf (T := TX9) winX9 rfl (Nat.le_of_ble_eq_true rfl) gw_336 rfl dX9_days_53 (s_gf (T := TX7) winX7 rfl (Nat.le_of_ble_eq_true rfl) gw_365 rfl dX9_days_56 (s_ri rfl dX9_days_59)))))))))))))))) (s_X9_days_26 hκ))))))))))))))
noncomputable def f_X9_days : gb_F := gb_hide (gb_mf 2 (k_X9_days_0 gb_n))
theorem c_X9_days : ∀ l, gb_Met l yX9_days cX9_days 2 (some .int) 1 (gb_rm 4 88) f_X9_days := gb_hide_c (gb_met (own := RX9) (rk := 1) rfl (by decide +kernel) ⟨rfl, rfl⟩ (s_X9_days_0 gb_S_n))
theorem dX9_price_0 : decode cX9_price 0 = .ok (.iload_n 1, 1) := by decide +kernel
theorem dX9_price_1 : decode cX9_price 1 = .ok (.invokestatic 114, 3) := by decide +kernel
theorem dX9_price_4 : decode cX9_price 4 = .ok (.ifCond .eq 14, 3) := by decide +kernel
theorem dX9_price_7 : decode cX9_price 7 = .ok (.iload_n 2, 1) := by decide +kernel
theorem dX9_price_8 : decode cX9_price 8 = .ok (.ifCond .lt 10, 3) := by decide +kernel
theorem dX9_price_11 : decode cX9_price 11 = .ok (.iload_n 2, 1) := by decide +kernel
theorem dX9_price_12 : decode cX9_price 12 = .ok (.sipush 999, 3) := by decide +kernel
theorem dX9_price_15 : decode cX9_price 15 = .ok (.if_icmp .le 5, 3) := by decide +kernel
theorem dX9_price_18 : decode cX9_price 18 = .ok (.iconst (-1), 1) := by decide +kernel
theorem dX9_price_19 : decode cX9_price 19 = .ok (.ireturn, 1) := by decide +kernel
theorem dX9_price_20 : decode cX9_price 20 = .ok (.aload_n 0, 1) := by decide +kernel
theorem dX9_price_21 : decode cX9_price 21 = .ok (.getfield 41, 3) := by decide +kernel
theorem dX9_price_24 : decode cX9_price 24 = .ok (.aload_n 0, 1) := by decide +kernel
theorem dX9_price_25 : decode cX9_price 25 = .ok (.getfield 31, 3) := by decide +kernel
theorem dX9_price_28 : decode cX9_price 28 = .ok (.invokevirtual 184, 3) := by decide +kernel
theorem dX9_price_31 : decode cX9_price 31 = .ok (.aload_n 0, 1) := by decide +kernel
theorem dX9_price_32 : decode cX9_price 32 = .ok (.getfield 31, 3) := by decide +kernel
theorem dX9_price_35 : decode cX9_price 35 = .ok (.getfield 117, 3) := by decide +kernel
theorem dX9_price_38 : decode cX9_price 38 = .ok (.iload_n 1, 1) := by decide +kernel
theorem dX9_price_39 : decode cX9_price 39 = .ok (.iaload, 1) := by decide +kernel
theorem dX9_price_40 : decode cX9_price 40 = .ok (.istore_n 3, 1) := by decide +kernel
theorem dX9_price_41 : decode cX9_price 41 = .ok (.aload_n 0, 1) := by decide +kernel
theorem dX9_price_42 : decode cX9_price 42 = .ok (.getfield 31, 3) := by decide +kernel
theorem dX9_price_45 : decode cX9_price 45 = .ok (.getfield 117, 3) := by decide +kernel
theorem dX9_price_48 : decode cX9_price 48 = .ok (.iload_n 1, 1) := by decide +kernel
theorem dX9_price_49 : decode cX9_price 49 = .ok (.iload_n 2, 1) := by decide +kernel
theorem dX9_price_50 : decode cX9_price 50 = .ok (.iastore, 1) := by decide +kernel
theorem dX9_price_51 : decode cX9_price 51 = .ok (.iload_n 3, 1) := by decide +kernel
theorem dX9_price_52 : decode cX9_price 52 = .ok (.ireturn, 1) := by decide +kernel
theorem v_X9_price : yX9_price.cls = RX9 ∧ yX9_price.cls ≠ "java/lang/invoke/MethodHandle" ∧ yX9_price.cls ≠ "java/lang/invoke/VarHandle" ∧ (parseMethodDescriptor yX9_price.desc).map (fun d => d.parameters.length) = some 2 := ⟨rfl, by decide +kernel, by decide +kernel, by decide +kernel⟩
noncomputable def k_X9_price_18 (κ : gb_K) : gb_C := (o_ci (-1) o_ri)
theorem l_X9_price_18 : gb_Li (fun κ => k_X9_price_18 κ) := (gb_li (q_ci (-1)) (gb_li0 _))
theorem s_X9_price_18   {κ : gb_K} (hκ : ∀ q, gb_S RX9 cX9_price 4 (gb_rm 4 88) 1 q (κ q)) : gb_S RX9 cX9_price 4 (gb_rm 4 88) 1 18 (k_X9_price_18 κ) := (s_iconst (by decide +kernel) dX9_price_18 (s_ri rfl dX9_price_19))
noncomputable def k_X9_price_0 (κ : gb_K) : gb_C := (o_il 1 (o_cs 1 2 f_X9_isGrade (o_zeq (k_X9_price_18 κ) (o_il 2 (o_zlt (k_X9_price_18 κ) (o_il 2 (o_ci 999 (o_cle (o_al 0 (o_gf 9 6 (o_al 0 (o_gf 9 3 (o_cv 1 3 0 f_X3_add (o_al 0 (o_gf 9 3 (o_gf 7 1 (o_il 1 (o_iald (o_is 3 (o_al 0 (o_gf 9 3 (o_gf 7 1 (o_il 1 (o_il 2 (o_iast (o_il 3 o_ri)))))))))))))))))) (k_X9_price_18 κ)))))))))
theorem l_X9_price_0 : gb_Li (fun κ => k_X9_price_0 κ) := (gb_li (q_il 1) (gb_li (q_cs 1 2 f_X9_isGrade) (q_zeq (l_X9_price_18) (gb_li (q_il 2) (q_zlt (l_X9_price_18) (gb_li (q_il 2) (gb_li (q_ci 999) (q_cle (gb_li (q_al 0) (gb_li (q_gf 9 6) (gb_li (q_al 0) (gb_li (q_gf 9 3) (gb_li (q_cv 1 3 0 f_X3_add) (gb_li (q_al 0) (gb_li (q_gf 9 3) (gb_li (q_gf 7 1) (gb_li (q_il 1) (gb_li q_iald (gb_li (q_is 3) (gb_li (q_al 0) (gb_li (q_gf 9 3) (gb_li (q_gf 7 1) (gb_li (q_il 1) (gb_li (q_il 2) (gb_li q_iast (gb_li (q_il 3) (gb_li0 _))))))))))))))))))) (l_X9_price_18)))))))))
theorem s_X9_price_0   {κ : gb_K} (hκ : ∀ q, gb_S RX9 cX9_price 4 (gb_rm 4 88) 1 q (κ q)) : gb_S RX9 cX9_price 4 (gb_rm 4 88) 1 0 (k_X9_price_0 κ) := (s_iln 1 rfl dX9_price_0 (s_cs c_X9_isGrade (gb_l4 gw_354 gw_355 gw_356 gw_357) v_X9_isGrade.2 ⟨rfl, rfl⟩ ⟨Nat.le_of_ble_eq_true rfl, Nat.le_of_ble_eq_true rfl⟩ dX9_price_1 (s_zeq (tgt := 18) (by decide +kernel) dX9_price_4 (s_X9_price_18 hκ) (s_iln 2 rfl dX9_price_7 (s_zlt (tgt := 18) (by decide +kernel) dX9_price_8 (s_X9_price_18 hκ) (s_iln 2 rfl dX9_price_11 (s_sipush (by decide +kernel) dX9_price_12 (s_cle (tgt := 20) (by decide +kernel) dX9_price_15 (s_aln 0 rfl dX9_price_20 (s_gf (T := TX9) winX9 rfl (Nat.le_of_ble_eq_true rfl) gw_341 rfl dX9_price_21 (s_aln 0 rfl dX9_price_24 (s_gf (T := TX9) winX9 rfl (Nat.le_of_ble_eq_true rfl) gw_336 rfl dX9_price_25 (s_cv (C := RX3) c_X3_add rfl (gb_l5 gw_383 gw_384 gw_385 gw_345 gw_386) v_X3_add ⟨rfl, rfl⟩ ⟨Nat.le_of_ble_eq_true rfl, Nat.le_of_ble_eq_true rfl⟩ dX9_price_28 (s_aln 0 rfl dX9_price_31 (s_gf (T := TX9) winX9 rfl (Nat.le_of_ble_eq_true rfl) gw_336 rfl dX9_price_32 (s_gf (T := TX7) winX7 rfl (Nat.le_of_ble_eq_true rfl) gw_353 rfl dX9_price_35 (s_iln 1 rfl dX9_price_38 (s_iald dX9_price_39 (s_isn 3 rfl (Nat.le_of_ble_eq_true rfl) dX9_price_40 (s_aln 0 rfl dX9_price_41 (s_gf (T := TX9) winX9 rfl (Nat.le_of_ble_eq_true rfl) gw_336 rfl dX9_price_42 (s_gf (T := TX7) winX7 rfl (Nat.le_of_ble_eq_true rfl) gw_353 rfl dX9_price_45 (s_iln 1 rfl dX9_price_48 (s_iln 2 rfl dX9_price_49 (s_iast dX9_price_50 (s_iln 3 rfl dX9_price_51 (s_ri rfl dX9_price_52))))))))))))))))))) (s_X9_price_18 hκ)))))))))
noncomputable def f_X9_price : gb_F := gb_hide (gb_mf 4 (k_X9_price_0 gb_n))
theorem c_X9_price : ∀ l, gb_Met l yX9_price cX9_price 4 (some .int) 1 (gb_rm 4 88) f_X9_price := gb_hide_c (gb_met (own := RX9) (rk := 1) rfl (by decide +kernel) ⟨rfl, rfl⟩ (s_X9_price_0 gb_S_n))
theorem dX9_readOrders_0 : decode cX9_readOrders 0 = .ok (.aload_n 0, 1) := by decide +kernel
theorem dX9_readOrders_1 : decode cX9_readOrders 1 = .ok (.getfield 10, 3) := by decide +kernel
theorem dX9_readOrders_4 : decode cX9_readOrders 4 = .ok (.invokevirtual 95, 3) := by decide +kernel
theorem dX9_readOrders_7 : decode cX9_readOrders 7 = .ok (.aload_n 0, 1) := by decide +kernel
theorem dX9_readOrders_8 : decode cX9_readOrders 8 = .ok (.getfield 55, 3) := by decide +kernel
theorem dX9_readOrders_11 : decode cX9_readOrders 11 = .ok (.aload_n 0, 1) := by decide +kernel
theorem dX9_readOrders_12 : decode cX9_readOrders 12 = .ok (.getfield 10, 3) := by decide +kernel
theorem dX9_readOrders_15 : decode cX9_readOrders 15 = .ok (.invokevirtual 348, 3) := by decide +kernel
theorem dX9_readOrders_18 : decode cX9_readOrders 18 = .ok (.istore_n 1, 1) := by decide +kernel
theorem dX9_readOrders_19 : decode cX9_readOrders 19 = .ok (.aload_n 0, 1) := by decide +kernel
theorem dX9_readOrders_20 : decode cX9_readOrders 20 = .ok (.getfield 10, 3) := by decide +kernel
theorem dX9_readOrders_23 : decode cX9_readOrders 23 = .ok (.invokevirtual 102, 3) := by decide +kernel
theorem dX9_readOrders_26 : decode cX9_readOrders 26 = .ok (.iload_n 1, 1) := by decide +kernel
theorem dX9_readOrders_27 : decode cX9_readOrders 27 = .ok (.ireturn, 1) := by decide +kernel
theorem v_X9_readOrders : yX9_readOrders.cls = RX9 ∧ yX9_readOrders.cls ≠ "java/lang/invoke/MethodHandle" ∧ yX9_readOrders.cls ≠ "java/lang/invoke/VarHandle" ∧ (parseMethodDescriptor yX9_readOrders.desc).map (fun d => d.parameters.length) = some 0 := ⟨rfl, by decide +kernel, by decide +kernel, by decide +kernel⟩
noncomputable def k_X9_readOrders_0 (κ : gb_K) : gb_C := (o_al 0 (o_gf 9 0 (o_cv 0 8 0 f_X8_start (o_al 0 (o_gf 9 8 (o_al 0 (o_gf 9 0 (o_cv 1 2 1 f_X2_read (o_is 1 (o_al 0 (o_gf 9 0 (o_cv 0 8 0 f_X8_clear (o_il 1 o_ri)))))))))))))
theorem l_X9_readOrders_0 : gb_Li (fun κ => k_X9_readOrders_0 κ) := (gb_li (q_al 0) (gb_li (q_gf 9 0) (gb_li (q_cv 0 8 0 f_X8_start) (gb_li (q_al 0) (gb_li (q_gf 9 8) (gb_li (q_al 0) (gb_li (q_gf 9 0) (gb_li (q_cv 1 2 1 f_X2_read) (gb_li (q_is 1) (gb_li (q_al 0) (gb_li (q_gf 9 0) (gb_li (q_cv 0 8 0 f_X8_clear) (gb_li (q_il 1) (gb_li0 _))))))))))))))
theorem s_X9_readOrders_0   {κ : gb_K} (hκ : ∀ q, gb_S RX9 cX9_readOrders 2 (gb_rm 5 114) 1 q (κ q)) : gb_S RX9 cX9_readOrders 2 (gb_rm 5 114) 1 0 (k_X9_readOrders_0 κ) := (s_aln 0 rfl dX9_readOrders_0 (s_gf (T := TX9) winX9 rfl (Nat.le_of_ble_eq_true rfl) gw_308 rfl dX9_readOrders_1 (s_cv (C := RX8) c_X8_start rfl (gb_l5 gw_318 gw_319 gw_320 gw_150 gw_321) v_X8_start ⟨rfl, rfl⟩ ⟨Nat.le_of_ble_eq_true rfl, Nat.le_of_ble_eq_true rfl⟩ dX9_readOrders_4 (s_aln 0 rfl dX9_readOrders_7 (s_gf (T := TX9) winX9 rfl (Nat.le_of_ble_eq_true rfl) gw_426 rfl dX9_readOrders_8 (s_aln 0 rfl dX9_readOrders_11 (s_gf (T := TX9) winX9 rfl (Nat.le_of_ble_eq_true rfl) gw_308 rfl dX9_readOrders_12 (s_cv (C := RX2) c_X2_read rfl (gb_l5 gw_427 gw_428 gw_429 gw_180 gw_430) v_X2_read ⟨rfl, rfl⟩ ⟨Nat.le_of_ble_eq_true rfl, Nat.le_of_ble_eq_true rfl⟩ dX9_readOrders_15 (s_isn 1 rfl (Nat.le_of_ble_eq_true rfl) dX9_readOrders_18 (s_aln 0 rfl dX9_readOrders_19 (s_gf (T := TX9) winX9 rfl (Nat.le_of_ble_eq_true rfl) gw_308 rfl dX9_readOrders_20 (s_cv (C := RX8) c_X8_clear rfl (gb_l5 gw_327 gw_328 gw_329 gw_150 gw_330) v_X8_clear ⟨rfl, rfl⟩ ⟨Nat.le_of_ble_eq_true rfl, Nat.le_of_ble_eq_true rfl⟩ dX9_readOrders_23 (s_iln 1 rfl dX9_readOrders_26 (s_ri rfl dX9_readOrders_27))))))))))))))
noncomputable def f_X9_readOrders : gb_F := gb_hide (gb_mf 2 (k_X9_readOrders_0 gb_n))
theorem c_X9_readOrders : ∀ l, gb_Met l yX9_readOrders cX9_readOrders 2 (some .int) 1 (gb_rm 5 114) f_X9_readOrders := gb_hide_c (gb_met (own := RX9) (rk := 1) rfl (by decide +kernel) ⟨rfl, rfl⟩ (s_X9_readOrders_0 gb_S_n))
theorem dX9_sells_0 : decode cX9_sells 0 = .ok (.aload_n 0, 1) := by decide +kernel
theorem dX9_sells_1 : decode cX9_sells 1 = .ok (.invokevirtual 223, 3) := by decide +kernel
theorem dX9_sells_4 : decode cX9_sells 4 = .ok (.istore_n 1, 1) := by decide +kernel
theorem dX9_sells_5 : decode cX9_sells 5 = .ok (.iload_n 1, 1) := by decide +kernel
theorem dX9_sells_6 : decode cX9_sells 6 = .ok (.ifCond .ge 5, 3) := by decide +kernel
theorem dX9_sells_9 : decode cX9_sells 9 = .ok (.iload_n 1, 1) := by decide +kernel
theorem dX9_sells_10 : decode cX9_sells 10 = .ok (.ireturn, 1) := by decide +kernel
theorem dX9_sells_11 : decode cX9_sells 11 = .ok (.aload_n 0, 1) := by decide +kernel
theorem dX9_sells_12 : decode cX9_sells 12 = .ok (.getfield 73, 3) := by decide +kernel
theorem dX9_sells_15 : decode cX9_sells 15 = .ok (.invokevirtual 227, 3) := by decide +kernel
theorem dX9_sells_18 : decode cX9_sells 18 = .ok (.istore_n 2, 1) := by decide +kernel
theorem dX9_sells_19 : decode cX9_sells 19 = .ok (.aload_n 0, 1) := by decide +kernel
theorem dX9_sells_20 : decode cX9_sells 20 = .ok (.getfield 41, 3) := by decide +kernel
theorem dX9_sells_23 : decode cX9_sells 23 = .ok (.aload_n 0, 1) := by decide +kernel
theorem dX9_sells_24 : decode cX9_sells 24 = .ok (.getfield 31, 3) := by decide +kernel
theorem dX9_sells_27 : decode cX9_sells 27 = .ok (.invokevirtual 184, 3) := by decide +kernel
theorem dX9_sells_30 : decode cX9_sells 30 = .ok (.aload_n 0, 1) := by decide +kernel
theorem dX9_sells_31 : decode cX9_sells 31 = .ok (.getfield 31, 3) := by decide +kernel
theorem dX9_sells_34 : decode cX9_sells 34 = .ok (.aload_n 0, 1) := by decide +kernel
theorem dX9_sells_35 : decode cX9_sells 35 = .ok (.getfield 31, 3) := by decide +kernel
theorem dX9_sells_38 : decode cX9_sells 38 = .ok (.getfield 151, 3) := by decide +kernel
theorem dX9_sells_41 : decode cX9_sells 41 = .ok (.invokevirtual 230, 3) := by decide +kernel
theorem dX9_sells_44 : decode cX9_sells 44 = .ok (.istore_n 3, 1) := by decide +kernel
theorem dX9_sells_45 : decode cX9_sells 45 = .ok (.iconst 0, 1) := by decide +kernel
theorem dX9_sells_46 : decode cX9_sells 46 = .ok (.istore 4, 2) := by decide +kernel
theorem dX9_sells_48 : decode cX9_sells 48 = .ok (.iconst 0, 1) := by decide +kernel
theorem dX9_sells_49 : decode cX9_sells 49 = .ok (.istore 5, 2) := by decide +kernel
theorem dX9_sells_51 : decode cX9_sells 51 = .ok (.iload 5, 2) := by decide +kernel
theorem dX9_sells_53 : decode cX9_sells 53 = .ok (.iload_n 2, 1) := by decide +kernel
theorem dX9_sells_54 : decode cX9_sells 54 = .ok (.if_icmp .ge 41, 3) := by decide +kernel
theorem dX9_sells_57 : decode cX9_sells 57 = .ok (.iload 4, 2) := by decide +kernel
theorem dX9_sells_59 : decode cX9_sells 59 = .ok (.aload_n 0, 1) := by decide +kernel
theorem dX9_sells_60 : decode cX9_sells 60 = .ok (.getfield 31, 3) := by decide +kernel
theorem dX9_sells_63 : decode cX9_sells 63 = .ok (.aload_n 0, 1) := by decide +kernel
theorem dX9_sells_64 : decode cX9_sells 64 = .ok (.getfield 73, 3) := by decide +kernel
theorem dX9_sells_67 : decode cX9_sells 67 = .ok (.getfield 233, 3) := by decide +kernel
theorem dX9_sells_70 : decode cX9_sells 70 = .ok (.iload 5, 2) := by decide +kernel
theorem dX9_sells_72 : decode cX9_sells 72 = .ok (.iaload, 1) := by decide +kernel
theorem dX9_sells_73 : decode cX9_sells 73 = .ok (.aload_n 0, 1) := by decide +kernel
theorem dX9_sells_74 : decode cX9_sells 74 = .ok (.getfield 55, 3) := by decide +kernel
theorem dX9_sells_77 : decode cX9_sells 77 = .ok (.getfield 236, 3) := by decide +kernel
theorem dX9_sells_80 : decode cX9_sells 80 = .ok (.iload 5, 2) := by decide +kernel
theorem dX9_sells_82 : decode cX9_sells 82 = .ok (.iaload, 1) := by decide +kernel
theorem dX9_sells_83 : decode cX9_sells 83 = .ok (.invokevirtual 202, 3) := by decide +kernel
theorem dX9_sells_86 : decode cX9_sells 86 = .ok (.iadd, 1) := by decide +kernel
theorem dX9_sells_87 : decode cX9_sells 87 = .ok (.istore 4, 2) := by decide +kernel
theorem dX9_sells_89 : decode cX9_sells 89 = .ok (.iinc 5 1, 3) := by decide +kernel
theorem dX9_sells_92 : decode cX9_sells 92 = .ok (.goto (-41), 3) := by decide +kernel
theorem dX9_sells_95 : decode cX9_sells 95 = .ok (.aload_n 0, 1) := by decide +kernel
theorem dX9_sells_96 : decode cX9_sells 96 = .ok (.getfield 48, 3) := by decide +kernel
theorem dX9_sells_99 : decode cX9_sells 99 = .ok (.invokevirtual 194, 3) := by decide +kernel
theorem dX9_sells_102 : decode cX9_sells 102 = .ok (.aload_n 0, 1) := by decide +kernel
theorem dX9_sells_103 : decode cX9_sells 103 = .ok (.getfield 48, 3) := by decide +kernel
theorem dX9_sells_106 : decode cX9_sells 106 = .ok (.iload 4, 2) := by decide +kernel
theorem dX9_sells_108 : decode cX9_sells 108 = .ok (.i2l, 1) := by decide +kernel
theorem dX9_sells_109 : decode cX9_sells 109 = .ok (.invokevirtual 199, 3) := by decide +kernel
theorem dX9_sells_112 : decode cX9_sells 112 = .ok (.aload_n 0, 1) := by decide +kernel
theorem dX9_sells_113 : decode cX9_sells 113 = .ok (.getfield 48, 3) := by decide +kernel
theorem dX9_sells_116 : decode cX9_sells 116 = .ok (.iload_n 3, 1) := by decide +kernel
theorem dX9_sells_117 : decode cX9_sells 117 = .ok (.i2l, 1) := by decide +kernel
theorem dX9_sells_118 : decode cX9_sells 118 = .ok (.invokevirtual 199, 3) := by decide +kernel
theorem dX9_sells_121 : decode cX9_sells 121 = .ok (.aload_n 0, 1) := by decide +kernel
theorem dX9_sells_122 : decode cX9_sells 122 = .ok (.getfield 48, 3) := by decide +kernel
theorem dX9_sells_125 : decode cX9_sells 125 = .ok (.aload_n 0, 1) := by decide +kernel
theorem dX9_sells_126 : decode cX9_sells 126 = .ok (.getfield 31, 3) := by decide +kernel
theorem dX9_sells_129 : decode cX9_sells 129 = .ok (.aload_n 0, 1) := by decide +kernel
theorem dX9_sells_130 : decode cX9_sells 130 = .ok (.getfield 31, 3) := by decide +kernel
theorem dX9_sells_133 : decode cX9_sells 133 = .ok (.getfield 151, 3) := by decide +kernel
theorem dX9_sells_136 : decode cX9_sells 136 = .ok (.invokevirtual 230, 3) := by decide +kernel
theorem dX9_sells_139 : decode cX9_sells 139 = .ok (.i2l, 1) := by decide +kernel
theorem dX9_sells_140 : decode cX9_sells 140 = .ok (.invokevirtual 199, 3) := by decide +kernel
theorem dX9_sells_143 : decode cX9_sells 143 = .ok (.iload_n 2, 1) := by decide +kernel
theorem dX9_sells_144 : decode cX9_sells 144 = .ok (.ireturn, 1) := by decide +kernel
theorem v_X9_sells : yX9_sells.cls = RX9 ∧ yX9_sells.cls ≠ "java/lang/invoke/MethodHandle" ∧ yX9_sells.cls ≠ "java/lang/invoke/VarHandle" ∧ (parseMethodDescriptor yX9_sells.desc).map (fun d => d.parameters.length) = some 0 := ⟨rfl, by decide +kernel, by decide +kernel, by decide +kernel⟩
noncomputable def k_X9_sells_0 (κ : gb_K) : gb_C := (o_al 0 (o_cv 0 9 1 f_X9_readOrders (o_is 1 (o_il 1 (o_zge (o_al 0 (o_gf 9 10 (o_cv 0 0 1 f_X0_serve (o_is 2 (o_al 0 (o_gf 9 6 (o_al 0 (o_gf 9 3 (o_cv 1 3 0 f_X3_add (o_al 0 (o_gf 9 3 (o_al 0 (o_gf 9 3 (o_gf 7 9 (o_cv 1 7 1 f_X7_valueOfAll (o_is 3 (o_ci 0 (o_is 4 (o_ci 0 (o_is 5 (o_j [0, 2, 3, 4, 5] (κ 51)))))))))))))))))))))) (o_il 1 o_ri))))))
theorem l_X9_sells_0 : gb_Li (fun κ => k_X9_sells_0 κ) := (gb_li (q_al 0) (gb_li (q_cv 0 9 1 f_X9_readOrders) (gb_li (q_is 1) (gb_li (q_il 1) (q_zge (gb_li (q_al 0) (gb_li (q_gf 9 10) (gb_li (q_cv 0 0 1 f_X0_serve) (gb_li (q_is 2) (gb_li (q_al 0) (gb_li (q_gf 9 6) (gb_li (q_al 0) (gb_li (q_gf 9 3) (gb_li (q_cv 1 3 0 f_X3_add) (gb_li (q_al 0) (gb_li (q_gf 9 3) (gb_li (q_al 0) (gb_li (q_gf 9 3) (gb_li (q_gf 7 9) (gb_li (q_cv 1 7 1 f_X7_valueOfAll) (gb_li (q_is 3) (gb_li (q_ci 0) (gb_li (q_is 4) (gb_li (q_ci 0) (gb_li (q_is 5) (q_j [0, 2, 3, 4, 5] 51))))))))))))))))))))) (gb_li (q_il 1) (gb_li0 _)))))))
theorem s_X9_sells_0   {κ : gb_K} (hκ : ∀ q, gb_S RX9 cX9_sells 6 (gb_rm 12 266) 1 q (κ q)) : gb_S RX9 cX9_sells 6 (gb_rm 12 266) 1 0 (k_X9_sells_0 κ) := (s_aln 0 rfl dX9_sells_0 (s_cv (C := RX9) c_X9_readOrders rfl (gb_l5 gw_431 gw_432 gw_433 gw_356 gw_434) v_X9_readOrders ⟨rfl, rfl⟩ ⟨Nat.le_of_ble_eq_true rfl, Nat.le_of_ble_eq_true rfl⟩ dX9_sells_1 (s_isn 1 rfl (Nat.le_of_ble_eq_true rfl) dX9_sells_4 (s_iln 1 rfl dX9_sells_5 (s_zge (tgt := 11) (by decide +kernel) dX9_sells_6 (s_aln 0 rfl dX9_sells_11 (s_gf (T := TX9) winX9 rfl (Nat.le_of_ble_eq_true rfl) gw_435 rfl dX9_sells_12 (s_cv (C := RX0) c_X0_serve rfl (gb_l5 gw_436 gw_437 gw_438 gw_29 gw_439) v_X0_serve ⟨rfl, rfl⟩ ⟨Nat.le_of_ble_eq_true rfl, Nat.le_of_ble_eq_true rfl⟩ dX9_sells_15 (s_isn 2 rfl (Nat.le_of_ble_eq_true rfl) dX9_sells_18 (s_aln 0 rfl dX9_sells_19 (s_gf (T := TX9) winX9 rfl (Nat.le_of_ble_eq_true rfl) gw_341 rfl dX9_sells_20 (s_aln 0 rfl dX9_sells_23 (s_gf (T := TX9) winX9 rfl (Nat.le_of_ble_eq_true rfl) gw_336 rfl dX9_sells_24 (s_cv (C := RX3) c_X3_add rfl (gb_l5 gw_383 gw_384 gw_385 gw_345 gw_386) v_X3_add ⟨rfl, rfl⟩ ⟨Nat.le_of_ble_eq_true rfl, Nat.le_of_ble_eq_true rfl⟩ dX9_sells_27 (s_aln 0 rfl dX9_sells_30 (s_gf (T := TX9) winX9 rfl (Nat.le_of_ble_eq_true rfl) gw_336 rfl dX9_sells_31 (s_aln 0 rfl dX9_sells_34 (s_gf (T := TX9) winX9 rfl (Nat.le_of_ble_eq_true rfl) gw_336 rfl dX9_sells_35 (s_gf (T := TX7) winX7 rfl (Nat.le_of_ble_eq_true rfl) gw_365 rfl dX9_sells_38 (s_cv (C := RX7) c_X7_valueOfAll rfl (gb_l5 gw_440 gw_441 gw_442 gw_11 gw_443) v_X7_valueOfAll ⟨rfl, rfl⟩ ⟨Nat.le_of_ble_eq_true rfl, Nat.le_of_ble_eq_true rfl⟩ dX9_sells_41 (s_isn 3 rfl (Nat.le_of_ble_eq_true rfl) dX9_sells_44 (s_iconst (by decide +kernel) dX9_sells_45 (s_is (Nat.le_of_ble_eq_true rfl) dX9_sells_46 (s_iconst (by decide +kernel) dX9_sells_48 (s_is (Nat.le_of_ble_eq_true rfl) dX9_sells_49 (s_j (hκ 51)))))))))))))))))))))) (s_iln 1 rfl dX9_sells_9 (s_ri rfl dX9_sells_10)))))))
noncomputable def k_X9_sells_51 (κ : gb_K) : gb_C := (o_il 5 (o_il 2 (o_cge (o_al 0 (o_gf 9 7 (o_cv 0 4 0 f_X4_start (o_al 0 (o_gf 9 7 (o_il 4 (o_i2l (o_cv 1 4 0 f_X4_add (o_al 0 (o_gf 9 7 (o_il 3 (o_i2l (o_cv 1 4 0 f_X4_add (o_al 0 (o_gf 9 7 (o_al 0 (o_gf 9 3 (o_al 0 (o_gf 9 3 (o_gf 7 9 (o_cv 1 7 1 f_X7_valueOfAll (o_i2l (o_cv 1 4 0 f_X4_add (o_il 2 o_ri)))))))))))))))))))))))) (o_il 4 (o_al 0 (o_gf 9 3 (o_al 0 (o_gf 9 10 (o_gf 0 4 (o_il 5 (o_iald (o_al 0 (o_gf 9 8 (o_gf 2 1 (o_il 5 (o_iald (o_cv 2 7 1 f_X7_drawOut (o_ib (fun x y => x + y) (o_is 4 (o_inc 5 1 (o_j [0, 2, 3, 4, 5] (κ 51))))))))))))))))))))))
theorem l_X9_sells_51 : gb_Li (fun κ => k_X9_sells_51 κ) := (gb_li (q_il 5) (gb_li (q_il 2) (q_cge (gb_li (q_al 0) (gb_li (q_gf 9 7) (gb_li (q_cv 0 4 0 f_X4_start) (gb_li (q_al 0) (gb_li (q_gf 9 7) (gb_li (q_il 4) (gb_li q_i2l (gb_li (q_cv 1 4 0 f_X4_add) (gb_li (q_al 0) (gb_li (q_gf 9 7) (gb_li (q_il 3) (gb_li q_i2l (gb_li (q_cv 1 4 0 f_X4_add) (gb_li (q_al 0) (gb_li (q_gf 9 7) (gb_li (q_al 0) (gb_li (q_gf 9 3) (gb_li (q_al 0) (gb_li (q_gf 9 3) (gb_li (q_gf 7 9) (gb_li (q_cv 1 7 1 f_X7_valueOfAll) (gb_li q_i2l (gb_li (q_cv 1 4 0 f_X4_add) (gb_li (q_il 2) (gb_li0 _))))))))))))))))))))))))) (gb_li (q_il 4) (gb_li (q_al 0) (gb_li (q_gf 9 3) (gb_li (q_al 0) (gb_li (q_gf 9 10) (gb_li (q_gf 0 4) (gb_li (q_il 5) (gb_li q_iald (gb_li (q_al 0) (gb_li (q_gf 9 8) (gb_li (q_gf 2 1) (gb_li (q_il 5) (gb_li q_iald (gb_li (q_cv 2 7 1 f_X7_drawOut) (gb_li (q_ib _) (gb_li (q_is 4) (gb_li (q_inc 5 1) (q_j [0, 2, 3, 4, 5] 51)))))))))))))))))))))
theorem s_X9_sells_51   {κ : gb_K} (hκ : ∀ q, gb_S RX9 cX9_sells 6 (gb_rm 12 266) 1 q (κ q)) : gb_S RX9 cX9_sells 6 (gb_rm 12 266) 1 51 (k_X9_sells_51 κ) := (s_il dX9_sells_51 (s_iln 2 rfl dX9_sells_53 (s_cge (tgt := 95) (by decide +kernel) dX9_sells_54 (s_aln 0 rfl dX9_sells_95 (s_gf (T := TX9) winX9 rfl (Nat.le_of_ble_eq_true rfl) gw_388 rfl dX9_sells_96 (s_cv (C := RX4) c_X4_start rfl (gb_l5 gw_389 gw_390 gw_391 gw_392 gw_393) v_X4_start ⟨rfl, rfl⟩ ⟨Nat.le_of_ble_eq_true rfl, Nat.le_of_ble_eq_true rfl⟩ dX9_sells_99 (s_aln 0 rfl dX9_sells_102 (s_gf (T := TX9) winX9 rfl (Nat.le_of_ble_eq_true rfl) gw_388 rfl dX9_sells_103 (s_il dX9_sells_106 (s_i2l dX9_sells_108 (s_cv (C := RX4) c_X4_add rfl (gb_l5 gw_402 gw_403 gw_404 gw_392 gw_405) v_X4_add ⟨rfl, rfl⟩ ⟨Nat.le_of_ble_eq_true rfl, Nat.le_of_ble_eq_true rfl⟩ dX9_sells_109 (s_aln 0 rfl dX9_sells_112 (s_gf (T := TX9) winX9 rfl (Nat.le_of_ble_eq_true rfl) gw_388 rfl dX9_sells_113 (s_iln 3 rfl dX9_sells_116 (s_i2l dX9_sells_117 (s_cv (C := RX4) c_X4_add rfl (gb_l5 gw_402 gw_403 gw_404 gw_392 gw_405) v_X4_add ⟨rfl, rfl⟩ ⟨Nat.le_of_ble_eq_true rfl, Nat.le_of_ble_eq_true rfl⟩ dX9_sells_118 (s_aln 0 rfl dX9_sells_121 (s_gf (T := TX9) winX9 rfl (Nat.le_of_ble_eq_true rfl) gw_388 rfl dX9_sells_122 (s_aln 0 rfl dX9_sells_125 (s_gf (T := TX9) winX9 rfl (Nat.le_of_ble_eq_true rfl) gw_336 rfl dX9_sells_126 (s_aln 0 rfl dX9_sells_129 (s_gf (T := TX9) winX9 rfl (Nat.le_of_ble_eq_true rfl) gw_336 rfl dX9_sells_130 (s_gf (T := TX7) winX7 rfl (Nat.le_of_ble_eq_true rfl) gw_365 rfl dX9_sells_133 (s_cv (C := RX7) c_X7_valueOfAll rfl (gb_l5 gw_440 gw_441 gw_442 gw_11 gw_443) v_X7_valueOfAll ⟨rfl, rfl⟩ ⟨Nat.le_of_ble_eq_true rfl, Nat.le_of_ble_eq_true rfl⟩ dX9_sells_136 (s_i2l dX9_sells_139 (s_cv (C := RX4) c_X4_add rfl (gb_l5 gw_402 gw_403 gw_404 gw_392 gw_405) v_X4_add ⟨rfl, rfl⟩ ⟨Nat.le_of_ble_eq_true rfl, Nat.le_of_ble_eq_true rfl⟩ dX9_sells_140 (s_iln 2 rfl dX9_sells_143 (s_ri rfl dX9_sells_144))))))))))))))))))))))))) (s_il dX9_sells_57 (s_aln 0 rfl dX9_sells_59 (s_gf (T := TX9) winX9 rfl (Nat.le_of_ble_eq_true rfl) gw_336 rfl dX9_sells_60 (s_aln 0 rfl dX9_sells_63 (s_gf (T := TX9) winX9 rfl (Nat.le_of_ble_eq_true rfl) gw_435 rfl dX9_sells_64 (s_gf (T := TX0) winX0 rfl (Nat.le_of_ble_eq_true rfl) gw_444 rfl dX9_sells_67 (s_il dX9_sells_70 (s_iald dX9_sells_72 (s_aln 0 rfl dX9_sells_73 (s_gf (T := TX9) winX9 rfl (Nat.le_of_ble_eq_true rfl) gw_426 rfl dX9_sells_74 (s_gf (T := TX2) winX2 rfl (Nat.le_of_ble_eq_true rfl) gw_445 rfl dX9_sells_77 (s_il dX9_sells_80 (s_iald dX9_sells_82 (s_cv (C := RX7) c_X7_drawOut rfl (gb_l5 gw_394 gw_395 gw_396 gw_11 gw_397) v_X7_drawOut ⟨rfl, rfl⟩ ⟨Nat.le_of_ble_eq_true rfl, Nat.le_of_ble_eq_true rfl⟩ dX9_sells_83 (s_iadd dX9_sells_86 (s_is (Nat.le_of_ble_eq_true rfl) dX9_sells_87 (s_inc (by decide +kernel) (Nat.le_of_ble_eq_true rfl) dX9_sells_89 (s_goto (tgt := 51) (by decide +kernel) dX9_sells_92 (s_j (hκ 51)))))))))))))))))))))))
noncomputable def B_X9_sells : List (Nat × (gb_K → gb_C)) := [(51, fun κ => k_X9_sells_51 κ)]
noncomputable def K_X9_sells : gb_K := gb_fx (gb_tb (B_X9_sells))
theorem L_X9_sells : ∀ q, gb_Li (fun κ => gb_tb (B_X9_sells) κ q) := gb_tb_li (List.forall_mem_cons.mpr ⟨l_X9_sells_51, (fun _ h => absurd h List.not_mem_nil)⟩)
theorem S_X9_sells   : ∀ q, gb_S RX9 cX9_sells 6 (gb_rm 12 266) 1 q (K_X9_sells q) := fun q => gb_fx_S (L_X9_sells) (gb_tb_S (List.forall_mem_cons.mpr ⟨fun κ hκ => s_X9_sells_51 hκ, (fun _ h => absurd h List.not_mem_nil)⟩)) q
noncomputable def f_X9_sells : gb_F := gb_hide (gb_mf 6 (k_X9_sells_0 (K_X9_sells)))
theorem c_X9_sells : ∀ l, gb_Met l yX9_sells cX9_sells 6 (some .int) 1 (gb_rm 12 266) f_X9_sells := gb_hide_c (gb_met (own := RX9) (rk := 1) rfl (by decide +kernel) ⟨rfl, rfl⟩ (s_X9_sells_0 (S_X9_sells)))
theorem dX9_value_0 : decode cX9_value 0 = .ok (.iload_n 1, 1) := by decide +kernel
theorem dX9_value_1 : decode cX9_value 1 = .ok (.invokestatic 136, 3) := by decide +kernel
theorem dX9_value_4 : decode cX9_value 4 = .ok (.ifCond .ne 5, 3) := by decide +kernel
theorem dX9_value_7 : decode cX9_value 7 = .ok (.iconst (-1), 1) := by decide +kernel
theorem dX9_value_8 : decode cX9_value 8 = .ok (.ireturn, 1) := by decide +kernel
theorem dX9_value_9 : decode cX9_value 9 = .ok (.aload_n 0, 1) := by decide +kernel
theorem dX9_value_10 : decode cX9_value 10 = .ok (.getfield 48, 3) := by decide +kernel
theorem dX9_value_13 : decode cX9_value 13 = .ok (.invokevirtual 194, 3) := by decide +kernel
theorem dX9_value_16 : decode cX9_value 16 = .ok (.aload_n 0, 1) := by decide +kernel
theorem dX9_value_17 : decode cX9_value 17 = .ok (.getfield 48, 3) := by decide +kernel
theorem dX9_value_20 : decode cX9_value 20 = .ok (.aload_n 0, 1) := by decide +kernel
theorem dX9_value_21 : decode cX9_value 21 = .ok (.getfield 31, 3) := by decide +kernel
theorem dX9_value_24 : decode cX9_value 24 = .ok (.iload_n 1, 1) := by decide +kernel
theorem dX9_value_25 : decode cX9_value 25 = .ok (.aload_n 0, 1) := by decide +kernel
theorem dX9_value_26 : decode cX9_value 26 = .ok (.getfield 31, 3) := by decide +kernel
theorem dX9_value_29 : decode cX9_value 29 = .ok (.getfield 151, 3) := by decide +kernel
theorem dX9_value_32 : decode cX9_value 32 = .ok (.invokevirtual 237, 3) := by decide +kernel
theorem dX9_value_35 : decode cX9_value 35 = .ok (.i2l, 1) := by decide +kernel
theorem dX9_value_36 : decode cX9_value 36 = .ok (.invokevirtual 199, 3) := by decide +kernel
theorem dX9_value_39 : decode cX9_value 39 = .ok (.aload_n 0, 1) := by decide +kernel
theorem dX9_value_40 : decode cX9_value 40 = .ok (.getfield 48, 3) := by decide +kernel
theorem dX9_value_43 : decode cX9_value 43 = .ok (.aload_n 0, 1) := by decide +kernel
theorem dX9_value_44 : decode cX9_value 44 = .ok (.getfield 31, 3) := by decide +kernel
theorem dX9_value_47 : decode cX9_value 47 = .ok (.iload_n 1, 1) := by decide +kernel
theorem dX9_value_48 : decode cX9_value 48 = .ok (.invokevirtual 240, 3) := by decide +kernel
theorem dX9_value_51 : decode cX9_value 51 = .ok (.i2l, 1) := by decide +kernel
theorem dX9_value_52 : decode cX9_value 52 = .ok (.invokevirtual 199, 3) := by decide +kernel
theorem dX9_value_55 : decode cX9_value 55 = .ok (.aload_n 0, 1) := by decide +kernel
theorem dX9_value_56 : decode cX9_value 56 = .ok (.getfield 48, 3) := by decide +kernel
theorem dX9_value_59 : decode cX9_value 59 = .ok (.aload_n 0, 1) := by decide +kernel
theorem dX9_value_60 : decode cX9_value 60 = .ok (.getfield 31, 3) := by decide +kernel
theorem dX9_value_63 : decode cX9_value 63 = .ok (.iload_n 1, 1) := by decide +kernel
theorem dX9_value_64 : decode cX9_value 64 = .ok (.invokevirtual 243, 3) := by decide +kernel
theorem dX9_value_67 : decode cX9_value 67 = .ok (.i2l, 1) := by decide +kernel
theorem dX9_value_68 : decode cX9_value 68 = .ok (.invokevirtual 199, 3) := by decide +kernel
theorem dX9_value_71 : decode cX9_value 71 = .ok (.aload_n 0, 1) := by decide +kernel
theorem dX9_value_72 : decode cX9_value 72 = .ok (.getfield 31, 3) := by decide +kernel
theorem dX9_value_75 : decode cX9_value 75 = .ok (.iload_n 1, 1) := by decide +kernel
theorem dX9_value_76 : decode cX9_value 76 = .ok (.invokevirtual 208, 3) := by decide +kernel
theorem dX9_value_79 : decode cX9_value 79 = .ok (.ireturn, 1) := by decide +kernel
theorem v_X9_value : yX9_value.cls = RX9 ∧ yX9_value.cls ≠ "java/lang/invoke/MethodHandle" ∧ yX9_value.cls ≠ "java/lang/invoke/VarHandle" ∧ (parseMethodDescriptor yX9_value.desc).map (fun d => d.parameters.length) = some 1 := ⟨rfl, by decide +kernel, by decide +kernel, by decide +kernel⟩
noncomputable def k_X9_value_64 (κ : gb_K) : gb_C := (o_cv 1 7 1 f_X7_rawUnspoilt (o_i2l (o_cv 1 4 0 f_X4_add (o_al 0 (o_gf 9 3 (o_il 1 (o_cv 1 7 1 f_X7_valueOf o_ri)))))))
theorem l_X9_value_64 : gb_Li (fun κ => k_X9_value_64 κ) := (gb_li (q_cv 1 7 1 f_X7_rawUnspoilt) (gb_li q_i2l (gb_li (q_cv 1 4 0 f_X4_add) (gb_li (q_al 0) (gb_li (q_gf 9 3) (gb_li (q_il 1) (gb_li (q_cv 1 7 1 f_X7_valueOf) (gb_li0 _))))))))
theorem s_X9_value_64   {κ : gb_K} (hκ : ∀ q, gb_S RX9 cX9_value 2 (gb_rm 5 113) 1 q (κ q)) : gb_S RX9 cX9_value 2 (gb_rm 5 113) 1 64 (k_X9_value_64 κ) := (s_cv (C := RX7) c_X7_rawUnspoilt rfl (gb_l5 gw_446 gw_447 gw_448 gw_11 gw_449) v_X7_rawUnspoilt ⟨rfl, rfl⟩ ⟨Nat.le_of_ble_eq_true rfl, Nat.le_of_ble_eq_true rfl⟩ dX9_value_64 (s_i2l dX9_value_67 (s_cv (C := RX4) c_X4_add rfl (gb_l5 gw_402 gw_403 gw_404 gw_392 gw_405) v_X4_add ⟨rfl, rfl⟩ ⟨Nat.le_of_ble_eq_true rfl, Nat.le_of_ble_eq_true rfl⟩ dX9_value_68 (s_aln 0 rfl dX9_value_71 (s_gf (T := TX9) winX9 rfl (Nat.le_of_ble_eq_true rfl) gw_336 rfl dX9_value_72 (s_iln 1 rfl dX9_value_75 (s_cv (C := RX7) c_X7_valueOf rfl (gb_l5 gw_406 gw_407 gw_408 gw_11 gw_409) v_X7_valueOf ⟨rfl, rfl⟩ ⟨Nat.le_of_ble_eq_true rfl, Nat.le_of_ble_eq_true rfl⟩ dX9_value_76 (s_ri rfl dX9_value_79))))))))
noncomputable def k_X9_value_0 (κ : gb_K) : gb_C := (o_il 1 (o_cs 1 2 f_X9_isBin (o_zeq (o_ci (-1) o_ri) (o_al 0 (o_gf 9 7 (o_cv 0 4 0 f_X4_start (o_al 0 (o_gf 9 7 (o_al 0 (o_gf 9 3 (o_il 1 (o_al 0 (o_gf 9 3 (o_gf 7 9 (o_cv 2 7 1 f_X7_raw (o_i2l (o_cv 1 4 0 f_X4_add (o_al 0 (o_gf 9 7 (o_al 0 (o_gf 9 3 (o_il 1 (o_cv 1 7 1 f_X7_mixedIn (o_i2l (o_cv 1 4 0 f_X4_add (o_al 0 (o_gf 9 7 (o_al 0 (o_gf 9 3 (o_il 1 (k_X9_value_64 κ)))))))))))))))))))))))))))))))
theorem l_X9_value_0 : gb_Li (fun κ => k_X9_value_0 κ) := (gb_li (q_il 1) (gb_li (q_cs 1 2 f_X9_isBin) (q_zeq (gb_li (q_ci (-1)) (gb_li0 _)) (gb_li (q_al 0) (gb_li (q_gf 9 7) (gb_li (q_cv 0 4 0 f_X4_start) (gb_li (q_al 0) (gb_li (q_gf 9 7) (gb_li (q_al 0) (gb_li (q_gf 9 3) (gb_li (q_il 1) (gb_li (q_al 0) (gb_li (q_gf 9 3) (gb_li (q_gf 7 9) (gb_li (q_cv 2 7 1 f_X7_raw) (gb_li q_i2l (gb_li (q_cv 1 4 0 f_X4_add) (gb_li (q_al 0) (gb_li (q_gf 9 7) (gb_li (q_al 0) (gb_li (q_gf 9 3) (gb_li (q_il 1) (gb_li (q_cv 1 7 1 f_X7_mixedIn) (gb_li q_i2l (gb_li (q_cv 1 4 0 f_X4_add) (gb_li (q_al 0) (gb_li (q_gf 9 7) (gb_li (q_al 0) (gb_li (q_gf 9 3) (gb_li (q_il 1) (l_X9_value_64)))))))))))))))))))))))))))))))
theorem s_X9_value_0   {κ : gb_K} (hκ : ∀ q, gb_S RX9 cX9_value 2 (gb_rm 5 113) 1 q (κ q)) : gb_S RX9 cX9_value 2 (gb_rm 5 113) 1 0 (k_X9_value_0 κ) := (s_iln 1 rfl dX9_value_0 (s_cs c_X9_isBin (gb_l4 gw_370 gw_371 gw_356 gw_372) v_X9_isBin.2 ⟨rfl, rfl⟩ ⟨Nat.le_of_ble_eq_true rfl, Nat.le_of_ble_eq_true rfl⟩ dX9_value_1 (s_zne (tgt := 9) (by decide +kernel) dX9_value_4 (s_aln 0 rfl dX9_value_9 (s_gf (T := TX9) winX9 rfl (Nat.le_of_ble_eq_true rfl) gw_388 rfl dX9_value_10 (s_cv (C := RX4) c_X4_start rfl (gb_l5 gw_389 gw_390 gw_391 gw_392 gw_393) v_X4_start ⟨rfl, rfl⟩ ⟨Nat.le_of_ble_eq_true rfl, Nat.le_of_ble_eq_true rfl⟩ dX9_value_13 (s_aln 0 rfl dX9_value_16 (s_gf (T := TX9) winX9 rfl (Nat.le_of_ble_eq_true rfl) gw_388 rfl dX9_value_17 (s_aln 0 rfl dX9_value_20 (s_gf (T := TX9) winX9 rfl (Nat.le_of_ble_eq_true rfl) gw_336 rfl dX9_value_21 (s_iln 1 rfl dX9_value_24 (s_aln 0 rfl dX9_value_25 (s_gf (T := TX9) winX9 rfl (Nat.le_of_ble_eq_true rfl) gw_336 rfl dX9_value_26 (s_gf (T := TX7) winX7 rfl (Nat.le_of_ble_eq_true rfl) gw_365 rfl dX9_value_29 (s_cv (C := RX7) c_X7_raw rfl (gb_l5 gw_450 gw_285 gw_286 gw_11 gw_287) v_X7_raw ⟨rfl, rfl⟩ ⟨Nat.le_of_ble_eq_true rfl, Nat.le_of_ble_eq_true rfl⟩ dX9_value_32 (s_i2l dX9_value_35 (s_cv (C := RX4) c_X4_add rfl (gb_l5 gw_402 gw_403 gw_404 gw_392 gw_405) v_X4_add ⟨rfl, rfl⟩ ⟨Nat.le_of_ble_eq_true rfl, Nat.le_of_ble_eq_true rfl⟩ dX9_value_36 (s_aln 0 rfl dX9_value_39 (s_gf (T := TX9) winX9 rfl (Nat.le_of_ble_eq_true rfl) gw_388 rfl dX9_value_40 (s_aln 0 rfl dX9_value_43 (s_gf (T := TX9) winX9 rfl (Nat.le_of_ble_eq_true rfl) gw_336 rfl dX9_value_44 (s_iln 1 rfl dX9_value_47 (s_cv (C := RX7) c_X7_mixedIn rfl (gb_l5 gw_451 gw_289 gw_290 gw_11 gw_291) v_X7_mixedIn ⟨rfl, rfl⟩ ⟨Nat.le_of_ble_eq_true rfl, Nat.le_of_ble_eq_true rfl⟩ dX9_value_48 (s_i2l dX9_value_51 (s_cv (C := RX4) c_X4_add rfl (gb_l5 gw_402 gw_403 gw_404 gw_392 gw_405) v_X4_add ⟨rfl, rfl⟩ ⟨Nat.le_of_ble_eq_true rfl, Nat.le_of_ble_eq_true rfl⟩ dX9_value_52 (s_aln 0 rfl dX9_value_55 (s_gf (T := TX9) winX9 rfl (Nat.le_of_ble_eq_true rfl) gw_388 rfl dX9_value_56 (s_aln 0 rfl dX9_value_59 (s_gf (T := TX9) winX9 rfl (Nat.le_of_ble_eq_true rfl) gw_336 rfl dX9_value_60 (s_iln 1 rfl dX9_value_63 (s_X9_value_64 hκ)))))))))))))))))))))))))))) (s_iconst (by decide +kernel) dX9_value_7 (s_ri rfl dX9_value_8)))))
noncomputable def f_X9_value : gb_F := gb_hide (gb_mf 2 (k_X9_value_0 gb_n))
theorem c_X9_value : ∀ l, gb_Met l yX9_value cX9_value 2 (some .int) 1 (gb_rm 5 113) f_X9_value := gb_hide_c (gb_met (own := RX9) (rk := 1) rfl (by decide +kernel) ⟨rfl, rfl⟩ (s_X9_value_0 gb_S_n))
theorem dX9_all_0 : decode cX9_all 0 = .ok (.aload_n 0, 1) := by decide +kernel
theorem dX9_all_1 : decode cX9_all 1 = .ok (.getfield 48, 3) := by decide +kernel
theorem dX9_all_4 : decode cX9_all 4 = .ok (.invokevirtual 194, 3) := by decide +kernel
theorem dX9_all_7 : decode cX9_all 7 = .ok (.iconst 0, 1) := by decide +kernel
theorem dX9_all_8 : decode cX9_all 8 = .ok (.istore_n 1, 1) := by decide +kernel
theorem dX9_all_9 : decode cX9_all 9 = .ok (.iload_n 1, 1) := by decide +kernel
theorem dX9_all_10 : decode cX9_all 10 = .ok (.bipush 6, 2) := by decide +kernel
theorem dX9_all_12 : decode cX9_all 12 = .ok (.if_icmp .ge 25, 3) := by decide +kernel
theorem dX9_all_15 : decode cX9_all 15 = .ok (.aload_n 0, 1) := by decide +kernel
theorem dX9_all_16 : decode cX9_all 16 = .ok (.getfield 48, 3) := by decide +kernel
theorem dX9_all_19 : decode cX9_all 19 = .ok (.aload_n 0, 1) := by decide +kernel
theorem dX9_all_20 : decode cX9_all 20 = .ok (.getfield 31, 3) := by decide +kernel
theorem dX9_all_23 : decode cX9_all 23 = .ok (.iload_n 1, 1) := by decide +kernel
theorem dX9_all_24 : decode cX9_all 24 = .ok (.invokevirtual 208, 3) := by decide +kernel
theorem dX9_all_27 : decode cX9_all 27 = .ok (.i2l, 1) := by decide +kernel
theorem dX9_all_28 : decode cX9_all 28 = .ok (.invokevirtual 199, 3) := by decide +kernel
theorem dX9_all_31 : decode cX9_all 31 = .ok (.iinc 1 1, 3) := by decide +kernel
theorem dX9_all_34 : decode cX9_all 34 = .ok (.goto (-25), 3) := by decide +kernel
theorem dX9_all_37 : decode cX9_all 37 = .ok (.aload_n 0, 1) := by decide +kernel
theorem dX9_all_38 : decode cX9_all 38 = .ok (.getfield 31, 3) := by decide +kernel
theorem dX9_all_41 : decode cX9_all 41 = .ok (.aload_n 0, 1) := by decide +kernel
theorem dX9_all_42 : decode cX9_all 42 = .ok (.getfield 31, 3) := by decide +kernel
theorem dX9_all_45 : decode cX9_all 45 = .ok (.getfield 151, 3) := by decide +kernel
theorem dX9_all_48 : decode cX9_all 48 = .ok (.invokevirtual 230, 3) := by decide +kernel
theorem dX9_all_51 : decode cX9_all 51 = .ok (.ireturn, 1) := by decide +kernel
theorem v_X9_all : yX9_all.cls = RX9 ∧ yX9_all.cls ≠ "java/lang/invoke/MethodHandle" ∧ yX9_all.cls ≠ "java/lang/invoke/VarHandle" ∧ (parseMethodDescriptor yX9_all.desc).map (fun d => d.parameters.length) = some 0 := ⟨rfl, by decide +kernel, by decide +kernel, by decide +kernel⟩
noncomputable def k_X9_all_0 (κ : gb_K) : gb_C := (o_al 0 (o_gf 9 7 (o_cv 0 4 0 f_X4_start (o_ci 0 (o_is 1 (o_j [0, 1] (κ 9)))))))
theorem l_X9_all_0 : gb_Li (fun κ => k_X9_all_0 κ) := (gb_li (q_al 0) (gb_li (q_gf 9 7) (gb_li (q_cv 0 4 0 f_X4_start) (gb_li (q_ci 0) (gb_li (q_is 1) (q_j [0, 1] 9))))))
theorem s_X9_all_0   {κ : gb_K} (hκ : ∀ q, gb_S RX9 cX9_all 2 (gb_rm 5 115) 1 q (κ q)) : gb_S RX9 cX9_all 2 (gb_rm 5 115) 1 0 (k_X9_all_0 κ) := (s_aln 0 rfl dX9_all_0 (s_gf (T := TX9) winX9 rfl (Nat.le_of_ble_eq_true rfl) gw_388 rfl dX9_all_1 (s_cv (C := RX4) c_X4_start rfl (gb_l5 gw_389 gw_390 gw_391 gw_392 gw_393) v_X4_start ⟨rfl, rfl⟩ ⟨Nat.le_of_ble_eq_true rfl, Nat.le_of_ble_eq_true rfl⟩ dX9_all_4 (s_iconst (by decide +kernel) dX9_all_7 (s_isn 1 rfl (Nat.le_of_ble_eq_true rfl) dX9_all_8 (s_j (hκ 9)))))))
noncomputable def k_X9_all_9 (κ : gb_K) : gb_C := (o_il 1 (o_ci 6 (o_cge (o_al 0 (o_gf 9 3 (o_al 0 (o_gf 9 3 (o_gf 7 9 (o_cv 1 7 1 f_X7_valueOfAll o_ri)))))) (o_al 0 (o_gf 9 7 (o_al 0 (o_gf 9 3 (o_il 1 (o_cv 1 7 1 f_X7_valueOf (o_i2l (o_cv 1 4 0 f_X4_add (o_inc 1 1 (o_j [0, 1] (κ 9))))))))))))))
theorem l_X9_all_9 : gb_Li (fun κ => k_X9_all_9 κ) := (gb_li (q_il 1) (gb_li (q_ci 6) (q_cge (gb_li (q_al 0) (gb_li (q_gf 9 3) (gb_li (q_al 0) (gb_li (q_gf 9 3) (gb_li (q_gf 7 9) (gb_li (q_cv 1 7 1 f_X7_valueOfAll) (gb_li0 _))))))) (gb_li (q_al 0) (gb_li (q_gf 9 7) (gb_li (q_al 0) (gb_li (q_gf 9 3) (gb_li (q_il 1) (gb_li (q_cv 1 7 1 f_X7_valueOf) (gb_li q_i2l (gb_li (q_cv 1 4 0 f_X4_add) (gb_li (q_inc 1 1) (q_j [0, 1] 9)))))))))))))
theorem s_X9_all_9   {κ : gb_K} (hκ : ∀ q, gb_S RX9 cX9_all 2 (gb_rm 5 115) 1 q (κ q)) : gb_S RX9 cX9_all 2 (gb_rm 5 115) 1 9 (k_X9_all_9 κ) := (s_iln 1 rfl dX9_all_9 (s_bipush (by decide +kernel) dX9_all_10 (s_cge (tgt := 37) (by decide +kernel) dX9_all_12 (s_aln 0 rfl dX9_all_37 (s_gf (T := TX9) winX9 rfl (Nat.le_of_ble_eq_true rfl) gw_336 rfl dX9_all_38 (s_aln 0 rfl dX9_all_41 (s_gf (T := TX9) winX9 rfl (Nat.le_of_ble_eq_true rfl) gw_336 rfl dX9_all_42 (s_gf (T := TX7) winX7 rfl (Nat.le_of_ble_eq_true rfl) gw_365 rfl dX9_all_45 (s_cv (C := RX7) c_X7_valueOfAll rfl (gb_l5 gw_440 gw_441 gw_442 gw_11 gw_443) v_X7_valueOfAll ⟨rfl, rfl⟩ ⟨Nat.le_of_ble_eq_true rfl, Nat.le_of_ble_eq_true rfl⟩ dX9_all_48 (s_ri rfl dX9_all_51))))))) (s_aln 0 rfl dX9_all_15 (s_gf (T := TX9) winX9 rfl (Nat.le_of_ble_eq_true rfl) gw_388 rfl dX9_all_16 (s_aln 0 rfl dX9_all_19 (s_gf (T := TX9) winX9 rfl (Nat.le_of_ble_eq_true rfl) gw_336 rfl dX9_all_20 (s_iln 1 rfl dX9_all_23 (s_cv (C := RX7) c_X7_valueOf rfl (gb_l5 gw_406 gw_407 gw_408 gw_11 gw_409) v_X7_valueOf ⟨rfl, rfl⟩ ⟨Nat.le_of_ble_eq_true rfl, Nat.le_of_ble_eq_true rfl⟩ dX9_all_24 (s_i2l dX9_all_27 (s_cv (C := RX4) c_X4_add rfl (gb_l5 gw_402 gw_403 gw_404 gw_392 gw_405) v_X4_add ⟨rfl, rfl⟩ ⟨Nat.le_of_ble_eq_true rfl, Nat.le_of_ble_eq_true rfl⟩ dX9_all_28 (s_inc (by decide +kernel) (Nat.le_of_ble_eq_true rfl) dX9_all_31 (s_goto (tgt := 9) (by decide +kernel) dX9_all_34 (s_j (hκ 9)))))))))))))))
noncomputable def B_X9_all : List (Nat × (gb_K → gb_C)) := [(9, fun κ => k_X9_all_9 κ)]
noncomputable def K_X9_all : gb_K := gb_fx (gb_tb (B_X9_all))
theorem L_X9_all : ∀ q, gb_Li (fun κ => gb_tb (B_X9_all) κ q) := gb_tb_li (List.forall_mem_cons.mpr ⟨l_X9_all_9, (fun _ h => absurd h List.not_mem_nil)⟩)
theorem S_X9_all   : ∀ q, gb_S RX9 cX9_all 2 (gb_rm 5 115) 1 q (K_X9_all q) := fun q => gb_fx_S (L_X9_all) (gb_tb_S (List.forall_mem_cons.mpr ⟨fun κ hκ => s_X9_all_9 hκ, (fun _ h => absurd h List.not_mem_nil)⟩)) q
noncomputable def f_X9_all : gb_F := gb_hide (gb_mf 2 (k_X9_all_0 (K_X9_all)))
theorem c_X9_all : ∀ l, gb_Met l yX9_all cX9_all 2 (some .int) 1 (gb_rm 5 115) f_X9_all := gb_hide_c (gb_met (own := RX9) (rk := 1) rfl (by decide +kernel) ⟨rfl, rfl⟩ (s_X9_all_0 (S_X9_all)))
theorem dX9_mixed_0 : decode cX9_mixed 0 = .ok (.iload_n 1, 1) := by decide +kernel
theorem dX9_mixed_1 : decode cX9_mixed 1 = .ok (.invokestatic 114, 3) := by decide +kernel
theorem dX9_mixed_4 : decode cX9_mixed 4 = .ok (.ifCond .ne 5, 3) := by decide +kernel
theorem dX9_mixed_7 : decode cX9_mixed 7 = .ok (.iconst (-1), 1) := by decide +kernel
theorem dX9_mixed_8 : decode cX9_mixed 8 = .ok (.ireturn, 1) := by decide +kernel
theorem dX9_mixed_9 : decode cX9_mixed 9 = .ok (.aload_n 0, 1) := by decide +kernel
theorem dX9_mixed_10 : decode cX9_mixed 10 = .ok (.getfield 48, 3) := by decide +kernel
theorem dX9_mixed_13 : decode cX9_mixed 13 = .ok (.invokevirtual 194, 3) := by decide +kernel
theorem dX9_mixed_16 : decode cX9_mixed 16 = .ok (.iconst 0, 1) := by decide +kernel
theorem dX9_mixed_17 : decode cX9_mixed 17 = .ok (.istore_n 2, 1) := by decide +kernel
theorem dX9_mixed_18 : decode cX9_mixed 18 = .ok (.iconst 0, 1) := by decide +kernel
theorem dX9_mixed_19 : decode cX9_mixed 19 = .ok (.istore_n 3, 1) := by decide +kernel
theorem dX9_mixed_20 : decode cX9_mixed 20 = .ok (.iload_n 3, 1) := by decide +kernel
theorem dX9_mixed_21 : decode cX9_mixed 21 = .ok (.bipush 6, 2) := by decide +kernel
theorem dX9_mixed_23 : decode cX9_mixed 23 = .ok (.if_icmp .ge 59, 3) := by decide +kernel
theorem dX9_mixed_26 : decode cX9_mixed 26 = .ok (.iconst 0, 1) := by decide +kernel
theorem dX9_mixed_27 : decode cX9_mixed 27 = .ok (.istore 4, 2) := by decide +kernel
theorem dX9_mixed_29 : decode cX9_mixed 29 = .ok (.iconst 0, 1) := by decide +kernel
theorem dX9_mixed_30 : decode cX9_mixed 30 = .ok (.istore 5, 2) := by decide +kernel
theorem dX9_mixed_32 : decode cX9_mixed 32 = .ok (.iload 5, 2) := by decide +kernel
theorem dX9_mixed_34 : decode cX9_mixed 34 = .ok (.bipush 6, 2) := by decide +kernel
theorem dX9_mixed_36 : decode cX9_mixed 36 = .ok (.if_icmp .ge 25, 3) := by decide +kernel
theorem dX9_mixed_39 : decode cX9_mixed 39 = .ok (.iload 4, 2) := by decide +kernel
theorem dX9_mixed_41 : decode cX9_mixed 41 = .ok (.aload_n 0, 1) := by decide +kernel
theorem dX9_mixed_42 : decode cX9_mixed 42 = .ok (.getfield 31, 3) := by decide +kernel
theorem dX9_mixed_45 : decode cX9_mixed 45 = .ok (.iload 5, 2) := by decide +kernel
theorem dX9_mixed_47 : decode cX9_mixed 47 = .ok (.iload_n 1, 1) := by decide +kernel
theorem dX9_mixed_48 : decode cX9_mixed 48 = .ok (.iload_n 3, 1) := by decide +kernel
theorem dX9_mixed_49 : decode cX9_mixed 49 = .ok (.invokevirtual 246, 3) := by decide +kernel
theorem dX9_mixed_52 : decode cX9_mixed 52 = .ok (.iadd, 1) := by decide +kernel
theorem dX9_mixed_53 : decode cX9_mixed 53 = .ok (.istore 4, 2) := by decide +kernel
theorem dX9_mixed_55 : decode cX9_mixed 55 = .ok (.iinc 5 1, 3) := by decide +kernel
theorem dX9_mixed_58 : decode cX9_mixed 58 = .ok (.goto (-26), 3) := by decide +kernel
theorem dX9_mixed_61 : decode cX9_mixed 61 = .ok (.aload_n 0, 1) := by decide +kernel
theorem dX9_mixed_62 : decode cX9_mixed 62 = .ok (.getfield 48, 3) := by decide +kernel
theorem dX9_mixed_65 : decode cX9_mixed 65 = .ok (.iload 4, 2) := by decide +kernel
theorem dX9_mixed_67 : decode cX9_mixed 67 = .ok (.i2l, 1) := by decide +kernel
theorem dX9_mixed_68 : decode cX9_mixed 68 = .ok (.invokevirtual 199, 3) := by decide +kernel
theorem dX9_mixed_71 : decode cX9_mixed 71 = .ok (.iload_n 2, 1) := by decide +kernel
theorem dX9_mixed_72 : decode cX9_mixed 72 = .ok (.iload 4, 2) := by decide +kernel
theorem dX9_mixed_74 : decode cX9_mixed 74 = .ok (.iadd, 1) := by decide +kernel
theorem dX9_mixed_75 : decode cX9_mixed 75 = .ok (.istore_n 2, 1) := by decide +kernel
theorem dX9_mixed_76 : decode cX9_mixed 76 = .ok (.iinc 3 1, 3) := by decide +kernel
theorem dX9_mixed_79 : decode cX9_mixed 79 = .ok (.goto (-59), 3) := by decide +kernel
theorem dX9_mixed_82 : decode cX9_mixed 82 = .ok (.iload_n 2, 1) := by decide +kernel
theorem dX9_mixed_83 : decode cX9_mixed 83 = .ok (.ireturn, 1) := by decide +kernel
theorem v_X9_mixed : yX9_mixed.cls = RX9 ∧ yX9_mixed.cls ≠ "java/lang/invoke/MethodHandle" ∧ yX9_mixed.cls ≠ "java/lang/invoke/VarHandle" ∧ (parseMethodDescriptor yX9_mixed.desc).map (fun d => d.parameters.length) = some 1 := ⟨rfl, by decide +kernel, by decide +kernel, by decide +kernel⟩
noncomputable def k_X9_mixed_0 (κ : gb_K) : gb_C := (o_il 1 (o_cs 1 2 f_X9_isGrade (o_zeq (o_ci (-1) o_ri) (o_al 0 (o_gf 9 7 (o_cv 0 4 0 f_X4_start (o_ci 0 (o_is 2 (o_ci 0 (o_is 3 (o_j [0, 1, 2, 3] (κ 20))))))))))))
theorem l_X9_mixed_0 : gb_Li (fun κ => k_X9_mixed_0 κ) := (gb_li (q_il 1) (gb_li (q_cs 1 2 f_X9_isGrade) (q_zeq (gb_li (q_ci (-1)) (gb_li0 _)) (gb_li (q_al 0) (gb_li (q_gf 9 7) (gb_li (q_cv 0 4 0 f_X4_start) (gb_li (q_ci 0) (gb_li (q_is 2) (gb_li (q_ci 0) (gb_li (q_is 3) (q_j [0, 1, 2, 3] 20)))))))))))
theorem s_X9_mixed_0   {κ : gb_K} (hκ : ∀ q, gb_S RX9 cX9_mixed 6 (gb_rm 2 46) 1 q (κ q)) : gb_S RX9 cX9_mixed 6 (gb_rm 2 46) 1 0 (k_X9_mixed_0 κ) := (s_iln 1 rfl dX9_mixed_0 (s_cs c_X9_isGrade (gb_l4 gw_354 gw_355 gw_356 gw_357) v_X9_isGrade.2 ⟨rfl, rfl⟩ ⟨Nat.le_of_ble_eq_true rfl, Nat.le_of_ble_eq_true rfl⟩ dX9_mixed_1 (s_zne (tgt := 9) (by decide +kernel) dX9_mixed_4 (s_aln 0 rfl dX9_mixed_9 (s_gf (T := TX9) winX9 rfl (Nat.le_of_ble_eq_true rfl) gw_388 rfl dX9_mixed_10 (s_cv (C := RX4) c_X4_start rfl (gb_l5 gw_389 gw_390 gw_391 gw_392 gw_393) v_X4_start ⟨rfl, rfl⟩ ⟨Nat.le_of_ble_eq_true rfl, Nat.le_of_ble_eq_true rfl⟩ dX9_mixed_13 (s_iconst (by decide +kernel) dX9_mixed_16 (s_isn 2 rfl (Nat.le_of_ble_eq_true rfl) dX9_mixed_17 (s_iconst (by decide +kernel) dX9_mixed_18 (s_isn 3 rfl (Nat.le_of_ble_eq_true rfl) dX9_mixed_19 (s_j (hκ 20))))))))) (s_iconst (by decide +kernel) dX9_mixed_7 (s_ri rfl dX9_mixed_8)))))
noncomputable def k_X9_mixed_20 (κ : gb_K) : gb_C := (o_il 3 (o_ci 6 (o_cge (o_il 2 o_ri) (o_ci 0 (o_is 4 (o_ci 0 (o_is 5 (o_j [0, 1, 2, 3, 4, 5] (κ 32)))))))))
theorem l_X9_mixed_20 : gb_Li (fun κ => k_X9_mixed_20 κ) := (gb_li (q_il 3) (gb_li (q_ci 6) (q_cge (gb_li (q_il 2) (gb_li0 _)) (gb_li (q_ci 0) (gb_li (q_is 4) (gb_li (q_ci 0) (gb_li (q_is 5) (q_j [0, 1, 2, 3, 4, 5] 32))))))))
theorem s_X9_mixed_20   {κ : gb_K} (hκ : ∀ q, gb_S RX9 cX9_mixed 6 (gb_rm 2 46) 1 q (κ q)) : gb_S RX9 cX9_mixed 6 (gb_rm 2 46) 1 20 (k_X9_mixed_20 κ) := (s_iln 3 rfl dX9_mixed_20 (s_bipush (by decide +kernel) dX9_mixed_21 (s_cge (tgt := 82) (by decide +kernel) dX9_mixed_23 (s_iln 2 rfl dX9_mixed_82 (s_ri rfl dX9_mixed_83)) (s_iconst (by decide +kernel) dX9_mixed_26 (s_is (Nat.le_of_ble_eq_true rfl) dX9_mixed_27 (s_iconst (by decide +kernel) dX9_mixed_29 (s_is (Nat.le_of_ble_eq_true rfl) dX9_mixed_30 (s_j (hκ 32)))))))))
noncomputable def k_X9_mixed_32 (κ : gb_K) : gb_C := (o_il 5 (o_ci 6 (o_cge (o_al 0 (o_gf 9 7 (o_il 4 (o_i2l (o_cv 1 4 0 f_X4_add (o_il 2 (o_il 4 (o_ib (fun x y => x + y) (o_is 2 (o_inc 3 1 (o_j [0, 1, 2, 3] (κ 20)))))))))))) (o_il 4 (o_al 0 (o_gf 9 3 (o_il 5 (o_il 1 (o_il 3 (o_cv 3 7 1 f_X7_mixedOf (o_ib (fun x y => x + y) (o_is 4 (o_inc 5 1 (o_j [0, 1, 2, 3, 4, 5] (κ 32)))))))))))))))
theorem l_X9_mixed_32 : gb_Li (fun κ => k_X9_mixed_32 κ) := (gb_li (q_il 5) (gb_li (q_ci 6) (q_cge (gb_li (q_al 0) (gb_li (q_gf 9 7) (gb_li (q_il 4) (gb_li q_i2l (gb_li (q_cv 1 4 0 f_X4_add) (gb_li (q_il 2) (gb_li (q_il 4) (gb_li (q_ib _) (gb_li (q_is 2) (gb_li (q_inc 3 1) (q_j [0, 1, 2, 3] 20))))))))))) (gb_li (q_il 4) (gb_li (q_al 0) (gb_li (q_gf 9 3) (gb_li (q_il 5) (gb_li (q_il 1) (gb_li (q_il 3) (gb_li (q_cv 3 7 1 f_X7_mixedOf) (gb_li (q_ib _) (gb_li (q_is 4) (gb_li (q_inc 5 1) (q_j [0, 1, 2, 3, 4, 5] 32))))))))))))))
theorem s_X9_mixed_32   {κ : gb_K} (hκ : ∀ q, gb_S RX9 cX9_mixed 6 (gb_rm 2 46) 1 q (κ q)) : gb_S RX9 cX9_mixed 6 (gb_rm 2 46) 1 32 (k_X9_mixed_32 κ) := (s_il dX9_mixed_32 (s_bipush (by decide +kernel) dX9_mixed_34 (s_cge (tgt := 61) (by decide +kernel) dX9_mixed_36 (s_aln 0 rfl dX9_mixed_61 (s_gf (T := TX9) winX9 rfl (Nat.le_of_ble_eq_true rfl) gw_388 rfl dX9_mixed_62 (s_il dX9_mixed_65 (s_i2l dX9_mixed_67 (s_cv (C := RX4) c_X4_add rfl (gb_l5 gw_402 gw_403 gw_404 gw_392 gw_405) v_X4_add ⟨rfl, rfl⟩ ⟨Nat.le_of_ble_eq_true rfl, Nat.le_of_ble_eq_true rfl⟩ dX9_mixed_68 (s_iln 2 rfl dX9_mixed_71 (s_il dX9_mixed_72 (s_iadd dX9_mixed_74 (s_isn 2 rfl (Nat.le_of_ble_eq_true rfl) dX9_mixed_75 (s_inc (by decide +kernel) (Nat.le_of_ble_eq_true rfl) dX9_mixed_76 (s_goto (tgt := 20) (by decide +kernel) dX9_mixed_79 (s_j (hκ 20))))))))))))) (s_il dX9_mixed_39 (s_aln 0 rfl dX9_mixed_41 (s_gf (T := TX9) winX9 rfl (Nat.le_of_ble_eq_true rfl) gw_336 rfl dX9_mixed_42 (s_il dX9_mixed_45 (s_iln 1 rfl dX9_mixed_47 (s_iln 3 rfl dX9_mixed_48 (s_cv (C := RX7) c_X7_mixedOf rfl (gb_l5 gw_452 gw_281 gw_282 gw_11 gw_283) v_X7_mixedOf ⟨rfl, rfl⟩ ⟨Nat.le_of_ble_eq_true rfl, Nat.le_of_ble_eq_true rfl⟩ dX9_mixed_49 (s_iadd dX9_mixed_52 (s_is (Nat.le_of_ble_eq_true rfl) dX9_mixed_53 (s_inc (by decide +kernel) (Nat.le_of_ble_eq_true rfl) dX9_mixed_55 (s_goto (tgt := 32) (by decide +kernel) dX9_mixed_58 (s_j (hκ 32))))))))))))))))
noncomputable def B_X9_mixed : List (Nat × (gb_K → gb_C)) := [(20, fun κ => k_X9_mixed_20 κ), (32, fun κ => k_X9_mixed_32 κ)]
noncomputable def K_X9_mixed : gb_K := gb_fx (gb_tb (B_X9_mixed))
theorem L_X9_mixed : ∀ q, gb_Li (fun κ => gb_tb (B_X9_mixed) κ q) := gb_tb_li (List.forall_mem_cons.mpr ⟨l_X9_mixed_20, List.forall_mem_cons.mpr ⟨l_X9_mixed_32, (fun _ h => absurd h List.not_mem_nil)⟩⟩)
theorem S_X9_mixed   : ∀ q, gb_S RX9 cX9_mixed 6 (gb_rm 2 46) 1 q (K_X9_mixed q) := fun q => gb_fx_S (L_X9_mixed) (gb_tb_S (List.forall_mem_cons.mpr ⟨fun κ hκ => s_X9_mixed_20 hκ, List.forall_mem_cons.mpr ⟨fun κ hκ => s_X9_mixed_32 hκ, (fun _ h => absurd h List.not_mem_nil)⟩⟩)) q
noncomputable def f_X9_mixed : gb_F := gb_hide (gb_mf 6 (k_X9_mixed_0 (K_X9_mixed)))
theorem c_X9_mixed : ∀ l, gb_Met l yX9_mixed cX9_mixed 6 (some .int) 1 (gb_rm 2 46) f_X9_mixed := gb_hide_c (gb_met (own := RX9) (rk := 1) rfl (by decide +kernel) ⟨rfl, rfl⟩ (s_X9_mixed_0 (S_X9_mixed)))
theorem dX9_would_0 : decode cX9_would 0 = .ok (.iload_n 1, 1) := by decide +kernel
theorem dX9_would_1 : decode cX9_would 1 = .ok (.invokestatic 114, 3) := by decide +kernel
theorem dX9_would_4 : decode cX9_would 4 = .ok (.ifCond .eq 17, 3) := by decide +kernel
theorem dX9_would_7 : decode cX9_would 7 = .ok (.iload_n 2, 1) := by decide +kernel
theorem dX9_would_8 : decode cX9_would 8 = .ok (.invokestatic 177, 3) := by decide +kernel
theorem dX9_would_11 : decode cX9_would 11 = .ok (.ifCond .eq 10, 3) := by decide +kernel
theorem dX9_would_14 : decode cX9_would 14 = .ok (.iload_n 3, 1) := by decide +kernel
theorem dX9_would_15 : decode cX9_would 15 = .ok (.invokestatic 136, 3) := by decide +kernel
theorem dX9_would_18 : decode cX9_would 18 = .ok (.ifCond .ne 5, 3) := by decide +kernel
theorem dX9_would_21 : decode cX9_would 21 = .ok (.iconst (-1), 1) := by decide +kernel
theorem dX9_would_22 : decode cX9_would 22 = .ok (.ireturn, 1) := by decide +kernel
theorem dX9_would_23 : decode cX9_would 23 = .ok (.aload_n 0, 1) := by decide +kernel
theorem dX9_would_24 : decode cX9_would 24 = .ok (.getfield 31, 3) := by decide +kernel
theorem dX9_would_27 : decode cX9_would 27 = .ok (.iload_n 3, 1) := by decide +kernel
theorem dX9_would_28 : decode cX9_would 28 = .ok (.iload_n 1, 1) := by decide +kernel
theorem dX9_would_29 : decode cX9_would 29 = .ok (.iload_n 2, 1) := by decide +kernel
theorem dX9_would_30 : decode cX9_would 30 = .ok (.aload_n 0, 1) := by decide +kernel
theorem dX9_would_31 : decode cX9_would 31 = .ok (.getfield 31, 3) := by decide +kernel
theorem dX9_would_34 : decode cX9_would 34 = .ok (.getfield 151, 3) := by decide +kernel
theorem dX9_would_37 : decode cX9_would 37 = .ok (.invokevirtual 180, 3) := by decide +kernel
theorem dX9_would_40 : decode cX9_would 40 = .ok (.istore 4, 2) := by decide +kernel
theorem dX9_would_42 : decode cX9_would 42 = .ok (.iload 4, 2) := by decide +kernel
theorem dX9_would_44 : decode cX9_would 44 = .ok (.ifCond .ge 9, 3) := by decide +kernel
theorem dX9_would_47 : decode cX9_would 47 = .ok (.ldc 249, 2) := by decide +kernel
theorem dX9_would_49 : decode cX9_would 49 = .ok (.iload 4, 2) := by decide +kernel
theorem dX9_would_51 : decode cX9_would 51 = .ok (.iadd, 1) := by decide +kernel
theorem dX9_would_52 : decode cX9_would 52 = .ok (.ireturn, 1) := by decide +kernel
theorem dX9_would_53 : decode cX9_would 53 = .ok (.aload_n 0, 1) := by decide +kernel
theorem dX9_would_54 : decode cX9_would 54 = .ok (.getfield 31, 3) := by decide +kernel
theorem dX9_would_57 : decode cX9_would 57 = .ok (.iload_n 3, 1) := by decide +kernel
theorem dX9_would_58 : decode cX9_would 58 = .ok (.iload_n 1, 1) := by decide +kernel
theorem dX9_would_59 : decode cX9_would 59 = .ok (.iload_n 2, 1) := by decide +kernel
theorem dX9_would_60 : decode cX9_would 60 = .ok (.invokevirtual 250, 3) := by decide +kernel
theorem dX9_would_63 : decode cX9_would 63 = .ok (.istore 5, 2) := by decide +kernel
theorem dX9_would_65 : decode cX9_would 65 = .ok (.aload_n 0, 1) := by decide +kernel
theorem dX9_would_66 : decode cX9_would 66 = .ok (.getfield 48, 3) := by decide +kernel
theorem dX9_would_69 : decode cX9_would 69 = .ok (.invokevirtual 194, 3) := by decide +kernel
theorem dX9_would_72 : decode cX9_would 72 = .ok (.aload_n 0, 1) := by decide +kernel
theorem dX9_would_73 : decode cX9_would 73 = .ok (.getfield 48, 3) := by decide +kernel
theorem dX9_would_76 : decode cX9_would 76 = .ok (.aload_n 0, 1) := by decide +kernel
theorem dX9_would_77 : decode cX9_would 77 = .ok (.getfield 31, 3) := by decide +kernel
theorem dX9_would_80 : decode cX9_would 80 = .ok (.iload_n 3, 1) := by decide +kernel
theorem dX9_would_81 : decode cX9_would 81 = .ok (.invokevirtual 208, 3) := by decide +kernel
theorem dX9_would_84 : decode cX9_would 84 = .ok (.iload 5, 2) := by decide +kernel
theorem dX9_would_86 : decode cX9_would 86 = .ok (.iadd, 1) := by decide +kernel
theorem dX9_would_87 : decode cX9_would 87 = .ok (.i2l, 1) := by decide +kernel
theorem dX9_would_88 : decode cX9_would 88 = .ok (.invokevirtual 199, 3) := by decide +kernel
theorem dX9_would_91 : decode cX9_would 91 = .ok (.aload_n 0, 1) := by decide +kernel
theorem dX9_would_92 : decode cX9_would 92 = .ok (.getfield 48, 3) := by decide +kernel
theorem dX9_would_95 : decode cX9_would 95 = .ok (.aload_n 0, 1) := by decide +kernel
theorem dX9_would_96 : decode cX9_would 96 = .ok (.getfield 31, 3) := by decide +kernel
theorem dX9_would_99 : decode cX9_would 99 = .ok (.iload_n 3, 1) := by decide +kernel
theorem dX9_would_100 : decode cX9_would 100 = .ok (.invokevirtual 240, 3) := by decide +kernel
theorem dX9_would_103 : decode cX9_would 103 = .ok (.aload_n 0, 1) := by decide +kernel
theorem dX9_would_104 : decode cX9_would 104 = .ok (.getfield 31, 3) := by decide +kernel
theorem dX9_would_107 : decode cX9_would 107 = .ok (.iload_n 3, 1) := by decide +kernel
theorem dX9_would_108 : decode cX9_would 108 = .ok (.iload_n 1, 1) := by decide +kernel
theorem dX9_would_109 : decode cX9_would 109 = .ok (.iload_n 2, 1) := by decide +kernel
theorem dX9_would_110 : decode cX9_would 110 = .ok (.invokevirtual 253, 3) := by decide +kernel
theorem dX9_would_113 : decode cX9_would 113 = .ok (.iadd, 1) := by decide +kernel
theorem dX9_would_114 : decode cX9_would 114 = .ok (.i2l, 1) := by decide +kernel
theorem dX9_would_115 : decode cX9_would 115 = .ok (.invokevirtual 199, 3) := by decide +kernel
theorem dX9_would_118 : decode cX9_would 118 = .ok (.iload 5, 2) := by decide +kernel
theorem dX9_would_120 : decode cX9_would 120 = .ok (.ireturn, 1) := by decide +kernel
theorem v_X9_would : yX9_would.cls = RX9 ∧ yX9_would.cls ≠ "java/lang/invoke/MethodHandle" ∧ yX9_would.cls ≠ "java/lang/invoke/VarHandle" ∧ (parseMethodDescriptor yX9_would.desc).map (fun d => d.parameters.length) = some 3 := ⟨rfl, by decide +kernel, by decide +kernel, by decide +kernel⟩
noncomputable def k_X9_would_21 (κ : gb_K) : gb_C := (o_ci (-1) o_ri)
theorem l_X9_would_21 : gb_Li (fun κ => k_X9_would_21 κ) := (gb_li (q_ci (-1)) (gb_li0 _))
theorem s_X9_would_21   {κ : gb_K} (hκ : ∀ q, gb_S RX9 cX9_would 6 (gb_rm 5 113) 1 q (κ q)) : gb_S RX9 cX9_would 6 (gb_rm 5 113) 1 21 (k_X9_would_21 κ) := (s_iconst (by decide +kernel) dX9_would_21 (s_ri rfl dX9_would_22))
noncomputable def k_X9_would_69 (κ : gb_K) : gb_C := (o_cv 0 4 0 f_X4_start (o_al 0 (o_gf 9 7 (o_al 0 (o_gf 9 3 (o_il 3 (o_cv 1 7 1 f_X7_valueOf (o_il 5 (o_ib (fun x y => x + y) (o_i2l (o_cv 1 4 0 f_X4_add (o_al 0 (o_gf 9 7 (o_al 0 (o_gf 9 3 (o_il 3 (o_cv 1 7 1 f_X7_mixedIn (o_al 0 (o_gf 9 3 (o_il 3 (o_il 1 (o_il 2 (o_cv 3 7 1 f_X7_growth (o_ib (fun x y => x + y) (o_i2l (o_cv 1 4 0 f_X4_add (o_il 5 o_ri)))))))))))))))))))))))))))
theorem l_X9_would_69 : gb_Li (fun κ => k_X9_would_69 κ) := (gb_li (q_cv 0 4 0 f_X4_start) (gb_li (q_al 0) (gb_li (q_gf 9 7) (gb_li (q_al 0) (gb_li (q_gf 9 3) (gb_li (q_il 3) (gb_li (q_cv 1 7 1 f_X7_valueOf) (gb_li (q_il 5) (gb_li (q_ib _) (gb_li q_i2l (gb_li (q_cv 1 4 0 f_X4_add) (gb_li (q_al 0) (gb_li (q_gf 9 7) (gb_li (q_al 0) (gb_li (q_gf 9 3) (gb_li (q_il 3) (gb_li (q_cv 1 7 1 f_X7_mixedIn) (gb_li (q_al 0) (gb_li (q_gf 9 3) (gb_li (q_il 3) (gb_li (q_il 1) (gb_li (q_il 2) (gb_li (q_cv 3 7 1 f_X7_growth) (gb_li (q_ib _) (gb_li q_i2l (gb_li (q_cv 1 4 0 f_X4_add) (gb_li (q_il 5) (gb_li0 _))))))))))))))))))))))))))))
theorem s_X9_would_69   {κ : gb_K} (hκ : ∀ q, gb_S RX9 cX9_would 6 (gb_rm 5 113) 1 q (κ q)) : gb_S RX9 cX9_would 6 (gb_rm 5 113) 1 69 (k_X9_would_69 κ) := (s_cv (C := RX4) c_X4_start rfl (gb_l5 gw_389 gw_390 gw_391 gw_392 gw_393) v_X4_start ⟨rfl, rfl⟩ ⟨Nat.le_of_ble_eq_true rfl, Nat.le_of_ble_eq_true rfl⟩ dX9_would_69 (s_aln 0 rfl dX9_would_72 (s_gf (T := TX9) winX9 rfl (Nat.le_of_ble_eq_true rfl) gw_388 rfl dX9_would_73 (s_aln 0 rfl dX9_would_76 (s_gf (T := TX9) winX9 rfl (Nat.le_of_ble_eq_true rfl) gw_336 rfl dX9_would_77 (s_iln 3 rfl dX9_would_80 (s_cv (C := RX7) c_X7_valueOf rfl (gb_l5 gw_406 gw_407 gw_408 gw_11 gw_409) v_X7_valueOf ⟨rfl, rfl⟩ ⟨Nat.le_of_ble_eq_true rfl, Nat.le_of_ble_eq_true rfl⟩ dX9_would_81 (s_il dX9_would_84 (s_iadd dX9_would_86 (s_i2l dX9_would_87 (s_cv (C := RX4) c_X4_add rfl (gb_l5 gw_402 gw_403 gw_404 gw_392 gw_405) v_X4_add ⟨rfl, rfl⟩ ⟨Nat.le_of_ble_eq_true rfl, Nat.le_of_ble_eq_true rfl⟩ dX9_would_88 (s_aln 0 rfl dX9_would_91 (s_gf (T := TX9) winX9 rfl (Nat.le_of_ble_eq_true rfl) gw_388 rfl dX9_would_92 (s_aln 0 rfl dX9_would_95 (s_gf (T := TX9) winX9 rfl (Nat.le_of_ble_eq_true rfl) gw_336 rfl dX9_would_96 (s_iln 3 rfl dX9_would_99 (s_cv (C := RX7) c_X7_mixedIn rfl (gb_l5 gw_451 gw_289 gw_290 gw_11 gw_291) v_X7_mixedIn ⟨rfl, rfl⟩ ⟨Nat.le_of_ble_eq_true rfl, Nat.le_of_ble_eq_true rfl⟩ dX9_would_100 (s_aln 0 rfl dX9_would_103 (s_gf (T := TX9) winX9 rfl (Nat.le_of_ble_eq_true rfl) gw_336 rfl dX9_would_104 (s_iln 3 rfl dX9_would_107 (s_iln 1 rfl dX9_would_108 (s_iln 2 rfl dX9_would_109 (s_cv (C := RX7) c_X7_growth rfl (gb_l5 gw_453 gw_114 gw_115 gw_11 gw_116) v_X7_growth ⟨rfl, rfl⟩ ⟨Nat.le_of_ble_eq_true rfl, Nat.le_of_ble_eq_true rfl⟩ dX9_would_110 (s_iadd dX9_would_113 (s_i2l dX9_would_114 (s_cv (C := RX4) c_X4_add rfl (gb_l5 gw_402 gw_403 gw_404 gw_392 gw_405) v_X4_add ⟨rfl, rfl⟩ ⟨Nat.le_of_ble_eq_true rfl, Nat.le_of_ble_eq_true rfl⟩ dX9_would_115 (s_il dX9_would_118 (s_ri rfl dX9_would_120))))))))))))))))))))))))))))
noncomputable def k_X9_would_0 (κ : gb_K) : gb_C := (o_il 1 (o_cs 1 2 f_X9_isGrade (o_zeq (k_X9_would_21 κ) (o_il 2 (o_cs 1 2 f_X9_isTons (o_zeq (k_X9_would_21 κ) (o_il 3 (o_cs 1 2 f_X9_isBin (o_zeq (k_X9_would_21 κ) (o_al 0 (o_gf 9 3 (o_il 3 (o_il 1 (o_il 2 (o_al 0 (o_gf 9 3 (o_gf 7 9 (o_cv 4 7 1 f_X7_why (o_is 4 (o_il 4 (o_zge (o_al 0 (o_gf 9 3 (o_il 3 (o_il 1 (o_il 2 (o_cv 3 7 1 f_X7_gain (o_is 5 (o_al 0 (o_gf 9 7 (k_X9_would_69 κ)))))))))) (o_ci (-1000000) (o_il 4 (o_ib (fun x y => x + y) o_ri))))))))))))))))))))))))
theorem l_X9_would_0 : gb_Li (fun κ => k_X9_would_0 κ) := (gb_li (q_il 1) (gb_li (q_cs 1 2 f_X9_isGrade) (q_zeq (l_X9_would_21) (gb_li (q_il 2) (gb_li (q_cs 1 2 f_X9_isTons) (q_zeq (l_X9_would_21) (gb_li (q_il 3) (gb_li (q_cs 1 2 f_X9_isBin) (q_zeq (l_X9_would_21) (gb_li (q_al 0) (gb_li (q_gf 9 3) (gb_li (q_il 3) (gb_li (q_il 1) (gb_li (q_il 2) (gb_li (q_al 0) (gb_li (q_gf 9 3) (gb_li (q_gf 7 9) (gb_li (q_cv 4 7 1 f_X7_why) (gb_li (q_is 4) (gb_li (q_il 4) (q_zge (gb_li (q_al 0) (gb_li (q_gf 9 3) (gb_li (q_il 3) (gb_li (q_il 1) (gb_li (q_il 2) (gb_li (q_cv 3 7 1 f_X7_gain) (gb_li (q_is 5) (gb_li (q_al 0) (gb_li (q_gf 9 7) (l_X9_would_69)))))))))) (gb_li (q_ci (-1000000)) (gb_li (q_il 4) (gb_li (q_ib _) (gb_li0 _)))))))))))))))))))))))))
theorem s_X9_would_0   {κ : gb_K} (hκ : ∀ q, gb_S RX9 cX9_would 6 (gb_rm 5 113) 1 q (κ q)) : gb_S RX9 cX9_would 6 (gb_rm 5 113) 1 0 (k_X9_would_0 κ) := (s_iln 1 rfl dX9_would_0 (s_cs c_X9_isGrade (gb_l4 gw_354 gw_355 gw_356 gw_357) v_X9_isGrade.2 ⟨rfl, rfl⟩ ⟨Nat.le_of_ble_eq_true rfl, Nat.le_of_ble_eq_true rfl⟩ dX9_would_1 (s_zeq (tgt := 21) (by decide +kernel) dX9_would_4 (s_X9_would_21 hκ) (s_iln 2 rfl dX9_would_7 (s_cs c_X9_isTons (gb_l4 gw_379 gw_380 gw_356 gw_381) v_X9_isTons.2 ⟨rfl, rfl⟩ ⟨Nat.le_of_ble_eq_true rfl, Nat.le_of_ble_eq_true rfl⟩ dX9_would_8 (s_zeq (tgt := 21) (by decide +kernel) dX9_would_11 (s_X9_would_21 hκ) (s_iln 3 rfl dX9_would_14 (s_cs c_X9_isBin (gb_l4 gw_370 gw_371 gw_356 gw_372) v_X9_isBin.2 ⟨rfl, rfl⟩ ⟨Nat.le_of_ble_eq_true rfl, Nat.le_of_ble_eq_true rfl⟩ dX9_would_15 (s_zne (tgt := 23) (by decide +kernel) dX9_would_18 (s_aln 0 rfl dX9_would_23 (s_gf (T := TX9) winX9 rfl (Nat.le_of_ble_eq_true rfl) gw_336 rfl dX9_would_24 (s_iln 3 rfl dX9_would_27 (s_iln 1 rfl dX9_would_28 (s_iln 2 rfl dX9_would_29 (s_aln 0 rfl dX9_would_30 (s_gf (T := TX9) winX9 rfl (Nat.le_of_ble_eq_true rfl) gw_336 rfl dX9_would_31 (s_gf (T := TX7) winX7 rfl (Nat.le_of_ble_eq_true rfl) gw_365 rfl dX9_would_34 (s_cv (C := RX7) c_X7_why rfl (gb_l5 gw_382 gw_77 gw_78 gw_11 gw_79) v_X7_why ⟨rfl, rfl⟩ ⟨Nat.le_of_ble_eq_true rfl, Nat.le_of_ble_eq_true rfl⟩ dX9_would_37 (s_is (Nat.le_of_ble_eq_true rfl) dX9_would_40 (s_il dX9_would_42 (s_zge (tgt := 53) (by decide +kernel) dX9_would_44 (s_aln 0 rfl dX9_would_53 (s_gf (T := TX9) winX9 rfl (Nat.le_of_ble_eq_true rfl) gw_336 rfl dX9_would_54 (s_iln 3 rfl dX9_would_57 (s_iln 1 rfl dX9_would_58 (s_iln 2 rfl dX9_would_59 (s_cv (C := RX7) c_X7_gain rfl (gb_l5 gw_454 gw_455 gw_456 gw_11 gw_457) v_X7_gain ⟨rfl, rfl⟩ ⟨Nat.le_of_ble_eq_true rfl, Nat.le_of_ble_eq_true rfl⟩ dX9_would_60 (s_is (Nat.le_of_ble_eq_true rfl) dX9_would_63 (s_aln 0 rfl dX9_would_65 (s_gf (T := TX9) winX9 rfl (Nat.le_of_ble_eq_true rfl) gw_388 rfl dX9_would_66 (s_X9_would_69 hκ)))))))))) (s_ldc gw_458 dX9_would_47 (s_il dX9_would_49 (s_iadd dX9_would_51 (s_ri rfl dX9_would_52)))))))))))))))) (s_X9_would_21 hκ))))))))))
noncomputable def f_X9_would : gb_F := gb_hide (gb_mf 6 (k_X9_would_0 gb_n))
theorem c_X9_would : ∀ l, gb_Met l yX9_would cX9_would 6 (some .int) 1 (gb_rm 5 113) f_X9_would := gb_hide_c (gb_met (own := RX9) (rk := 1) rfl (by decide +kernel) ⟨rfl, rfl⟩ (s_X9_would_0 gb_S_n))
theorem dX9_worst_0 : decode cX9_worst 0 = .ok (.iconst 0, 1) := by decide +kernel
theorem dX9_worst_1 : decode cX9_worst 1 = .ok (.istore_n 1, 1) := by decide +kernel
theorem dX9_worst_2 : decode cX9_worst 2 = .ok (.bipush (-2), 2) := by decide +kernel
theorem dX9_worst_4 : decode cX9_worst 4 = .ok (.istore_n 2, 1) := by decide +kernel
theorem dX9_worst_5 : decode cX9_worst 5 = .ok (.iconst (-1), 1) := by decide +kernel
theorem dX9_worst_6 : decode cX9_worst 6 = .ok (.istore_n 3, 1) := by decide +kernel
theorem dX9_worst_7 : decode cX9_worst 7 = .ok (.iconst 0, 1) := by decide +kernel
theorem dX9_worst_8 : decode cX9_worst 8 = .ok (.istore 4, 2) := by decide +kernel
theorem dX9_worst_10 : decode cX9_worst 10 = .ok (.iload 4, 2) := by decide +kernel
theorem dX9_worst_12 : decode cX9_worst 12 = .ok (.bipush 6, 2) := by decide +kernel
theorem dX9_worst_14 : decode cX9_worst 14 = .ok (.if_icmp .ge 80, 3) := by decide +kernel
theorem dX9_worst_17 : decode cX9_worst 17 = .ok (.iconst 0, 1) := by decide +kernel
theorem dX9_worst_18 : decode cX9_worst 18 = .ok (.istore 5, 2) := by decide +kernel
theorem dX9_worst_20 : decode cX9_worst 20 = .ok (.iload 5, 2) := by decide +kernel
theorem dX9_worst_22 : decode cX9_worst 22 = .ok (.bipush 6, 2) := by decide +kernel
theorem dX9_worst_24 : decode cX9_worst 24 = .ok (.if_icmp .ge 64, 3) := by decide +kernel
theorem dX9_worst_27 : decode cX9_worst 27 = .ok (.iload 5, 2) := by decide +kernel
theorem dX9_worst_29 : decode cX9_worst 29 = .ok (.iconst 1, 1) := by decide +kernel
theorem dX9_worst_30 : decode cX9_worst 30 = .ok (.iadd, 1) := by decide +kernel
theorem dX9_worst_31 : decode cX9_worst 31 = .ok (.istore 6, 2) := by decide +kernel
theorem dX9_worst_33 : decode cX9_worst 33 = .ok (.iload 6, 2) := by decide +kernel
theorem dX9_worst_35 : decode cX9_worst 35 = .ok (.bipush 6, 2) := by decide +kernel
theorem dX9_worst_37 : decode cX9_worst 37 = .ok (.if_icmp .ge 45, 3) := by decide +kernel
theorem dX9_worst_40 : decode cX9_worst 40 = .ok (.aload_n 0, 1) := by decide +kernel
theorem dX9_worst_41 : decode cX9_worst 41 = .ok (.getfield 31, 3) := by decide +kernel
theorem dX9_worst_44 : decode cX9_worst 44 = .ok (.iload 4, 2) := by decide +kernel
theorem dX9_worst_46 : decode cX9_worst 46 = .ok (.iload 5, 2) := by decide +kernel
theorem dX9_worst_48 : decode cX9_worst 48 = .ok (.iload 6, 2) := by decide +kernel
theorem dX9_worst_50 : decode cX9_worst 50 = .ok (.invokevirtual 246, 3) := by decide +kernel
theorem dX9_worst_53 : decode cX9_worst 53 = .ok (.istore 7, 2) := by decide +kernel
theorem dX9_worst_55 : decode cX9_worst 55 = .ok (.iload 7, 2) := by decide +kernel
theorem dX9_worst_57 : decode cX9_worst 57 = .ok (.iload_n 1, 1) := by decide +kernel
theorem dX9_worst_58 : decode cX9_worst 58 = .ok (.if_icmp .le 18, 3) := by decide +kernel
theorem dX9_worst_61 : decode cX9_worst 61 = .ok (.iload 7, 2) := by decide +kernel
theorem dX9_worst_63 : decode cX9_worst 63 = .ok (.istore_n 1, 1) := by decide +kernel
theorem dX9_worst_64 : decode cX9_worst 64 = .ok (.bipush 10, 2) := by decide +kernel
theorem dX9_worst_66 : decode cX9_worst 66 = .ok (.iload 5, 2) := by decide +kernel
theorem dX9_worst_68 : decode cX9_worst 68 = .ok (.imul, 1) := by decide +kernel
theorem dX9_worst_69 : decode cX9_worst 69 = .ok (.iload 6, 2) := by decide +kernel
theorem dX9_worst_71 : decode cX9_worst 71 = .ok (.iadd, 1) := by decide +kernel
theorem dX9_worst_72 : decode cX9_worst 72 = .ok (.istore_n 2, 1) := by decide +kernel
theorem dX9_worst_73 : decode cX9_worst 73 = .ok (.iload 4, 2) := by decide +kernel
theorem dX9_worst_75 : decode cX9_worst 75 = .ok (.istore_n 3, 1) := by decide +kernel
theorem dX9_worst_76 : decode cX9_worst 76 = .ok (.iinc 6 1, 3) := by decide +kernel
theorem dX9_worst_79 : decode cX9_worst 79 = .ok (.goto (-46), 3) := by decide +kernel
theorem dX9_worst_82 : decode cX9_worst 82 = .ok (.iinc 5 1, 3) := by decide +kernel
theorem dX9_worst_85 : decode cX9_worst 85 = .ok (.goto (-65), 3) := by decide +kernel
theorem dX9_worst_88 : decode cX9_worst 88 = .ok (.iinc 4 1, 3) := by decide +kernel
theorem dX9_worst_91 : decode cX9_worst 91 = .ok (.goto (-81), 3) := by decide +kernel
theorem dX9_worst_94 : decode cX9_worst 94 = .ok (.iload_n 1, 1) := by decide +kernel
theorem dX9_worst_95 : decode cX9_worst 95 = .ok (.ifCond .le 28, 3) := by decide +kernel
theorem dX9_worst_98 : decode cX9_worst 98 = .ok (.aload_n 0, 1) := by decide +kernel
theorem dX9_worst_99 : decode cX9_worst 99 = .ok (.getfield 48, 3) := by decide +kernel
theorem dX9_worst_102 : decode cX9_worst 102 = .ok (.invokevirtual 194, 3) := by decide +kernel
theorem dX9_worst_105 : decode cX9_worst 105 = .ok (.aload_n 0, 1) := by decide +kernel
theorem dX9_worst_106 : decode cX9_worst 106 = .ok (.getfield 48, 3) := by decide +kernel
theorem dX9_worst_109 : decode cX9_worst 109 = .ok (.iload_n 1, 1) := by decide +kernel
theorem dX9_worst_110 : decode cX9_worst 110 = .ok (.i2l, 1) := by decide +kernel
theorem dX9_worst_111 : decode cX9_worst 111 = .ok (.invokevirtual 199, 3) := by decide +kernel
theorem dX9_worst_114 : decode cX9_worst 114 = .ok (.aload_n 0, 1) := by decide +kernel
theorem dX9_worst_115 : decode cX9_worst 115 = .ok (.getfield 48, 3) := by decide +kernel
theorem dX9_worst_118 : decode cX9_worst 118 = .ok (.iload_n 3, 1) := by decide +kernel
theorem dX9_worst_119 : decode cX9_worst 119 = .ok (.i2l, 1) := by decide +kernel
theorem dX9_worst_120 : decode cX9_worst 120 = .ok (.invokevirtual 199, 3) := by decide +kernel
theorem dX9_worst_123 : decode cX9_worst 123 = .ok (.iload_n 2, 1) := by decide +kernel
theorem dX9_worst_124 : decode cX9_worst 124 = .ok (.ireturn, 1) := by decide +kernel
theorem v_X9_worst : yX9_worst.cls = RX9 ∧ yX9_worst.cls ≠ "java/lang/invoke/MethodHandle" ∧ yX9_worst.cls ≠ "java/lang/invoke/VarHandle" ∧ (parseMethodDescriptor yX9_worst.desc).map (fun d => d.parameters.length) = some 0 := ⟨rfl, by decide +kernel, by decide +kernel, by decide +kernel⟩
noncomputable def k_X9_worst_0 (κ : gb_K) : gb_C := (o_ci 0 (o_is 1 (o_ci (-2) (o_is 2 (o_ci (-1) (o_is 3 (o_ci 0 (o_is 4 (o_j [0, 1, 2, 3, 4] (κ 10))))))))))
theorem l_X9_worst_0 : gb_Li (fun κ => k_X9_worst_0 κ) := (gb_li (q_ci 0) (gb_li (q_is 1) (gb_li (q_ci (-2)) (gb_li (q_is 2) (gb_li (q_ci (-1)) (gb_li (q_is 3) (gb_li (q_ci 0) (gb_li (q_is 4) (q_j [0, 1, 2, 3, 4] 10)))))))))
theorem s_X9_worst_0   {κ : gb_K} (hκ : ∀ q, gb_S RX9 cX9_worst 8 (gb_rm 2 46) 1 q (κ q)) : gb_S RX9 cX9_worst 8 (gb_rm 2 46) 1 0 (k_X9_worst_0 κ) := (s_iconst (by decide +kernel) dX9_worst_0 (s_isn 1 rfl (Nat.le_of_ble_eq_true rfl) dX9_worst_1 (s_bipush (by decide +kernel) dX9_worst_2 (s_isn 2 rfl (Nat.le_of_ble_eq_true rfl) dX9_worst_4 (s_iconst (by decide +kernel) dX9_worst_5 (s_isn 3 rfl (Nat.le_of_ble_eq_true rfl) dX9_worst_6 (s_iconst (by decide +kernel) dX9_worst_7 (s_is (Nat.le_of_ble_eq_true rfl) dX9_worst_8 (s_j (hκ 10))))))))))
noncomputable def k_X9_worst_123 (κ : gb_K) : gb_C := (o_il 2 o_ri)
theorem l_X9_worst_123 : gb_Li (fun κ => k_X9_worst_123 κ) := (gb_li (q_il 2) (gb_li0 _))
theorem s_X9_worst_123   {κ : gb_K} (hκ : ∀ q, gb_S RX9 cX9_worst 8 (gb_rm 2 46) 1 q (κ q)) : gb_S RX9 cX9_worst 8 (gb_rm 2 46) 1 123 (k_X9_worst_123 κ) := (s_iln 2 rfl dX9_worst_123 (s_ri rfl dX9_worst_124))
noncomputable def k_X9_worst_10 (κ : gb_K) : gb_C := (o_il 4 (o_ci 6 (o_cge (o_il 1 (o_zle (k_X9_worst_123 κ) (o_al 0 (o_gf 9 7 (o_cv 0 4 0 f_X4_start (o_al 0 (o_gf 9 7 (o_il 1 (o_i2l (o_cv 1 4 0 f_X4_add (o_al 0 (o_gf 9 7 (o_il 3 (o_i2l (o_cv 1 4 0 f_X4_add (k_X9_worst_123 κ)))))))))))))))) (o_ci 0 (o_is 5 (o_j [0, 1, 2, 3, 4, 5] (κ 20)))))))
theorem l_X9_worst_10 : gb_Li (fun κ => k_X9_worst_10 κ) := (gb_li (q_il 4) (gb_li (q_ci 6) (q_cge (gb_li (q_il 1) (q_zle (l_X9_worst_123) (gb_li (q_al 0) (gb_li (q_gf 9 7) (gb_li (q_cv 0 4 0 f_X4_start) (gb_li (q_al 0) (gb_li (q_gf 9 7) (gb_li (q_il 1) (gb_li q_i2l (gb_li (q_cv 1 4 0 f_X4_add) (gb_li (q_al 0) (gb_li (q_gf 9 7) (gb_li (q_il 3) (gb_li q_i2l (gb_li (q_cv 1 4 0 f_X4_add) (l_X9_worst_123)))))))))))))))) (gb_li (q_ci 0) (gb_li (q_is 5) (q_j [0, 1, 2, 3, 4, 5] 20))))))
theorem s_X9_worst_10   {κ : gb_K} (hκ : ∀ q, gb_S RX9 cX9_worst 8 (gb_rm 2 46) 1 q (κ q)) : gb_S RX9 cX9_worst 8 (gb_rm 2 46) 1 10 (k_X9_worst_10 κ) := (s_il dX9_worst_10 (s_bipush (by decide +kernel) dX9_worst_12 (s_cge (tgt := 94) (by decide +kernel) dX9_worst_14 (s_iln 1 rfl dX9_worst_94 (s_zle (tgt := 123) (by decide +kernel) dX9_worst_95 (s_X9_worst_123 hκ) (s_aln 0 rfl dX9_worst_98 (s_gf (T := TX9) winX9 rfl (Nat.le_of_ble_eq_true rfl) gw_388 rfl dX9_worst_99 (s_cv (C := RX4) c_X4_start rfl (gb_l5 gw_389 gw_390 gw_391 gw_392 gw_393) v_X4_start ⟨rfl, rfl⟩ ⟨Nat.le_of_ble_eq_true rfl, Nat.le_of_ble_eq_true rfl⟩ dX9_worst_102 (s_aln 0 rfl dX9_worst_105 (s_gf (T := TX9) winX9 rfl (Nat.le_of_ble_eq_true rfl) gw_388 rfl dX9_worst_106 (s_iln 1 rfl dX9_worst_109 (s_i2l dX9_worst_110 (s_cv (C := RX4) c_X4_add rfl (gb_l5 gw_402 gw_403 gw_404 gw_392 gw_405) v_X4_add ⟨rfl, rfl⟩ ⟨Nat.le_of_ble_eq_true rfl, Nat.le_of_ble_eq_true rfl⟩ dX9_worst_111 (s_aln 0 rfl dX9_worst_114 (s_gf (T := TX9) winX9 rfl (Nat.le_of_ble_eq_true rfl) gw_388 rfl dX9_worst_115 (s_iln 3 rfl dX9_worst_118 (s_i2l dX9_worst_119 (s_cv (C := RX4) c_X4_add rfl (gb_l5 gw_402 gw_403 gw_404 gw_392 gw_405) v_X4_add ⟨rfl, rfl⟩ ⟨Nat.le_of_ble_eq_true rfl, Nat.le_of_ble_eq_true rfl⟩ dX9_worst_120 (s_X9_worst_123 hκ)))))))))))))))) (s_iconst (by decide +kernel) dX9_worst_17 (s_is (Nat.le_of_ble_eq_true rfl) dX9_worst_18 (s_j (hκ 20)))))))
noncomputable def k_X9_worst_20 (κ : gb_K) : gb_C := (o_il 5 (o_ci 6 (o_cge (o_inc 4 1 (o_j [0, 1, 2, 3, 4] (κ 10))) (o_il 5 (o_ci 1 (o_ib (fun x y => x + y) (o_is 6 (o_j [0, 1, 2, 3, 4, 5, 6] (κ 33)))))))))
theorem l_X9_worst_20 : gb_Li (fun κ => k_X9_worst_20 κ) := (gb_li (q_il 5) (gb_li (q_ci 6) (q_cge (gb_li (q_inc 4 1) (q_j [0, 1, 2, 3, 4] 10)) (gb_li (q_il 5) (gb_li (q_ci 1) (gb_li (q_ib _) (gb_li (q_is 6) (q_j [0, 1, 2, 3, 4, 5, 6] 33))))))))
theorem s_X9_worst_20   {κ : gb_K} (hκ : ∀ q, gb_S RX9 cX9_worst 8 (gb_rm 2 46) 1 q (κ q)) : gb_S RX9 cX9_worst 8 (gb_rm 2 46) 1 20 (k_X9_worst_20 κ) := (s_il dX9_worst_20 (s_bipush (by decide +kernel) dX9_worst_22 (s_cge (tgt := 88) (by decide +kernel) dX9_worst_24 (s_inc (by decide +kernel) (Nat.le_of_ble_eq_true rfl) dX9_worst_88 (s_goto (tgt := 10) (by decide +kernel) dX9_worst_91 (s_j (hκ 10)))) (s_il dX9_worst_27 (s_iconst (by decide +kernel) dX9_worst_29 (s_iadd dX9_worst_30 (s_is (Nat.le_of_ble_eq_true rfl) dX9_worst_31 (s_j (hκ 33)))))))))
noncomputable def k_X9_worst_76 (κ : gb_K) : gb_C := (o_inc 6 1 (o_j [0, 1, 2, 3, 4, 5, 6] (κ 33)))
theorem l_X9_worst_76 : gb_Li (fun κ => k_X9_worst_76 κ) := (gb_li (q_inc 6 1) (q_j [0, 1, 2, 3, 4, 5, 6] 33))
theorem s_X9_worst_76   {κ : gb_K} (hκ : ∀ q, gb_S RX9 cX9_worst 8 (gb_rm 2 46) 1 q (κ q)) : gb_S RX9 cX9_worst 8 (gb_rm 2 46) 1 76 (k_X9_worst_76 κ) := (s_inc (by decide +kernel) (Nat.le_of_ble_eq_true rfl) dX9_worst_76 (s_goto (tgt := 33) (by decide +kernel) dX9_worst_79 (s_j (hκ 33))))
noncomputable def k_X9_worst_33 (κ : gb_K) : gb_C := (o_il 6 (o_ci 6 (o_cge (o_inc 5 1 (o_j [0, 1, 2, 3, 4, 5] (κ 20))) (o_al 0 (o_gf 9 3 (o_il 4 (o_il 5 (o_il 6 (o_cv 3 7 1 f_X7_mixedOf (o_is 7 (o_il 7 (o_il 1 (o_cle (k_X9_worst_76 κ) (o_il 7 (o_is 1 (o_ci 10 (o_il 5 (o_ib (fun x y => x * y) (o_il 6 (o_ib (fun x y => x + y) (o_is 2 (o_il 4 (o_is 3 (k_X9_worst_76 κ))))))))))))))))))))))))
theorem l_X9_worst_33 : gb_Li (fun κ => k_X9_worst_33 κ) := (gb_li (q_il 6) (gb_li (q_ci 6) (q_cge (gb_li (q_inc 5 1) (q_j [0, 1, 2, 3, 4, 5] 20)) (gb_li (q_al 0) (gb_li (q_gf 9 3) (gb_li (q_il 4) (gb_li (q_il 5) (gb_li (q_il 6) (gb_li (q_cv 3 7 1 f_X7_mixedOf) (gb_li (q_is 7) (gb_li (q_il 7) (gb_li (q_il 1) (q_cle (l_X9_worst_76) (gb_li (q_il 7) (gb_li (q_is 1) (gb_li (q_ci 10) (gb_li (q_il 5) (gb_li (q_ib _) (gb_li (q_il 6) (gb_li (q_ib _) (gb_li (q_is 2) (gb_li (q_il 4) (gb_li (q_is 3) (l_X9_worst_76))))))))))))))))))))))))
theorem s_X9_worst_33   {κ : gb_K} (hκ : ∀ q, gb_S RX9 cX9_worst 8 (gb_rm 2 46) 1 q (κ q)) : gb_S RX9 cX9_worst 8 (gb_rm 2 46) 1 33 (k_X9_worst_33 κ) := (s_il dX9_worst_33 (s_bipush (by decide +kernel) dX9_worst_35 (s_cge (tgt := 82) (by decide +kernel) dX9_worst_37 (s_inc (by decide +kernel) (Nat.le_of_ble_eq_true rfl) dX9_worst_82 (s_goto (tgt := 20) (by decide +kernel) dX9_worst_85 (s_j (hκ 20)))) (s_aln 0 rfl dX9_worst_40 (s_gf (T := TX9) winX9 rfl (Nat.le_of_ble_eq_true rfl) gw_336 rfl dX9_worst_41 (s_il dX9_worst_44 (s_il dX9_worst_46 (s_il dX9_worst_48 (s_cv (C := RX7) c_X7_mixedOf rfl (gb_l5 gw_452 gw_281 gw_282 gw_11 gw_283) v_X7_mixedOf ⟨rfl, rfl⟩ ⟨Nat.le_of_ble_eq_true rfl, Nat.le_of_ble_eq_true rfl⟩ dX9_worst_50 (s_is (Nat.le_of_ble_eq_true rfl) dX9_worst_53 (s_il dX9_worst_55 (s_iln 1 rfl dX9_worst_57 (s_cle (tgt := 76) (by decide +kernel) dX9_worst_58 (s_X9_worst_76 hκ) (s_il dX9_worst_61 (s_isn 1 rfl (Nat.le_of_ble_eq_true rfl) dX9_worst_63 (s_bipush (by decide +kernel) dX9_worst_64 (s_il dX9_worst_66 (s_imul dX9_worst_68 (s_il dX9_worst_69 (s_iadd dX9_worst_71 (s_isn 2 rfl (Nat.le_of_ble_eq_true rfl) dX9_worst_72 (s_il dX9_worst_73 (s_isn 3 rfl (Nat.le_of_ble_eq_true rfl) dX9_worst_75 (s_X9_worst_76 hκ))))))))))))))))))))))))
noncomputable def B_X9_worst : List (Nat × (gb_K → gb_C)) := [(10, fun κ => k_X9_worst_10 κ), (20, fun κ => k_X9_worst_20 κ), (33, fun κ => k_X9_worst_33 κ)]
noncomputable def K_X9_worst : gb_K := gb_fx (gb_tb (B_X9_worst))
theorem L_X9_worst : ∀ q, gb_Li (fun κ => gb_tb (B_X9_worst) κ q) := gb_tb_li (List.forall_mem_cons.mpr ⟨l_X9_worst_10, List.forall_mem_cons.mpr ⟨l_X9_worst_20, List.forall_mem_cons.mpr ⟨l_X9_worst_33, (fun _ h => absurd h List.not_mem_nil)⟩⟩⟩)
theorem S_X9_worst   : ∀ q, gb_S RX9 cX9_worst 8 (gb_rm 2 46) 1 q (K_X9_worst q) := fun q => gb_fx_S (L_X9_worst) (gb_tb_S (List.forall_mem_cons.mpr ⟨fun κ hκ => s_X9_worst_10 hκ, List.forall_mem_cons.mpr ⟨fun κ hκ => s_X9_worst_20 hκ, List.forall_mem_cons.mpr ⟨fun κ hκ => s_X9_worst_33 hκ, (fun _ h => absurd h List.not_mem_nil)⟩⟩⟩)) q
noncomputable def f_X9_worst : gb_F := gb_hide (gb_mf 8 (k_X9_worst_0 (K_X9_worst)))
theorem c_X9_worst : ∀ l, gb_Met l yX9_worst cX9_worst 8 (some .int) 1 (gb_rm 2 46) f_X9_worst := gb_hide_c (gb_met (own := RX9) (rk := 1) rfl (by decide +kernel) ⟨rfl, rfl⟩ (s_X9_worst_0 (S_X9_worst)))
theorem dX9_dear_0 : decode cX9_dear 0 = .ok (.bipush (-2), 2) := by decide +kernel
theorem dX9_dear_2 : decode cX9_dear 2 = .ok (.istore_n 1, 1) := by decide +kernel
theorem dX9_dear_3 : decode cX9_dear 3 = .ok (.iconst 0, 1) := by decide +kernel
theorem dX9_dear_4 : decode cX9_dear 4 = .ok (.istore_n 2, 1) := by decide +kernel
theorem dX9_dear_5 : decode cX9_dear 5 = .ok (.iconst 0, 1) := by decide +kernel
theorem dX9_dear_6 : decode cX9_dear 6 = .ok (.istore_n 3, 1) := by decide +kernel
theorem dX9_dear_7 : decode cX9_dear 7 = .ok (.iload_n 3, 1) := by decide +kernel
theorem dX9_dear_8 : decode cX9_dear 8 = .ok (.bipush 6, 2) := by decide +kernel
theorem dX9_dear_10 : decode cX9_dear 10 = .ok (.if_icmp .ge 30, 3) := by decide +kernel
theorem dX9_dear_13 : decode cX9_dear 13 = .ok (.aload_n 0, 1) := by decide +kernel
theorem dX9_dear_14 : decode cX9_dear 14 = .ok (.getfield 31, 3) := by decide +kernel
theorem dX9_dear_17 : decode cX9_dear 17 = .ok (.iload_n 3, 1) := by decide +kernel
theorem dX9_dear_18 : decode cX9_dear 18 = .ok (.invokevirtual 256, 3) := by decide +kernel
theorem dX9_dear_21 : decode cX9_dear 21 = .ok (.istore 4, 2) := by decide +kernel
theorem dX9_dear_23 : decode cX9_dear 23 = .ok (.iload 4, 2) := by decide +kernel
theorem dX9_dear_25 : decode cX9_dear 25 = .ok (.iload_n 2, 1) := by decide +kernel
theorem dX9_dear_26 : decode cX9_dear 26 = .ok (.if_icmp .le 8, 3) := by decide +kernel
theorem dX9_dear_29 : decode cX9_dear 29 = .ok (.iload 4, 2) := by decide +kernel
theorem dX9_dear_31 : decode cX9_dear 31 = .ok (.istore_n 2, 1) := by decide +kernel
theorem dX9_dear_32 : decode cX9_dear 32 = .ok (.iload_n 3, 1) := by decide +kernel
theorem dX9_dear_33 : decode cX9_dear 33 = .ok (.istore_n 1, 1) := by decide +kernel
theorem dX9_dear_34 : decode cX9_dear 34 = .ok (.iinc 3 1, 3) := by decide +kernel
theorem dX9_dear_37 : decode cX9_dear 37 = .ok (.goto (-30), 3) := by decide +kernel
theorem dX9_dear_40 : decode cX9_dear 40 = .ok (.iload_n 2, 1) := by decide +kernel
theorem dX9_dear_41 : decode cX9_dear 41 = .ok (.ifCond .le 40, 3) := by decide +kernel
theorem dX9_dear_44 : decode cX9_dear 44 = .ok (.aload_n 0, 1) := by decide +kernel
theorem dX9_dear_45 : decode cX9_dear 45 = .ok (.getfield 48, 3) := by decide +kernel
theorem dX9_dear_48 : decode cX9_dear 48 = .ok (.invokevirtual 194, 3) := by decide +kernel
theorem dX9_dear_51 : decode cX9_dear 51 = .ok (.iconst 0, 1) := by decide +kernel
theorem dX9_dear_52 : decode cX9_dear 52 = .ok (.istore_n 3, 1) := by decide +kernel
theorem dX9_dear_53 : decode cX9_dear 53 = .ok (.iload_n 3, 1) := by decide +kernel
theorem dX9_dear_54 : decode cX9_dear 54 = .ok (.bipush 6, 2) := by decide +kernel
theorem dX9_dear_56 : decode cX9_dear 56 = .ok (.if_icmp .ge 25, 3) := by decide +kernel
theorem dX9_dear_59 : decode cX9_dear 59 = .ok (.aload_n 0, 1) := by decide +kernel
theorem dX9_dear_60 : decode cX9_dear 60 = .ok (.getfield 48, 3) := by decide +kernel
theorem dX9_dear_63 : decode cX9_dear 63 = .ok (.aload_n 0, 1) := by decide +kernel
theorem dX9_dear_64 : decode cX9_dear 64 = .ok (.getfield 31, 3) := by decide +kernel
theorem dX9_dear_67 : decode cX9_dear 67 = .ok (.iload_n 3, 1) := by decide +kernel
theorem dX9_dear_68 : decode cX9_dear 68 = .ok (.invokevirtual 256, 3) := by decide +kernel
theorem dX9_dear_71 : decode cX9_dear 71 = .ok (.i2l, 1) := by decide +kernel
theorem dX9_dear_72 : decode cX9_dear 72 = .ok (.invokevirtual 199, 3) := by decide +kernel
theorem dX9_dear_75 : decode cX9_dear 75 = .ok (.iinc 3 1, 3) := by decide +kernel
theorem dX9_dear_78 : decode cX9_dear 78 = .ok (.goto (-25), 3) := by decide +kernel
theorem dX9_dear_81 : decode cX9_dear 81 = .ok (.iload_n 1, 1) := by decide +kernel
theorem dX9_dear_82 : decode cX9_dear 82 = .ok (.ireturn, 1) := by decide +kernel
theorem v_X9_dear : yX9_dear.cls = RX9 ∧ yX9_dear.cls ≠ "java/lang/invoke/MethodHandle" ∧ yX9_dear.cls ≠ "java/lang/invoke/VarHandle" ∧ (parseMethodDescriptor yX9_dear.desc).map (fun d => d.parameters.length) = some 0 := ⟨rfl, by decide +kernel, by decide +kernel, by decide +kernel⟩
noncomputable def k_X9_dear_0 (κ : gb_K) : gb_C := (o_ci (-2) (o_is 1 (o_ci 0 (o_is 2 (o_ci 0 (o_is 3 (o_j [0, 1, 2, 3] (κ 7))))))))
theorem l_X9_dear_0 : gb_Li (fun κ => k_X9_dear_0 κ) := (gb_li (q_ci (-2)) (gb_li (q_is 1) (gb_li (q_ci 0) (gb_li (q_is 2) (gb_li (q_ci 0) (gb_li (q_is 3) (q_j [0, 1, 2, 3] 7)))))))
theorem s_X9_dear_0   {κ : gb_K} (hκ : ∀ q, gb_S RX9 cX9_dear 5 (gb_rm 3 70) 1 q (κ q)) : gb_S RX9 cX9_dear 5 (gb_rm 3 70) 1 0 (k_X9_dear_0 κ) := (s_bipush (by decide +kernel) dX9_dear_0 (s_isn 1 rfl (Nat.le_of_ble_eq_true rfl) dX9_dear_2 (s_iconst (by decide +kernel) dX9_dear_3 (s_isn 2 rfl (Nat.le_of_ble_eq_true rfl) dX9_dear_4 (s_iconst (by decide +kernel) dX9_dear_5 (s_isn 3 rfl (Nat.le_of_ble_eq_true rfl) dX9_dear_6 (s_j (hκ 7))))))))
noncomputable def k_X9_dear_34 (κ : gb_K) : gb_C := (o_inc 3 1 (o_j [0, 1, 2, 3] (κ 7)))
theorem l_X9_dear_34 : gb_Li (fun κ => k_X9_dear_34 κ) := (gb_li (q_inc 3 1) (q_j [0, 1, 2, 3] 7))
theorem s_X9_dear_34   {κ : gb_K} (hκ : ∀ q, gb_S RX9 cX9_dear 5 (gb_rm 3 70) 1 q (κ q)) : gb_S RX9 cX9_dear 5 (gb_rm 3 70) 1 34 (k_X9_dear_34 κ) := (s_inc (by decide +kernel) (Nat.le_of_ble_eq_true rfl) dX9_dear_34 (s_goto (tgt := 7) (by decide +kernel) dX9_dear_37 (s_j (hκ 7))))
noncomputable def k_X9_dear_81 (κ : gb_K) : gb_C := (o_il 1 o_ri)
theorem l_X9_dear_81 : gb_Li (fun κ => k_X9_dear_81 κ) := (gb_li (q_il 1) (gb_li0 _))
theorem s_X9_dear_81   {κ : gb_K} (hκ : ∀ q, gb_S RX9 cX9_dear 5 (gb_rm 3 70) 1 q (κ q)) : gb_S RX9 cX9_dear 5 (gb_rm 3 70) 1 81 (k_X9_dear_81 κ) := (s_iln 1 rfl dX9_dear_81 (s_ri rfl dX9_dear_82))
noncomputable def k_X9_dear_7 (κ : gb_K) : gb_C := (o_il 3 (o_ci 6 (o_cge (o_il 2 (o_zle (k_X9_dear_81 κ) (o_al 0 (o_gf 9 7 (o_cv 0 4 0 f_X4_start (o_ci 0 (o_is 3 (o_j [0, 1, 3] (κ 53))))))))) (o_al 0 (o_gf 9 3 (o_il 3 (o_cv 1 7 1 f_X7_worthOfAll (o_is 4 (o_il 4 (o_il 2 (o_cle (k_X9_dear_34 κ) (o_il 4 (o_is 2 (o_il 3 (o_is 1 (k_X9_dear_34 κ))))))))))))))))
theorem l_X9_dear_7 : gb_Li (fun κ => k_X9_dear_7 κ) := (gb_li (q_il 3) (gb_li (q_ci 6) (q_cge (gb_li (q_il 2) (q_zle (l_X9_dear_81) (gb_li (q_al 0) (gb_li (q_gf 9 7) (gb_li (q_cv 0 4 0 f_X4_start) (gb_li (q_ci 0) (gb_li (q_is 3) (q_j [0, 1, 3] 53)))))))) (gb_li (q_al 0) (gb_li (q_gf 9 3) (gb_li (q_il 3) (gb_li (q_cv 1 7 1 f_X7_worthOfAll) (gb_li (q_is 4) (gb_li (q_il 4) (gb_li (q_il 2) (q_cle (l_X9_dear_34) (gb_li (q_il 4) (gb_li (q_is 2) (gb_li (q_il 3) (gb_li (q_is 1) (l_X9_dear_34))))))))))))))))
theorem s_X9_dear_7   {κ : gb_K} (hκ : ∀ q, gb_S RX9 cX9_dear 5 (gb_rm 3 70) 1 q (κ q)) : gb_S RX9 cX9_dear 5 (gb_rm 3 70) 1 7 (k_X9_dear_7 κ) := (s_iln 3 rfl dX9_dear_7 (s_bipush (by decide +kernel) dX9_dear_8 (s_cge (tgt := 40) (by decide +kernel) dX9_dear_10 (s_iln 2 rfl dX9_dear_40 (s_zle (tgt := 81) (by decide +kernel) dX9_dear_41 (s_X9_dear_81 hκ) (s_aln 0 rfl dX9_dear_44 (s_gf (T := TX9) winX9 rfl (Nat.le_of_ble_eq_true rfl) gw_388 rfl dX9_dear_45 (s_cv (C := RX4) c_X4_start rfl (gb_l5 gw_389 gw_390 gw_391 gw_392 gw_393) v_X4_start ⟨rfl, rfl⟩ ⟨Nat.le_of_ble_eq_true rfl, Nat.le_of_ble_eq_true rfl⟩ dX9_dear_48 (s_iconst (by decide +kernel) dX9_dear_51 (s_isn 3 rfl (Nat.le_of_ble_eq_true rfl) dX9_dear_52 (s_j (hκ 53))))))))) (s_aln 0 rfl dX9_dear_13 (s_gf (T := TX9) winX9 rfl (Nat.le_of_ble_eq_true rfl) gw_336 rfl dX9_dear_14 (s_iln 3 rfl dX9_dear_17 (s_cv (C := RX7) c_X7_worthOfAll rfl (gb_l5 gw_459 gw_460 gw_461 gw_11 gw_462) v_X7_worthOfAll ⟨rfl, rfl⟩ ⟨Nat.le_of_ble_eq_true rfl, Nat.le_of_ble_eq_true rfl⟩ dX9_dear_18 (s_is (Nat.le_of_ble_eq_true rfl) dX9_dear_21 (s_il dX9_dear_23 (s_iln 2 rfl dX9_dear_25 (s_cle (tgt := 34) (by decide +kernel) dX9_dear_26 (s_X9_dear_34 hκ) (s_il dX9_dear_29 (s_isn 2 rfl (Nat.le_of_ble_eq_true rfl) dX9_dear_31 (s_iln 3 rfl dX9_dear_32 (s_isn 1 rfl (Nat.le_of_ble_eq_true rfl) dX9_dear_33 (s_X9_dear_34 hκ))))))))))))))))
noncomputable def k_X9_dear_53 (κ : gb_K) : gb_C := (o_il 3 (o_ci 6 (o_cge (k_X9_dear_81 κ) (o_al 0 (o_gf 9 7 (o_al 0 (o_gf 9 3 (o_il 3 (o_cv 1 7 1 f_X7_worthOfAll (o_i2l (o_cv 1 4 0 f_X4_add (o_inc 3 1 (o_j [0, 1, 3] (κ 53))))))))))))))
theorem l_X9_dear_53 : gb_Li (fun κ => k_X9_dear_53 κ) := (gb_li (q_il 3) (gb_li (q_ci 6) (q_cge (l_X9_dear_81) (gb_li (q_al 0) (gb_li (q_gf 9 7) (gb_li (q_al 0) (gb_li (q_gf 9 3) (gb_li (q_il 3) (gb_li (q_cv 1 7 1 f_X7_worthOfAll) (gb_li q_i2l (gb_li (q_cv 1 4 0 f_X4_add) (gb_li (q_inc 3 1) (q_j [0, 1, 3] 53)))))))))))))
theorem s_X9_dear_53   {κ : gb_K} (hκ : ∀ q, gb_S RX9 cX9_dear 5 (gb_rm 3 70) 1 q (κ q)) : gb_S RX9 cX9_dear 5 (gb_rm 3 70) 1 53 (k_X9_dear_53 κ) := (s_iln 3 rfl dX9_dear_53 (s_bipush (by decide +kernel) dX9_dear_54 (s_cge (tgt := 81) (by decide +kernel) dX9_dear_56 (s_X9_dear_81 hκ) (s_aln 0 rfl dX9_dear_59 (s_gf (T := TX9) winX9 rfl (Nat.le_of_ble_eq_true rfl) gw_388 rfl dX9_dear_60 (s_aln 0 rfl dX9_dear_63 (s_gf (T := TX9) winX9 rfl (Nat.le_of_ble_eq_true rfl) gw_336 rfl dX9_dear_64 (s_iln 3 rfl dX9_dear_67 (s_cv (C := RX7) c_X7_worthOfAll rfl (gb_l5 gw_459 gw_460 gw_461 gw_11 gw_462) v_X7_worthOfAll ⟨rfl, rfl⟩ ⟨Nat.le_of_ble_eq_true rfl, Nat.le_of_ble_eq_true rfl⟩ dX9_dear_68 (s_i2l dX9_dear_71 (s_cv (C := RX4) c_X4_add rfl (gb_l5 gw_402 gw_403 gw_404 gw_392 gw_405) v_X4_add ⟨rfl, rfl⟩ ⟨Nat.le_of_ble_eq_true rfl, Nat.le_of_ble_eq_true rfl⟩ dX9_dear_72 (s_inc (by decide +kernel) (Nat.le_of_ble_eq_true rfl) dX9_dear_75 (s_goto (tgt := 53) (by decide +kernel) dX9_dear_78 (s_j (hκ 53)))))))))))))))
noncomputable def B_X9_dear : List (Nat × (gb_K → gb_C)) := [(7, fun κ => k_X9_dear_7 κ), (53, fun κ => k_X9_dear_53 κ)]
noncomputable def K_X9_dear : gb_K := gb_fx (gb_tb (B_X9_dear))
theorem L_X9_dear : ∀ q, gb_Li (fun κ => gb_tb (B_X9_dear) κ q) := gb_tb_li (List.forall_mem_cons.mpr ⟨l_X9_dear_7, List.forall_mem_cons.mpr ⟨l_X9_dear_53, (fun _ h => absurd h List.not_mem_nil)⟩⟩)
theorem S_X9_dear   : ∀ q, gb_S RX9 cX9_dear 5 (gb_rm 3 70) 1 q (K_X9_dear q) := fun q => gb_fx_S (L_X9_dear) (gb_tb_S (List.forall_mem_cons.mpr ⟨fun κ hκ => s_X9_dear_7 hκ, List.forall_mem_cons.mpr ⟨fun κ hκ => s_X9_dear_53 hκ, (fun _ h => absurd h List.not_mem_nil)⟩⟩)) q
noncomputable def f_X9_dear : gb_F := gb_hide (gb_mf 5 (k_X9_dear_0 (K_X9_dear)))
theorem c_X9_dear : ∀ l, gb_Met l yX9_dear cX9_dear 5 (some .int) 1 (gb_rm 3 70) f_X9_dear := gb_hide_c (gb_met (own := RX9) (rk := 1) rfl (by decide +kernel) ⟨rfl, rfl⟩ (s_X9_dear_0 (S_X9_dear)))
theorem dX9_best_0 : decode cX9_best 0 = .ok (.iload_n 1, 1) := by decide +kernel
theorem dX9_best_1 : decode cX9_best 1 = .ok (.invokestatic 114, 3) := by decide +kernel
theorem dX9_best_4 : decode cX9_best 4 = .ok (.ifCond .eq 10, 3) := by decide +kernel
theorem dX9_best_7 : decode cX9_best 7 = .ok (.iload_n 2, 1) := by decide +kernel
theorem dX9_best_8 : decode cX9_best 8 = .ok (.invokestatic 177, 3) := by decide +kernel
theorem dX9_best_11 : decode cX9_best 11 = .ok (.ifCond .ne 5, 3) := by decide +kernel
theorem dX9_best_14 : decode cX9_best 14 = .ok (.iconst (-1), 1) := by decide +kernel
theorem dX9_best_15 : decode cX9_best 15 = .ok (.ireturn, 1) := by decide +kernel
theorem dX9_best_16 : decode cX9_best 16 = .ok (.bipush (-2), 2) := by decide +kernel
theorem dX9_best_18 : decode cX9_best 18 = .ok (.istore_n 3, 1) := by decide +kernel
theorem dX9_best_19 : decode cX9_best 19 = .ok (.iconst 0, 1) := by decide +kernel
theorem dX9_best_20 : decode cX9_best 20 = .ok (.istore 4, 2) := by decide +kernel
theorem dX9_best_22 : decode cX9_best 22 = .ok (.iconst 0, 1) := by decide +kernel
theorem dX9_best_23 : decode cX9_best 23 = .ok (.istore 5, 2) := by decide +kernel
theorem dX9_best_25 : decode cX9_best 25 = .ok (.iload 5, 2) := by decide +kernel
theorem dX9_best_27 : decode cX9_best 27 = .ok (.bipush 6, 2) := by decide +kernel
theorem dX9_best_29 : decode cX9_best 29 = .ok (.if_icmp .ge 61, 3) := by decide +kernel
theorem dX9_best_32 : decode cX9_best 32 = .ok (.aload_n 0, 1) := by decide +kernel
theorem dX9_best_33 : decode cX9_best 33 = .ok (.getfield 31, 3) := by decide +kernel
theorem dX9_best_36 : decode cX9_best 36 = .ok (.iload 5, 2) := by decide +kernel
theorem dX9_best_38 : decode cX9_best 38 = .ok (.iload_n 1, 1) := by decide +kernel
theorem dX9_best_39 : decode cX9_best 39 = .ok (.iload_n 2, 1) := by decide +kernel
theorem dX9_best_40 : decode cX9_best 40 = .ok (.aload_n 0, 1) := by decide +kernel
theorem dX9_best_41 : decode cX9_best 41 = .ok (.getfield 31, 3) := by decide +kernel
theorem dX9_best_44 : decode cX9_best 44 = .ok (.getfield 151, 3) := by decide +kernel
theorem dX9_best_47 : decode cX9_best 47 = .ok (.invokevirtual 180, 3) := by decide +kernel
theorem dX9_best_50 : decode cX9_best 50 = .ok (.ifCond .ne 34, 3) := by decide +kernel
theorem dX9_best_53 : decode cX9_best 53 = .ok (.aload_n 0, 1) := by decide +kernel
theorem dX9_best_54 : decode cX9_best 54 = .ok (.getfield 31, 3) := by decide +kernel
theorem dX9_best_57 : decode cX9_best 57 = .ok (.iload 5, 2) := by decide +kernel
theorem dX9_best_59 : decode cX9_best 59 = .ok (.iload_n 1, 1) := by decide +kernel
theorem dX9_best_60 : decode cX9_best 60 = .ok (.iload_n 2, 1) := by decide +kernel
theorem dX9_best_61 : decode cX9_best 61 = .ok (.invokevirtual 250, 3) := by decide +kernel
theorem dX9_best_64 : decode cX9_best 64 = .ok (.istore 6, 2) := by decide +kernel
theorem dX9_best_66 : decode cX9_best 66 = .ok (.iload_n 3, 1) := by decide +kernel
theorem dX9_best_67 : decode cX9_best 67 = .ok (.ifCond .lt 10, 3) := by decide +kernel
theorem dX9_best_70 : decode cX9_best 70 = .ok (.iload 6, 2) := by decide +kernel
theorem dX9_best_72 : decode cX9_best 72 = .ok (.iload 4, 2) := by decide +kernel
theorem dX9_best_74 : decode cX9_best 74 = .ok (.if_icmp .le 10, 3) := by decide +kernel
theorem dX9_best_77 : decode cX9_best 77 = .ok (.iload 5, 2) := by decide +kernel
theorem dX9_best_79 : decode cX9_best 79 = .ok (.istore_n 3, 1) := by decide +kernel
theorem dX9_best_80 : decode cX9_best 80 = .ok (.iload 6, 2) := by decide +kernel
theorem dX9_best_82 : decode cX9_best 82 = .ok (.istore 4, 2) := by decide +kernel
theorem dX9_best_84 : decode cX9_best 84 = .ok (.iinc 5 1, 3) := by decide +kernel
theorem dX9_best_87 : decode cX9_best 87 = .ok (.goto (-62), 3) := by decide +kernel
theorem dX9_best_90 : decode cX9_best 90 = .ok (.iload_n 3, 1) := by decide +kernel
theorem dX9_best_91 : decode cX9_best 91 = .ok (.ifCond .lt 20, 3) := by decide +kernel
theorem dX9_best_94 : decode cX9_best 94 = .ok (.aload_n 0, 1) := by decide +kernel
theorem dX9_best_95 : decode cX9_best 95 = .ok (.getfield 48, 3) := by decide +kernel
theorem dX9_best_98 : decode cX9_best 98 = .ok (.invokevirtual 194, 3) := by decide +kernel
theorem dX9_best_101 : decode cX9_best 101 = .ok (.aload_n 0, 1) := by decide +kernel
theorem dX9_best_102 : decode cX9_best 102 = .ok (.getfield 48, 3) := by decide +kernel
theorem dX9_best_105 : decode cX9_best 105 = .ok (.iload 4, 2) := by decide +kernel
theorem dX9_best_107 : decode cX9_best 107 = .ok (.i2l, 1) := by decide +kernel
theorem dX9_best_108 : decode cX9_best 108 = .ok (.invokevirtual 199, 3) := by decide +kernel
theorem dX9_best_111 : decode cX9_best 111 = .ok (.iload_n 3, 1) := by decide +kernel
theorem dX9_best_112 : decode cX9_best 112 = .ok (.ireturn, 1) := by decide +kernel
theorem v_X9_best : yX9_best.cls = RX9 ∧ yX9_best.cls ≠ "java/lang/invoke/MethodHandle" ∧ yX9_best.cls ≠ "java/lang/invoke/VarHandle" ∧ (parseMethodDescriptor yX9_best.desc).map (fun d => d.parameters.length) = some 2 := ⟨rfl, by decide +kernel, by decide +kernel, by decide +kernel⟩
noncomputable def k_X9_best_14 (κ : gb_K) : gb_C := (o_ci (-1) o_ri)
theorem l_X9_best_14 : gb_Li (fun κ => k_X9_best_14 κ) := (gb_li (q_ci (-1)) (gb_li0 _))
theorem s_X9_best_14   {κ : gb_K} (hκ : ∀ q, gb_S RX9 cX9_best 7 (gb_rm 3 72) 1 q (κ q)) : gb_S RX9 cX9_best 7 (gb_rm 3 72) 1 14 (k_X9_best_14 κ) := (s_iconst (by decide +kernel) dX9_best_14 (s_ri rfl dX9_best_15))
noncomputable def k_X9_best_0 (κ : gb_K) : gb_C := (o_il 1 (o_cs 1 2 f_X9_isGrade (o_zeq (k_X9_best_14 κ) (o_il 2 (o_cs 1 2 f_X9_isTons (o_zeq (k_X9_best_14 κ) (o_ci (-2) (o_is 3 (o_ci 0 (o_is 4 (o_ci 0 (o_is 5 (o_j [0, 1, 2, 3, 4, 5] (κ 25))))))))))))))
theorem l_X9_best_0 : gb_Li (fun κ => k_X9_best_0 κ) := (gb_li (q_il 1) (gb_li (q_cs 1 2 f_X9_isGrade) (q_zeq (l_X9_best_14) (gb_li (q_il 2) (gb_li (q_cs 1 2 f_X9_isTons) (q_zeq (l_X9_best_14) (gb_li (q_ci (-2)) (gb_li (q_is 3) (gb_li (q_ci 0) (gb_li (q_is 4) (gb_li (q_ci 0) (gb_li (q_is 5) (q_j [0, 1, 2, 3, 4, 5] 25)))))))))))))
theorem s_X9_best_0   {κ : gb_K} (hκ : ∀ q, gb_S RX9 cX9_best 7 (gb_rm 3 72) 1 q (κ q)) : gb_S RX9 cX9_best 7 (gb_rm 3 72) 1 0 (k_X9_best_0 κ) := (s_iln 1 rfl dX9_best_0 (s_cs c_X9_isGrade (gb_l4 gw_354 gw_355 gw_356 gw_357) v_X9_isGrade.2 ⟨rfl, rfl⟩ ⟨Nat.le_of_ble_eq_true rfl, Nat.le_of_ble_eq_true rfl⟩ dX9_best_1 (s_zeq (tgt := 14) (by decide +kernel) dX9_best_4 (s_X9_best_14 hκ) (s_iln 2 rfl dX9_best_7 (s_cs c_X9_isTons (gb_l4 gw_379 gw_380 gw_356 gw_381) v_X9_isTons.2 ⟨rfl, rfl⟩ ⟨Nat.le_of_ble_eq_true rfl, Nat.le_of_ble_eq_true rfl⟩ dX9_best_8 (s_zne (tgt := 16) (by decide +kernel) dX9_best_11 (s_bipush (by decide +kernel) dX9_best_16 (s_isn 3 rfl (Nat.le_of_ble_eq_true rfl) dX9_best_18 (s_iconst (by decide +kernel) dX9_best_19 (s_is (Nat.le_of_ble_eq_true rfl) dX9_best_20 (s_iconst (by decide +kernel) dX9_best_22 (s_is (Nat.le_of_ble_eq_true rfl) dX9_best_23 (s_j (hκ 25)))))))) (s_X9_best_14 hκ)))))))
noncomputable def k_X9_best_84 (κ : gb_K) : gb_C := (o_inc 5 1 (o_j [0, 1, 2, 3, 4, 5] (κ 25)))
theorem l_X9_best_84 : gb_Li (fun κ => k_X9_best_84 κ) := (gb_li (q_inc 5 1) (q_j [0, 1, 2, 3, 4, 5] 25))
theorem s_X9_best_84   {κ : gb_K} (hκ : ∀ q, gb_S RX9 cX9_best 7 (gb_rm 3 72) 1 q (κ q)) : gb_S RX9 cX9_best 7 (gb_rm 3 72) 1 84 (k_X9_best_84 κ) := (s_inc (by decide +kernel) (Nat.le_of_ble_eq_true rfl) dX9_best_84 (s_goto (tgt := 25) (by decide +kernel) dX9_best_87 (s_j (hκ 25))))
noncomputable def k_X9_best_77 (κ : gb_K) : gb_C := (o_il 5 (o_is 3 (o_il 6 (o_is 4 (k_X9_best_84 κ)))))
theorem l_X9_best_77 : gb_Li (fun κ => k_X9_best_77 κ) := (gb_li (q_il 5) (gb_li (q_is 3) (gb_li (q_il 6) (gb_li (q_is 4) (l_X9_best_84)))))
theorem s_X9_best_77   {κ : gb_K} (hκ : ∀ q, gb_S RX9 cX9_best 7 (gb_rm 3 72) 1 q (κ q)) : gb_S RX9 cX9_best 7 (gb_rm 3 72) 1 77 (k_X9_best_77 κ) := (s_il dX9_best_77 (s_isn 3 rfl (Nat.le_of_ble_eq_true rfl) dX9_best_79 (s_il dX9_best_80 (s_is (Nat.le_of_ble_eq_true rfl) dX9_best_82 (s_X9_best_84 hκ)))))
noncomputable def k_X9_best_111 (κ : gb_K) : gb_C := (o_il 3 o_ri)
theorem l_X9_best_111 : gb_Li (fun κ => k_X9_best_111 κ) := (gb_li (q_il 3) (gb_li0 _))
theorem s_X9_best_111   {κ : gb_K} (hκ : ∀ q, gb_S RX9 cX9_best 7 (gb_rm 3 72) 1 q (κ q)) : gb_S RX9 cX9_best 7 (gb_rm 3 72) 1 111 (k_X9_best_111 κ) := (s_iln 3 rfl dX9_best_111 (s_ri rfl dX9_best_112))
noncomputable def k_X9_best_25 (κ : gb_K) : gb_C := (o_il 5 (o_ci 6 (o_cge (o_il 3 (o_zlt (k_X9_best_111 κ) (o_al 0 (o_gf 9 7 (o_cv 0 4 0 f_X4_start (o_al 0 (o_gf 9 7 (o_il 4 (o_i2l (o_cv 1 4 0 f_X4_add (k_X9_best_111 κ))))))))))) (o_al 0 (o_gf 9 3 (o_il 5 (o_il 1 (o_il 2 (o_al 0 (o_gf 9 3 (o_gf 7 9 (o_cv 4 7 1 f_X7_why (o_zeq (o_al 0 (o_gf 9 3 (o_il 5 (o_il 1 (o_il 2 (o_cv 3 7 1 f_X7_gain (o_is 6 (o_il 3 (o_zlt (k_X9_best_77 κ) (o_il 6 (o_il 4 (o_cle (k_X9_best_84 κ) (k_X9_best_77 κ))))))))))))) (k_X9_best_84 κ))))))))))))))
theorem l_X9_best_25 : gb_Li (fun κ => k_X9_best_25 κ) := (gb_li (q_il 5) (gb_li (q_ci 6) (q_cge (gb_li (q_il 3) (q_zlt (l_X9_best_111) (gb_li (q_al 0) (gb_li (q_gf 9 7) (gb_li (q_cv 0 4 0 f_X4_start) (gb_li (q_al 0) (gb_li (q_gf 9 7) (gb_li (q_il 4) (gb_li q_i2l (gb_li (q_cv 1 4 0 f_X4_add) (l_X9_best_111))))))))))) (gb_li (q_al 0) (gb_li (q_gf 9 3) (gb_li (q_il 5) (gb_li (q_il 1) (gb_li (q_il 2) (gb_li (q_al 0) (gb_li (q_gf 9 3) (gb_li (q_gf 7 9) (gb_li (q_cv 4 7 1 f_X7_why) (q_zeq (gb_li (q_al 0) (gb_li (q_gf 9 3) (gb_li (q_il 5) (gb_li (q_il 1) (gb_li (q_il 2) (gb_li (q_cv 3 7 1 f_X7_gain) (gb_li (q_is 6) (gb_li (q_il 3) (q_zlt (l_X9_best_77) (gb_li (q_il 6) (gb_li (q_il 4) (q_cle (l_X9_best_84) (l_X9_best_77))))))))))))) (l_X9_best_84))))))))))))))
theorem s_X9_best_25   {κ : gb_K} (hκ : ∀ q, gb_S RX9 cX9_best 7 (gb_rm 3 72) 1 q (κ q)) : gb_S RX9 cX9_best 7 (gb_rm 3 72) 1 25 (k_X9_best_25 κ) := (s_il dX9_best_25 (s_bipush (by decide +kernel) dX9_best_27 (s_cge (tgt := 90) (by decide +kernel) dX9_best_29 (s_iln 3 rfl dX9_best_90 (s_zlt (tgt := 111) (by decide +kernel) dX9_best_91 (s_X9_best_111 hκ) (s_aln 0 rfl dX9_best_94 (s_gf (T := TX9) winX9 rfl (Nat.le_of_ble_eq_true rfl) gw_388 rfl dX9_best_95 (s_cv (C := RX4) c_X4_start rfl (gb_l5 gw_389 gw_390 gw_391 gw_392 gw_393) v_X4_start ⟨rfl, rfl⟩ ⟨Nat.le_of_ble_eq_true rfl, Nat.le_of_ble_eq_true rfl⟩ dX9_best_98 (s_aln 0 rfl dX9_best_101 (s_gf (T := TX9) winX9 rfl (Nat.le_of_ble_eq_true rfl) gw_388 rfl dX9_best_102 (s_il dX9_best_105 (s_i2l dX9_best_107 (s_cv (C := RX4) c_X4_add rfl (gb_l5 gw_402 gw_403 gw_404 gw_392 gw_405) v_X4_add ⟨rfl, rfl⟩ ⟨Nat.le_of_ble_eq_true rfl, Nat.le_of_ble_eq_true rfl⟩ dX9_best_108 (s_X9_best_111 hκ))))))))))) (s_aln 0 rfl dX9_best_32 (s_gf (T := TX9) winX9 rfl (Nat.le_of_ble_eq_true rfl) gw_336 rfl dX9_best_33 (s_il dX9_best_36 (s_iln 1 rfl dX9_best_38 (s_iln 2 rfl dX9_best_39 (s_aln 0 rfl dX9_best_40 (s_gf (T := TX9) winX9 rfl (Nat.le_of_ble_eq_true rfl) gw_336 rfl dX9_best_41 (s_gf (T := TX7) winX7 rfl (Nat.le_of_ble_eq_true rfl) gw_365 rfl dX9_best_44 (s_cv (C := RX7) c_X7_why rfl (gb_l5 gw_382 gw_77 gw_78 gw_11 gw_79) v_X7_why ⟨rfl, rfl⟩ ⟨Nat.le_of_ble_eq_true rfl, Nat.le_of_ble_eq_true rfl⟩ dX9_best_47 (s_zne (tgt := 84) (by decide +kernel) dX9_best_50 (s_X9_best_84 hκ) (s_aln 0 rfl dX9_best_53 (s_gf (T := TX9) winX9 rfl (Nat.le_of_ble_eq_true rfl) gw_336 rfl dX9_best_54 (s_il dX9_best_57 (s_iln 1 rfl dX9_best_59 (s_iln 2 rfl dX9_best_60 (s_cv (C := RX7) c_X7_gain rfl (gb_l5 gw_454 gw_455 gw_456 gw_11 gw_457) v_X7_gain ⟨rfl, rfl⟩ ⟨Nat.le_of_ble_eq_true rfl, Nat.le_of_ble_eq_true rfl⟩ dX9_best_61 (s_is (Nat.le_of_ble_eq_true rfl) dX9_best_64 (s_iln 3 rfl dX9_best_66 (s_zlt (tgt := 77) (by decide +kernel) dX9_best_67 (s_X9_best_77 hκ) (s_il dX9_best_70 (s_il dX9_best_72 (s_cle (tgt := 84) (by decide +kernel) dX9_best_74 (s_X9_best_84 hκ) (s_X9_best_77 hκ))))))))))))))))))))))))))
noncomputable def B_X9_best : List (Nat × (gb_K → gb_C)) := [(25, fun κ => k_X9_best_25 κ)]
noncomputable def K_X9_best : gb_K := gb_fx (gb_tb (B_X9_best))
theorem L_X9_best : ∀ q, gb_Li (fun κ => gb_tb (B_X9_best) κ q) := gb_tb_li (List.forall_mem_cons.mpr ⟨l_X9_best_25, (fun _ h => absurd h List.not_mem_nil)⟩)
theorem S_X9_best   : ∀ q, gb_S RX9 cX9_best 7 (gb_rm 3 72) 1 q (K_X9_best q) := fun q => gb_fx_S (L_X9_best) (gb_tb_S (List.forall_mem_cons.mpr ⟨fun κ hκ => s_X9_best_25 hκ, (fun _ h => absurd h List.not_mem_nil)⟩)) q
noncomputable def f_X9_best : gb_F := gb_hide (gb_mf 7 (k_X9_best_0 (K_X9_best)))
theorem c_X9_best : ∀ l, gb_Met l yX9_best cX9_best 7 (some .int) 1 (gb_rm 3 72) f_X9_best := gb_hide_c (gb_met (own := RX9) (rk := 1) rfl (by decide +kernel) ⟨rfl, rfl⟩ (s_X9_best_0 (S_X9_best)))
theorem dX9_lays_0 : decode cX9_lays 0 = .ok (.aload_n 0, 1) := by decide +kernel
theorem dX9_lays_1 : decode cX9_lays 1 = .ok (.invokevirtual 223, 3) := by decide +kernel
theorem dX9_lays_4 : decode cX9_lays 4 = .ok (.istore_n 1, 1) := by decide +kernel
theorem dX9_lays_5 : decode cX9_lays 5 = .ok (.iload_n 1, 1) := by decide +kernel
theorem dX9_lays_6 : decode cX9_lays 6 = .ok (.ifCond .ge 5, 3) := by decide +kernel
theorem dX9_lays_9 : decode cX9_lays 9 = .ok (.iload_n 1, 1) := by decide +kernel
theorem dX9_lays_10 : decode cX9_lays 10 = .ok (.ireturn, 1) := by decide +kernel
theorem dX9_lays_11 : decode cX9_lays 11 = .ok (.aload_n 0, 1) := by decide +kernel
theorem dX9_lays_12 : decode cX9_lays 12 = .ok (.getfield 55, 3) := by decide +kernel
theorem dX9_lays_15 : decode cX9_lays 15 = .ok (.aload_n 0, 1) := by decide +kernel
theorem dX9_lays_16 : decode cX9_lays 16 = .ok (.getfield 31, 3) := by decide +kernel
theorem dX9_lays_19 : decode cX9_lays 19 = .ok (.getfield 151, 3) := by decide +kernel
theorem dX9_lays_22 : decode cX9_lays 22 = .ok (.invokevirtual 259, 3) := by decide +kernel
theorem dX9_lays_25 : decode cX9_lays 25 = .ok (.aload_n 0, 1) := by decide +kernel
theorem dX9_lays_26 : decode cX9_lays 26 = .ok (.getfield 64, 3) := by decide +kernel
theorem dX9_lays_29 : decode cX9_lays 29 = .ok (.aload_n 0, 1) := by decide +kernel
theorem dX9_lays_30 : decode cX9_lays 30 = .ok (.getfield 31, 3) := by decide +kernel
theorem dX9_lays_33 : decode cX9_lays 33 = .ok (.iconst (-1), 1) := by decide +kernel
theorem dX9_lays_34 : decode cX9_lays 34 = .ok (.invokevirtual 262, 3) := by decide +kernel
theorem dX9_lays_37 : decode cX9_lays 37 = .ok (.istore_n 2, 1) := by decide +kernel
theorem dX9_lays_38 : decode cX9_lays 38 = .ok (.iload_n 2, 1) := by decide +kernel
theorem dX9_lays_39 : decode cX9_lays 39 = .ok (.ifCond .ge 6, 3) := by decide +kernel
theorem dX9_lays_42 : decode cX9_lays 42 = .ok (.bipush (-2), 2) := by decide +kernel
theorem dX9_lays_44 : decode cX9_lays 44 = .ok (.ireturn, 1) := by decide +kernel
theorem dX9_lays_45 : decode cX9_lays 45 = .ok (.aload_n 0, 1) := by decide +kernel
theorem dX9_lays_46 : decode cX9_lays 46 = .ok (.getfield 48, 3) := by decide +kernel
theorem dX9_lays_49 : decode cX9_lays 49 = .ok (.invokevirtual 194, 3) := by decide +kernel
theorem dX9_lays_52 : decode cX9_lays 52 = .ok (.aload_n 0, 1) := by decide +kernel
theorem dX9_lays_53 : decode cX9_lays 53 = .ok (.getfield 48, 3) := by decide +kernel
theorem dX9_lays_56 : decode cX9_lays 56 = .ok (.aload_n 0, 1) := by decide +kernel
theorem dX9_lays_57 : decode cX9_lays 57 = .ok (.getfield 31, 3) := by decide +kernel
theorem dX9_lays_60 : decode cX9_lays 60 = .ok (.aload_n 0, 1) := by decide +kernel
theorem dX9_lays_61 : decode cX9_lays 61 = .ok (.getfield 55, 3) := by decide +kernel
theorem dX9_lays_64 : decode cX9_lays 64 = .ok (.invokevirtual 266, 3) := by decide +kernel
theorem dX9_lays_67 : decode cX9_lays 67 = .ok (.iload_n 2, 1) := by decide +kernel
theorem dX9_lays_68 : decode cX9_lays 68 = .ok (.isub, 1) := by decide +kernel
theorem dX9_lays_69 : decode cX9_lays 69 = .ok (.i2l, 1) := by decide +kernel
theorem dX9_lays_70 : decode cX9_lays 70 = .ok (.invokevirtual 199, 3) := by decide +kernel
theorem dX9_lays_73 : decode cX9_lays 73 = .ok (.iconst 0, 1) := by decide +kernel
theorem dX9_lays_74 : decode cX9_lays 74 = .ok (.istore_n 3, 1) := by decide +kernel
theorem dX9_lays_75 : decode cX9_lays 75 = .ok (.iload_n 3, 1) := by decide +kernel
theorem dX9_lays_76 : decode cX9_lays 76 = .ok (.iload_n 1, 1) := by decide +kernel
theorem dX9_lays_77 : decode cX9_lays 77 = .ok (.if_icmp .ge 26, 3) := by decide +kernel
theorem dX9_lays_80 : decode cX9_lays 80 = .ok (.aload_n 0, 1) := by decide +kernel
theorem dX9_lays_81 : decode cX9_lays 81 = .ok (.getfield 48, 3) := by decide +kernel
theorem dX9_lays_84 : decode cX9_lays 84 = .ok (.aload_n 0, 1) := by decide +kernel
theorem dX9_lays_85 : decode cX9_lays 85 = .ok (.getfield 64, 3) := by decide +kernel
theorem dX9_lays_88 : decode cX9_lays 88 = .ok (.getfield 270, 3) := by decide +kernel
theorem dX9_lays_91 : decode cX9_lays 91 = .ok (.iload_n 3, 1) := by decide +kernel
theorem dX9_lays_92 : decode cX9_lays 92 = .ok (.iaload, 1) := by decide +kernel
theorem dX9_lays_93 : decode cX9_lays 93 = .ok (.i2l, 1) := by decide +kernel
theorem dX9_lays_94 : decode cX9_lays 94 = .ok (.invokevirtual 199, 3) := by decide +kernel
theorem dX9_lays_97 : decode cX9_lays 97 = .ok (.iinc 3 1, 3) := by decide +kernel
theorem dX9_lays_100 : decode cX9_lays 100 = .ok (.goto (-25), 3) := by decide +kernel
theorem dX9_lays_103 : decode cX9_lays 103 = .ok (.iload_n 1, 1) := by decide +kernel
theorem dX9_lays_104 : decode cX9_lays 104 = .ok (.ireturn, 1) := by decide +kernel
theorem v_X9_lays : yX9_lays.cls = RX9 ∧ yX9_lays.cls ≠ "java/lang/invoke/MethodHandle" ∧ yX9_lays.cls ≠ "java/lang/invoke/VarHandle" ∧ (parseMethodDescriptor yX9_lays.desc).map (fun d => d.parameters.length) = some 0 := ⟨rfl, by decide +kernel, by decide +kernel, by decide +kernel⟩
noncomputable def k_X9_lays_67 (κ : gb_K) : gb_C := (o_il 2 (o_ib (fun x y => x - y) (o_i2l (o_cv 1 4 0 f_X4_add (o_ci 0 (o_is 3 (o_j [0, 1, 3] (κ 75))))))))
theorem l_X9_lays_67 : gb_Li (fun κ => k_X9_lays_67 κ) := (gb_li (q_il 2) (gb_li (q_ib _) (gb_li q_i2l (gb_li (q_cv 1 4 0 f_X4_add) (gb_li (q_ci 0) (gb_li (q_is 3) (q_j [0, 1, 3] 75)))))))
theorem s_X9_lays_67   {κ : gb_K} (hκ : ∀ q, gb_S RX9 cX9_lays 4 (gb_rm 14 330) 1 q (κ q)) : gb_S RX9 cX9_lays 4 (gb_rm 14 330) 1 67 (k_X9_lays_67 κ) := (s_iln 2 rfl dX9_lays_67 (s_isub dX9_lays_68 (s_i2l dX9_lays_69 (s_cv (C := RX4) c_X4_add rfl (gb_l5 gw_402 gw_403 gw_404 gw_392 gw_405) v_X4_add ⟨rfl, rfl⟩ ⟨Nat.le_of_ble_eq_true rfl, Nat.le_of_ble_eq_true rfl⟩ dX9_lays_70 (s_iconst (by decide +kernel) dX9_lays_73 (s_isn 3 rfl (Nat.le_of_ble_eq_true rfl) dX9_lays_74 (s_j (hκ 75))))))))
noncomputable def k_X9_lays_0 (κ : gb_K) : gb_C := (o_al 0 (o_cv 0 9 1 f_X9_readOrders (o_is 1 (o_il 1 (o_zge (o_al 0 (o_gf 9 8 (o_al 0 (o_gf 9 3 (o_gf 7 9 (o_cv 1 2 0 f_X2_comeOn (o_al 0 (o_gf 9 9 (o_al 0 (o_gf 9 3 (o_ci (-1) (o_cv 2 1 1 f_X1_leastGrowth (o_is 2 (o_il 2 (o_zge (o_al 0 (o_gf 9 7 (o_cv 0 4 0 f_X4_start (o_al 0 (o_gf 9 7 (o_al 0 (o_gf 9 3 (o_al 0 (o_gf 9 8 (o_cv 1 7 1 f_X7_worthOfLoads (k_X9_lays_67 κ))))))))))) (o_ci (-2) o_ri)))))))))))))))) (o_il 1 o_ri))))))
theorem l_X9_lays_0 : gb_Li (fun κ => k_X9_lays_0 κ) := (gb_li (q_al 0) (gb_li (q_cv 0 9 1 f_X9_readOrders) (gb_li (q_is 1) (gb_li (q_il 1) (q_zge (gb_li (q_al 0) (gb_li (q_gf 9 8) (gb_li (q_al 0) (gb_li (q_gf 9 3) (gb_li (q_gf 7 9) (gb_li (q_cv 1 2 0 f_X2_comeOn) (gb_li (q_al 0) (gb_li (q_gf 9 9) (gb_li (q_al 0) (gb_li (q_gf 9 3) (gb_li (q_ci (-1)) (gb_li (q_cv 2 1 1 f_X1_leastGrowth) (gb_li (q_is 2) (gb_li (q_il 2) (q_zge (gb_li (q_al 0) (gb_li (q_gf 9 7) (gb_li (q_cv 0 4 0 f_X4_start) (gb_li (q_al 0) (gb_li (q_gf 9 7) (gb_li (q_al 0) (gb_li (q_gf 9 3) (gb_li (q_al 0) (gb_li (q_gf 9 8) (gb_li (q_cv 1 7 1 f_X7_worthOfLoads) (l_X9_lays_67))))))))))) (gb_li (q_ci (-2)) (gb_li0 _))))))))))))))))) (gb_li (q_il 1) (gb_li0 _)))))))
theorem s_X9_lays_0   {κ : gb_K} (hκ : ∀ q, gb_S RX9 cX9_lays 4 (gb_rm 14 330) 1 q (κ q)) : gb_S RX9 cX9_lays 4 (gb_rm 14 330) 1 0 (k_X9_lays_0 κ) := (s_aln 0 rfl dX9_lays_0 (s_cv (C := RX9) c_X9_readOrders rfl (gb_l5 gw_431 gw_432 gw_433 gw_356 gw_434) v_X9_readOrders ⟨rfl, rfl⟩ ⟨Nat.le_of_ble_eq_true rfl, Nat.le_of_ble_eq_true rfl⟩ dX9_lays_1 (s_isn 1 rfl (Nat.le_of_ble_eq_true rfl) dX9_lays_4 (s_iln 1 rfl dX9_lays_5 (s_zge (tgt := 11) (by decide +kernel) dX9_lays_6 (s_aln 0 rfl dX9_lays_11 (s_gf (T := TX9) winX9 rfl (Nat.le_of_ble_eq_true rfl) gw_426 rfl dX9_lays_12 (s_aln 0 rfl dX9_lays_15 (s_gf (T := TX9) winX9 rfl (Nat.le_of_ble_eq_true rfl) gw_336 rfl dX9_lays_16 (s_gf (T := TX7) winX7 rfl (Nat.le_of_ble_eq_true rfl) gw_365 rfl dX9_lays_19 (s_cv (C := RX2) c_X2_comeOn rfl (gb_l5 gw_463 gw_464 gw_465 gw_180 gw_466) v_X2_comeOn ⟨rfl, rfl⟩ ⟨Nat.le_of_ble_eq_true rfl, Nat.le_of_ble_eq_true rfl⟩ dX9_lays_22 (s_aln 0 rfl dX9_lays_25 (s_gf (T := TX9) winX9 rfl (Nat.le_of_ble_eq_true rfl) gw_467 rfl dX9_lays_26 (s_aln 0 rfl dX9_lays_29 (s_gf (T := TX9) winX9 rfl (Nat.le_of_ble_eq_true rfl) gw_336 rfl dX9_lays_30 (s_iconst (by decide +kernel) dX9_lays_33 (s_cv (C := RX1) c_X1_leastGrowth rfl (gb_l5 gw_468 gw_469 gw_470 gw_84 gw_471) v_X1_leastGrowth ⟨rfl, rfl⟩ ⟨Nat.le_of_ble_eq_true rfl, Nat.le_of_ble_eq_true rfl⟩ dX9_lays_34 (s_isn 2 rfl (Nat.le_of_ble_eq_true rfl) dX9_lays_37 (s_iln 2 rfl dX9_lays_38 (s_zge (tgt := 45) (by decide +kernel) dX9_lays_39 (s_aln 0 rfl dX9_lays_45 (s_gf (T := TX9) winX9 rfl (Nat.le_of_ble_eq_true rfl) gw_388 rfl dX9_lays_46 (s_cv (C := RX4) c_X4_start rfl (gb_l5 gw_389 gw_390 gw_391 gw_392 gw_393) v_X4_start ⟨rfl, rfl⟩ ⟨Nat.le_of_ble_eq_true rfl, Nat.le_of_ble_eq_true rfl⟩ dX9_lays_49 (s_aln 0 rfl dX9_lays_52 (s_gf (T := TX9) winX9 rfl (Nat.le_of_ble_eq_true rfl) gw_388 rfl dX9_lays_53 (s_aln 0 rfl dX9_lays_56 (s_gf (T := TX9) winX9 rfl (Nat.le_of_ble_eq_true rfl) gw_336 rfl dX9_lays_57 (s_aln 0 rfl dX9_lays_60 (s_gf (T := TX9) winX9 rfl (Nat.le_of_ble_eq_true rfl) gw_426 rfl dX9_lays_61 (s_cv (C := RX7) c_X7_worthOfLoads rfl (gb_l5 gw_472 gw_473 gw_474 gw_11 gw_475) v_X7_worthOfLoads ⟨rfl, rfl⟩ ⟨Nat.le_of_ble_eq_true rfl, Nat.le_of_ble_eq_true rfl⟩ dX9_lays_64 (s_X9_lays_67 hκ))))))))))) (s_bipush (by decide +kernel) dX9_lays_42 (s_ri rfl dX9_lays_44))))))))))))))))) (s_iln 1 rfl dX9_lays_9 (s_ri rfl dX9_lays_10)))))))
noncomputable def k_X9_lays_75 (κ : gb_K) : gb_C := (o_il 3 (o_il 1 (o_cge (o_il 1 o_ri) (o_al 0 (o_gf 9 7 (o_al 0 (o_gf 9 9 (o_gf 1 3 (o_il 3 (o_iald (o_i2l (o_cv 1 4 0 f_X4_add (o_inc 3 1 (o_j [0, 1, 3] (κ 75)))))))))))))))
theorem l_X9_lays_75 : gb_Li (fun κ => k_X9_lays_75 κ) := (gb_li (q_il 3) (gb_li (q_il 1) (q_cge (gb_li (q_il 1) (gb_li0 _)) (gb_li (q_al 0) (gb_li (q_gf 9 7) (gb_li (q_al 0) (gb_li (q_gf 9 9) (gb_li (q_gf 1 3) (gb_li (q_il 3) (gb_li q_iald (gb_li q_i2l (gb_li (q_cv 1 4 0 f_X4_add) (gb_li (q_inc 3 1) (q_j [0, 1, 3] 75))))))))))))))
theorem s_X9_lays_75   {κ : gb_K} (hκ : ∀ q, gb_S RX9 cX9_lays 4 (gb_rm 14 330) 1 q (κ q)) : gb_S RX9 cX9_lays 4 (gb_rm 14 330) 1 75 (k_X9_lays_75 κ) := (s_iln 3 rfl dX9_lays_75 (s_iln 1 rfl dX9_lays_76 (s_cge (tgt := 103) (by decide +kernel) dX9_lays_77 (s_iln 1 rfl dX9_lays_103 (s_ri rfl dX9_lays_104)) (s_aln 0 rfl dX9_lays_80 (s_gf (T := TX9) winX9 rfl (Nat.le_of_ble_eq_true rfl) gw_388 rfl dX9_lays_81 (s_aln 0 rfl dX9_lays_84 (s_gf (T := TX9) winX9 rfl (Nat.le_of_ble_eq_true rfl) gw_467 rfl dX9_lays_85 (s_gf (T := TX1) winX1 rfl (Nat.le_of_ble_eq_true rfl) gw_476 rfl dX9_lays_88 (s_iln 3 rfl dX9_lays_91 (s_iald dX9_lays_92 (s_i2l dX9_lays_93 (s_cv (C := RX4) c_X4_add rfl (gb_l5 gw_402 gw_403 gw_404 gw_392 gw_405) v_X4_add ⟨rfl, rfl⟩ ⟨Nat.le_of_ble_eq_true rfl, Nat.le_of_ble_eq_true rfl⟩ dX9_lays_94 (s_inc (by decide +kernel) (Nat.le_of_ble_eq_true rfl) dX9_lays_97 (s_goto (tgt := 75) (by decide +kernel) dX9_lays_100 (s_j (hκ 75))))))))))))))))
noncomputable def B_X9_lays : List (Nat × (gb_K → gb_C)) := [(75, fun κ => k_X9_lays_75 κ)]
noncomputable def K_X9_lays : gb_K := gb_fx (gb_tb (B_X9_lays))
theorem L_X9_lays : ∀ q, gb_Li (fun κ => gb_tb (B_X9_lays) κ q) := gb_tb_li (List.forall_mem_cons.mpr ⟨l_X9_lays_75, (fun _ h => absurd h List.not_mem_nil)⟩)
theorem S_X9_lays   : ∀ q, gb_S RX9 cX9_lays 4 (gb_rm 14 330) 1 q (K_X9_lays q) := fun q => gb_fx_S (L_X9_lays) (gb_tb_S (List.forall_mem_cons.mpr ⟨fun κ hκ => s_X9_lays_75 hκ, (fun _ h => absurd h List.not_mem_nil)⟩)) q
noncomputable def f_X9_lays : gb_F := gb_hide (gb_mf 4 (k_X9_lays_0 (K_X9_lays)))
theorem c_X9_lays : ∀ l, gb_Met l yX9_lays cX9_lays 4 (some .int) 1 (gb_rm 14 330) f_X9_lays := gb_hide_c (gb_met (own := RX9) (rk := 1) rfl (by decide +kernel) ⟨rfl, rfl⟩ (s_X9_lays_0 (S_X9_lays)))
theorem dX9_few_0 : decode cX9_few 0 = .ok (.aload_n 0, 1) := by decide +kernel
theorem dX9_few_1 : decode cX9_few 1 = .ok (.invokevirtual 223, 3) := by decide +kernel
theorem dX9_few_4 : decode cX9_few 4 = .ok (.istore_n 1, 1) := by decide +kernel
theorem dX9_few_5 : decode cX9_few 5 = .ok (.iload_n 1, 1) := by decide +kernel
theorem dX9_few_6 : decode cX9_few 6 = .ok (.ifCond .ge 5, 3) := by decide +kernel
theorem dX9_few_9 : decode cX9_few 9 = .ok (.iload_n 1, 1) := by decide +kernel
theorem dX9_few_10 : decode cX9_few 10 = .ok (.ireturn, 1) := by decide +kernel
theorem dX9_few_11 : decode cX9_few 11 = .ok (.aload_n 0, 1) := by decide +kernel
theorem dX9_few_12 : decode cX9_few 12 = .ok (.getfield 55, 3) := by decide +kernel
theorem dX9_few_15 : decode cX9_few 15 = .ok (.aload_n 0, 1) := by decide +kernel
theorem dX9_few_16 : decode cX9_few 16 = .ok (.getfield 31, 3) := by decide +kernel
theorem dX9_few_19 : decode cX9_few 19 = .ok (.getfield 151, 3) := by decide +kernel
theorem dX9_few_22 : decode cX9_few 22 = .ok (.invokevirtual 259, 3) := by decide +kernel
theorem dX9_few_25 : decode cX9_few 25 = .ok (.aload_n 0, 1) := by decide +kernel
theorem dX9_few_26 : decode cX9_few 26 = .ok (.getfield 64, 3) := by decide +kernel
theorem dX9_few_29 : decode cX9_few 29 = .ok (.aload_n 0, 1) := by decide +kernel
theorem dX9_few_30 : decode cX9_few 30 = .ok (.getfield 31, 3) := by decide +kernel
theorem dX9_few_33 : decode cX9_few 33 = .ok (.invokevirtual 271, 3) := by decide +kernel
theorem dX9_few_36 : decode cX9_few 36 = .ok (.istore_n 2, 1) := by decide +kernel
theorem dX9_few_37 : decode cX9_few 37 = .ok (.iload_n 2, 1) := by decide +kernel
theorem dX9_few_38 : decode cX9_few 38 = .ok (.ifCond .ge 6, 3) := by decide +kernel
theorem dX9_few_41 : decode cX9_few 41 = .ok (.bipush (-2), 2) := by decide +kernel
theorem dX9_few_43 : decode cX9_few 43 = .ok (.ireturn, 1) := by decide +kernel
theorem dX9_few_44 : decode cX9_few 44 = .ok (.aload_n 0, 1) := by decide +kernel
theorem dX9_few_45 : decode cX9_few 45 = .ok (.getfield 48, 3) := by decide +kernel
theorem dX9_few_48 : decode cX9_few 48 = .ok (.invokevirtual 194, 3) := by decide +kernel
theorem dX9_few_51 : decode cX9_few 51 = .ok (.aload_n 0, 1) := by decide +kernel
theorem dX9_few_52 : decode cX9_few 52 = .ok (.getfield 48, 3) := by decide +kernel
theorem dX9_few_55 : decode cX9_few 55 = .ok (.iload_n 2, 1) := by decide +kernel
theorem dX9_few_56 : decode cX9_few 56 = .ok (.i2l, 1) := by decide +kernel
theorem dX9_few_57 : decode cX9_few 57 = .ok (.invokevirtual 199, 3) := by decide +kernel
theorem dX9_few_60 : decode cX9_few 60 = .ok (.iload_n 2, 1) := by decide +kernel
theorem dX9_few_61 : decode cX9_few 61 = .ok (.invokestatic 275, 3) := by decide +kernel
theorem dX9_few_64 : decode cX9_few 64 = .ok (.ireturn, 1) := by decide +kernel
theorem v_X9_few : yX9_few.cls = RX9 ∧ yX9_few.cls ≠ "java/lang/invoke/MethodHandle" ∧ yX9_few.cls ≠ "java/lang/invoke/VarHandle" ∧ (parseMethodDescriptor yX9_few.desc).map (fun d => d.parameters.length) = some 0 := ⟨rfl, by decide +kernel, by decide +kernel, by decide +kernel⟩
noncomputable def k_X9_few_0 (κ : gb_K) : gb_C := (o_al 0 (o_cv 0 9 1 f_X9_readOrders (o_is 1 (o_il 1 (o_zge (o_al 0 (o_gf 9 8 (o_al 0 (o_gf 9 3 (o_gf 7 9 (o_cv 1 2 0 f_X2_comeOn (o_al 0 (o_gf 9 9 (o_al 0 (o_gf 9 3 (o_cv 1 1 1 f_X1_fewestBins (o_is 2 (o_il 2 (o_zge (o_al 0 (o_gf 9 7 (o_cv 0 4 0 f_X4_start (o_al 0 (o_gf 9 7 (o_il 2 (o_i2l (o_cv 1 4 0 f_X4_add (o_il 2 (o_cs 1 1 f_J6_bitCount_0f7a4 o_ri)))))))))) (o_ci (-2) o_ri))))))))))))))) (o_il 1 o_ri))))))
theorem l_X9_few_0 : gb_Li (fun κ => k_X9_few_0 κ) := (gb_li (q_al 0) (gb_li (q_cv 0 9 1 f_X9_readOrders) (gb_li (q_is 1) (gb_li (q_il 1) (q_zge (gb_li (q_al 0) (gb_li (q_gf 9 8) (gb_li (q_al 0) (gb_li (q_gf 9 3) (gb_li (q_gf 7 9) (gb_li (q_cv 1 2 0 f_X2_comeOn) (gb_li (q_al 0) (gb_li (q_gf 9 9) (gb_li (q_al 0) (gb_li (q_gf 9 3) (gb_li (q_cv 1 1 1 f_X1_fewestBins) (gb_li (q_is 2) (gb_li (q_il 2) (q_zge (gb_li (q_al 0) (gb_li (q_gf 9 7) (gb_li (q_cv 0 4 0 f_X4_start) (gb_li (q_al 0) (gb_li (q_gf 9 7) (gb_li (q_il 2) (gb_li q_i2l (gb_li (q_cv 1 4 0 f_X4_add) (gb_li (q_il 2) (gb_li (q_cs 1 1 f_J6_bitCount_0f7a4) (gb_li0 _))))))))))) (gb_li (q_ci (-2)) (gb_li0 _)))))))))))))))) (gb_li (q_il 1) (gb_li0 _)))))))
theorem s_X9_few_0   {κ : gb_K} (hκ : ∀ q, gb_S RX9 cX9_few 3 (gb_rm 14 320) 1 q (κ q)) : gb_S RX9 cX9_few 3 (gb_rm 14 320) 1 0 (k_X9_few_0 κ) := (s_aln 0 rfl dX9_few_0 (s_cv (C := RX9) c_X9_readOrders rfl (gb_l5 gw_431 gw_432 gw_433 gw_356 gw_434) v_X9_readOrders ⟨rfl, rfl⟩ ⟨Nat.le_of_ble_eq_true rfl, Nat.le_of_ble_eq_true rfl⟩ dX9_few_1 (s_isn 1 rfl (Nat.le_of_ble_eq_true rfl) dX9_few_4 (s_iln 1 rfl dX9_few_5 (s_zge (tgt := 11) (by decide +kernel) dX9_few_6 (s_aln 0 rfl dX9_few_11 (s_gf (T := TX9) winX9 rfl (Nat.le_of_ble_eq_true rfl) gw_426 rfl dX9_few_12 (s_aln 0 rfl dX9_few_15 (s_gf (T := TX9) winX9 rfl (Nat.le_of_ble_eq_true rfl) gw_336 rfl dX9_few_16 (s_gf (T := TX7) winX7 rfl (Nat.le_of_ble_eq_true rfl) gw_365 rfl dX9_few_19 (s_cv (C := RX2) c_X2_comeOn rfl (gb_l5 gw_463 gw_464 gw_465 gw_180 gw_466) v_X2_comeOn ⟨rfl, rfl⟩ ⟨Nat.le_of_ble_eq_true rfl, Nat.le_of_ble_eq_true rfl⟩ dX9_few_22 (s_aln 0 rfl dX9_few_25 (s_gf (T := TX9) winX9 rfl (Nat.le_of_ble_eq_true rfl) gw_467 rfl dX9_few_26 (s_aln 0 rfl dX9_few_29 (s_gf (T := TX9) winX9 rfl (Nat.le_of_ble_eq_true rfl) gw_336 rfl dX9_few_30 (s_cv (C := RX1) c_X1_fewestBins rfl (gb_l5 gw_477 gw_478 gw_479 gw_84 gw_480) v_X1_fewestBins ⟨rfl, rfl⟩ ⟨Nat.le_of_ble_eq_true rfl, Nat.le_of_ble_eq_true rfl⟩ dX9_few_33 (s_isn 2 rfl (Nat.le_of_ble_eq_true rfl) dX9_few_36 (s_iln 2 rfl dX9_few_37 (s_zge (tgt := 44) (by decide +kernel) dX9_few_38 (s_aln 0 rfl dX9_few_44 (s_gf (T := TX9) winX9 rfl (Nat.le_of_ble_eq_true rfl) gw_388 rfl dX9_few_45 (s_cv (C := RX4) c_X4_start rfl (gb_l5 gw_389 gw_390 gw_391 gw_392 gw_393) v_X4_start ⟨rfl, rfl⟩ ⟨Nat.le_of_ble_eq_true rfl, Nat.le_of_ble_eq_true rfl⟩ dX9_few_48 (s_aln 0 rfl dX9_few_51 (s_gf (T := TX9) winX9 rfl (Nat.le_of_ble_eq_true rfl) gw_388 rfl dX9_few_52 (s_iln 2 rfl dX9_few_55 (s_i2l dX9_few_56 (s_cv (C := RX4) c_X4_add rfl (gb_l5 gw_402 gw_403 gw_404 gw_392 gw_405) v_X4_add ⟨rfl, rfl⟩ ⟨Nat.le_of_ble_eq_true rfl, Nat.le_of_ble_eq_true rfl⟩ dX9_few_57 (s_iln 2 rfl dX9_few_60 (s_cs c_J6_bitCount_0f7a4 (gb_l4 gw_481 gw_135 gw_136 gw_137) v_J6_bitCount_0f7a4.2 ⟨rfl, rfl⟩ ⟨Nat.le_of_ble_eq_true rfl, Nat.le_of_ble_eq_true rfl⟩ dX9_few_61 (s_ri rfl dX9_few_64))))))))))) (s_bipush (by decide +kernel) dX9_few_41 (s_ri rfl dX9_few_43)))))))))))))))) (s_iln 1 rfl dX9_few_9 (s_ri rfl dX9_few_10)))))))
noncomputable def f_X9_few : gb_F := gb_hide (gb_mf 3 (k_X9_few_0 gb_n))
theorem c_X9_few : ∀ l, gb_Met l yX9_few cX9_few 3 (some .int) 1 (gb_rm 14 320) f_X9_few := gb_hide_c (gb_met (own := RX9) (rk := 1) rfl (by decide +kernel) ⟨rfl, rfl⟩ (s_X9_few_0 gb_S_n))
theorem dX9_room_0 : decode cX9_room 0 = .ok (.iload_n 1, 1) := by decide +kernel
theorem dX9_room_1 : decode cX9_room 1 = .ok (.invokestatic 114, 3) := by decide +kernel
theorem dX9_room_4 : decode cX9_room 4 = .ok (.ifCond .ne 5, 3) := by decide +kernel
theorem dX9_room_7 : decode cX9_room 7 = .ok (.iconst (-1), 1) := by decide +kernel
theorem dX9_room_8 : decode cX9_room 8 = .ok (.ireturn, 1) := by decide +kernel
theorem dX9_room_9 : decode cX9_room 9 = .ok (.iconst 0, 1) := by decide +kernel
theorem dX9_room_10 : decode cX9_room 10 = .ok (.istore_n 2, 1) := by decide +kernel
theorem dX9_room_11 : decode cX9_room 11 = .ok (.iconst (-1), 1) := by decide +kernel
theorem dX9_room_12 : decode cX9_room 12 = .ok (.istore_n 3, 1) := by decide +kernel
theorem dX9_room_13 : decode cX9_room 13 = .ok (.iconst 0, 1) := by decide +kernel
theorem dX9_room_14 : decode cX9_room 14 = .ok (.istore 4, 2) := by decide +kernel
theorem dX9_room_16 : decode cX9_room 16 = .ok (.iload 4, 2) := by decide +kernel
theorem dX9_room_18 : decode cX9_room 18 = .ok (.bipush 6, 2) := by decide +kernel
theorem dX9_room_20 : decode cX9_room 20 = .ok (.if_icmp .ge 66, 3) := by decide +kernel
theorem dX9_room_23 : decode cX9_room 23 = .ok (.aload_n 0, 1) := by decide +kernel
theorem dX9_room_24 : decode cX9_room 24 = .ok (.getfield 19, 3) := by decide +kernel
theorem dX9_room_27 : decode cX9_room 27 = .ok (.getfield 139, 3) := by decide +kernel
theorem dX9_room_30 : decode cX9_room 30 = .ok (.iload 4, 2) := by decide +kernel
theorem dX9_room_32 : decode cX9_room 32 = .ok (.iaload, 1) := by decide +kernel
theorem dX9_room_33 : decode cX9_room 33 = .ok (.aload_n 0, 1) := by decide +kernel
theorem dX9_room_34 : decode cX9_room 34 = .ok (.getfield 31, 3) := by decide +kernel
theorem dX9_room_37 : decode cX9_room 37 = .ok (.getfield 142, 3) := by decide +kernel
theorem dX9_room_40 : decode cX9_room 40 = .ok (.iload 4, 2) := by decide +kernel
theorem dX9_room_42 : decode cX9_room 42 = .ok (.iaload, 1) := by decide +kernel
theorem dX9_room_43 : decode cX9_room 43 = .ok (.isub, 1) := by decide +kernel
theorem dX9_room_44 : decode cX9_room 44 = .ok (.istore 5, 2) := by decide +kernel
theorem dX9_room_46 : decode cX9_room 46 = .ok (.iload 5, 2) := by decide +kernel
theorem dX9_room_48 : decode cX9_room 48 = .ok (.iload_n 2, 1) := by decide +kernel
theorem dX9_room_49 : decode cX9_room 49 = .ok (.if_icmp .le 31, 3) := by decide +kernel
theorem dX9_room_52 : decode cX9_room 52 = .ok (.aload_n 0, 1) := by decide +kernel
theorem dX9_room_53 : decode cX9_room 53 = .ok (.getfield 31, 3) := by decide +kernel
theorem dX9_room_56 : decode cX9_room 56 = .ok (.iload 4, 2) := by decide +kernel
theorem dX9_room_58 : decode cX9_room 58 = .ok (.iload_n 1, 1) := by decide +kernel
theorem dX9_room_59 : decode cX9_room 59 = .ok (.iload 5, 2) := by decide +kernel
theorem dX9_room_61 : decode cX9_room 61 = .ok (.aload_n 0, 1) := by decide +kernel
theorem dX9_room_62 : decode cX9_room 62 = .ok (.getfield 31, 3) := by decide +kernel
theorem dX9_room_65 : decode cX9_room 65 = .ok (.getfield 151, 3) := by decide +kernel
theorem dX9_room_68 : decode cX9_room 68 = .ok (.invokevirtual 180, 3) := by decide +kernel
theorem dX9_room_71 : decode cX9_room 71 = .ok (.ifCond .ne 9, 3) := by decide +kernel
theorem dX9_room_74 : decode cX9_room 74 = .ok (.iload 5, 2) := by decide +kernel
theorem dX9_room_76 : decode cX9_room 76 = .ok (.istore_n 2, 1) := by decide +kernel
theorem dX9_room_77 : decode cX9_room 77 = .ok (.iload 4, 2) := by decide +kernel
theorem dX9_room_79 : decode cX9_room 79 = .ok (.istore_n 3, 1) := by decide +kernel
theorem dX9_room_80 : decode cX9_room 80 = .ok (.iinc 4 1, 3) := by decide +kernel
theorem dX9_room_83 : decode cX9_room 83 = .ok (.goto (-67), 3) := by decide +kernel
theorem dX9_room_86 : decode cX9_room 86 = .ok (.aload_n 0, 1) := by decide +kernel
theorem dX9_room_87 : decode cX9_room 87 = .ok (.getfield 48, 3) := by decide +kernel
theorem dX9_room_90 : decode cX9_room 90 = .ok (.invokevirtual 194, 3) := by decide +kernel
theorem dX9_room_93 : decode cX9_room 93 = .ok (.aload_n 0, 1) := by decide +kernel
theorem dX9_room_94 : decode cX9_room 94 = .ok (.getfield 48, 3) := by decide +kernel
theorem dX9_room_97 : decode cX9_room 97 = .ok (.iload_n 3, 1) := by decide +kernel
theorem dX9_room_98 : decode cX9_room 98 = .ok (.i2l, 1) := by decide +kernel
theorem dX9_room_99 : decode cX9_room 99 = .ok (.invokevirtual 199, 3) := by decide +kernel
theorem dX9_room_102 : decode cX9_room 102 = .ok (.iload_n 2, 1) := by decide +kernel
theorem dX9_room_103 : decode cX9_room 103 = .ok (.ireturn, 1) := by decide +kernel
theorem v_X9_room : yX9_room.cls = RX9 ∧ yX9_room.cls ≠ "java/lang/invoke/MethodHandle" ∧ yX9_room.cls ≠ "java/lang/invoke/VarHandle" ∧ (parseMethodDescriptor yX9_room.desc).map (fun d => d.parameters.length) = some 1 := ⟨rfl, by decide +kernel, by decide +kernel, by decide +kernel⟩
noncomputable def k_X9_room_0 (κ : gb_K) : gb_C := (o_il 1 (o_cs 1 2 f_X9_isGrade (o_zeq (o_ci (-1) o_ri) (o_ci 0 (o_is 2 (o_ci (-1) (o_is 3 (o_ci 0 (o_is 4 (o_j [0, 1, 2, 3, 4] (κ 16)))))))))))
theorem l_X9_room_0 : gb_Li (fun κ => k_X9_room_0 κ) := (gb_li (q_il 1) (gb_li (q_cs 1 2 f_X9_isGrade) (q_zeq (gb_li (q_ci (-1)) (gb_li0 _)) (gb_li (q_ci 0) (gb_li (q_is 2) (gb_li (q_ci (-1)) (gb_li (q_is 3) (gb_li (q_ci 0) (gb_li (q_is 4) (q_j [0, 1, 2, 3, 4] 16))))))))))
theorem s_X9_room_0   {κ : gb_K} (hκ : ∀ q, gb_S RX9 cX9_room 6 (gb_rm 3 70) 1 q (κ q)) : gb_S RX9 cX9_room 6 (gb_rm 3 70) 1 0 (k_X9_room_0 κ) := (s_iln 1 rfl dX9_room_0 (s_cs c_X9_isGrade (gb_l4 gw_354 gw_355 gw_356 gw_357) v_X9_isGrade.2 ⟨rfl, rfl⟩ ⟨Nat.le_of_ble_eq_true rfl, Nat.le_of_ble_eq_true rfl⟩ dX9_room_1 (s_zne (tgt := 9) (by decide +kernel) dX9_room_4 (s_iconst (by decide +kernel) dX9_room_9 (s_isn 2 rfl (Nat.le_of_ble_eq_true rfl) dX9_room_10 (s_iconst (by decide +kernel) dX9_room_11 (s_isn 3 rfl (Nat.le_of_ble_eq_true rfl) dX9_room_12 (s_iconst (by decide +kernel) dX9_room_13 (s_is (Nat.le_of_ble_eq_true rfl) dX9_room_14 (s_j (hκ 16)))))))) (s_iconst (by decide +kernel) dX9_room_7 (s_ri rfl dX9_room_8)))))
noncomputable def k_X9_room_80 (κ : gb_K) : gb_C := (o_inc 4 1 (o_j [0, 1, 2, 3, 4] (κ 16)))
theorem l_X9_room_80 : gb_Li (fun κ => k_X9_room_80 κ) := (gb_li (q_inc 4 1) (q_j [0, 1, 2, 3, 4] 16))
theorem s_X9_room_80   {κ : gb_K} (hκ : ∀ q, gb_S RX9 cX9_room 6 (gb_rm 3 70) 1 q (κ q)) : gb_S RX9 cX9_room 6 (gb_rm 3 70) 1 80 (k_X9_room_80 κ) := (s_inc (by decide +kernel) (Nat.le_of_ble_eq_true rfl) dX9_room_80 (s_goto (tgt := 16) (by decide +kernel) dX9_room_83 (s_j (hκ 16))))
noncomputable def k_X9_room_77 (κ : gb_K) : gb_C := (o_il 4 (o_is 3 (k_X9_room_80 κ)))
theorem l_X9_room_77 : gb_Li (fun κ => k_X9_room_77 κ) := (gb_li (q_il 4) (gb_li (q_is 3) (l_X9_room_80)))
theorem s_X9_room_77   {κ : gb_K} (hκ : ∀ q, gb_S RX9 cX9_room 6 (gb_rm 3 70) 1 q (κ q)) : gb_S RX9 cX9_room 6 (gb_rm 3 70) 1 77 (k_X9_room_77 κ) := (s_il dX9_room_77 (s_isn 3 rfl (Nat.le_of_ble_eq_true rfl) dX9_room_79 (s_X9_room_80 hκ)))
noncomputable def k_X9_room_16 (κ : gb_K) : gb_C := (o_il 4 (o_ci 6 (o_cge (o_al 0 (o_gf 9 7 (o_cv 0 4 0 f_X4_start (o_al 0 (o_gf 9 7 (o_il 3 (o_i2l (o_cv 1 4 0 f_X4_add (o_il 2 o_ri))))))))) (o_al 0 (o_gf 9 1 (o_gf 5 2 (o_il 4 (o_iald (o_al 0 (o_gf 9 3 (o_gf 7 4 (o_il 4 (o_iald (o_ib (fun x y => x - y) (o_is 5 (o_il 5 (o_il 2 (o_cle (k_X9_room_80 κ) (o_al 0 (o_gf 9 3 (o_il 4 (o_il 1 (o_il 5 (o_al 0 (o_gf 9 3 (o_gf 7 9 (o_cv 4 7 1 f_X7_why (o_zeq (o_il 5 (o_is 2 (k_X9_room_77 κ))) (k_X9_room_80 κ)))))))))))))))))))))))))))))
theorem l_X9_room_16 : gb_Li (fun κ => k_X9_room_16 κ) := (gb_li (q_il 4) (gb_li (q_ci 6) (q_cge (gb_li (q_al 0) (gb_li (q_gf 9 7) (gb_li (q_cv 0 4 0 f_X4_start) (gb_li (q_al 0) (gb_li (q_gf 9 7) (gb_li (q_il 3) (gb_li q_i2l (gb_li (q_cv 1 4 0 f_X4_add) (gb_li (q_il 2) (gb_li0 _)))))))))) (gb_li (q_al 0) (gb_li (q_gf 9 1) (gb_li (q_gf 5 2) (gb_li (q_il 4) (gb_li q_iald (gb_li (q_al 0) (gb_li (q_gf 9 3) (gb_li (q_gf 7 4) (gb_li (q_il 4) (gb_li q_iald (gb_li (q_ib _) (gb_li (q_is 5) (gb_li (q_il 5) (gb_li (q_il 2) (q_cle (l_X9_room_80) (gb_li (q_al 0) (gb_li (q_gf 9 3) (gb_li (q_il 4) (gb_li (q_il 1) (gb_li (q_il 5) (gb_li (q_al 0) (gb_li (q_gf 9 3) (gb_li (q_gf 7 9) (gb_li (q_cv 4 7 1 f_X7_why) (q_zeq (gb_li (q_il 5) (gb_li (q_is 2) (l_X9_room_77))) (l_X9_room_80)))))))))))))))))))))))))))))
theorem s_X9_room_16   {κ : gb_K} (hκ : ∀ q, gb_S RX9 cX9_room 6 (gb_rm 3 70) 1 q (κ q)) : gb_S RX9 cX9_room 6 (gb_rm 3 70) 1 16 (k_X9_room_16 κ) := (s_il dX9_room_16 (s_bipush (by decide +kernel) dX9_room_18 (s_cge (tgt := 86) (by decide +kernel) dX9_room_20 (s_aln 0 rfl dX9_room_86 (s_gf (T := TX9) winX9 rfl (Nat.le_of_ble_eq_true rfl) gw_388 rfl dX9_room_87 (s_cv (C := RX4) c_X4_start rfl (gb_l5 gw_389 gw_390 gw_391 gw_392 gw_393) v_X4_start ⟨rfl, rfl⟩ ⟨Nat.le_of_ble_eq_true rfl, Nat.le_of_ble_eq_true rfl⟩ dX9_room_90 (s_aln 0 rfl dX9_room_93 (s_gf (T := TX9) winX9 rfl (Nat.le_of_ble_eq_true rfl) gw_388 rfl dX9_room_94 (s_iln 3 rfl dX9_room_97 (s_i2l dX9_room_98 (s_cv (C := RX4) c_X4_add rfl (gb_l5 gw_402 gw_403 gw_404 gw_392 gw_405) v_X4_add ⟨rfl, rfl⟩ ⟨Nat.le_of_ble_eq_true rfl, Nat.le_of_ble_eq_true rfl⟩ dX9_room_99 (s_iln 2 rfl dX9_room_102 (s_ri rfl dX9_room_103)))))))))) (s_aln 0 rfl dX9_room_23 (s_gf (T := TX9) winX9 rfl (Nat.le_of_ble_eq_true rfl) gw_331 rfl dX9_room_24 (s_gf (T := TX5) winX5 rfl (Nat.le_of_ble_eq_true rfl) gw_369 rfl dX9_room_27 (s_il dX9_room_30 (s_iald dX9_room_32 (s_aln 0 rfl dX9_room_33 (s_gf (T := TX9) winX9 rfl (Nat.le_of_ble_eq_true rfl) gw_336 rfl dX9_room_34 (s_gf (T := TX7) winX7 rfl (Nat.le_of_ble_eq_true rfl) gw_368 rfl dX9_room_37 (s_il dX9_room_40 (s_iald dX9_room_42 (s_isub dX9_room_43 (s_is (Nat.le_of_ble_eq_true rfl) dX9_room_44 (s_il dX9_room_46 (s_iln 2 rfl dX9_room_48 (s_cle (tgt := 80) (by decide +kernel) dX9_room_49 (s_X9_room_80 hκ) (s_aln 0 rfl dX9_room_52 (s_gf (T := TX9) winX9 rfl (Nat.le_of_ble_eq_true rfl) gw_336 rfl dX9_room_53 (s_il dX9_room_56 (s_iln 1 rfl dX9_room_58 (s_il dX9_room_59 (s_aln 0 rfl dX9_room_61 (s_gf (T := TX9) winX9 rfl (Nat.le_of_ble_eq_true rfl) gw_336 rfl dX9_room_62 (s_gf (T := TX7) winX7 rfl (Nat.le_of_ble_eq_true rfl) gw_365 rfl dX9_room_65 (s_cv (C := RX7) c_X7_why rfl (gb_l5 gw_382 gw_77 gw_78 gw_11 gw_79) v_X7_why ⟨rfl, rfl⟩ ⟨Nat.le_of_ble_eq_true rfl, Nat.le_of_ble_eq_true rfl⟩ dX9_room_68 (s_zne (tgt := 80) (by decide +kernel) dX9_room_71 (s_X9_room_80 hκ) (s_il dX9_room_74 (s_isn 2 rfl (Nat.le_of_ble_eq_true rfl) dX9_room_76 (s_X9_room_77 hκ)))))))))))))))))))))))))))))))
noncomputable def B_X9_room : List (Nat × (gb_K → gb_C)) := [(16, fun κ => k_X9_room_16 κ)]
noncomputable def K_X9_room : gb_K := gb_fx (gb_tb (B_X9_room))
theorem L_X9_room : ∀ q, gb_Li (fun κ => gb_tb (B_X9_room) κ q) := gb_tb_li (List.forall_mem_cons.mpr ⟨l_X9_room_16, (fun _ h => absurd h List.not_mem_nil)⟩)
theorem S_X9_room   : ∀ q, gb_S RX9 cX9_room 6 (gb_rm 3 70) 1 q (K_X9_room q) := fun q => gb_fx_S (L_X9_room) (gb_tb_S (List.forall_mem_cons.mpr ⟨fun κ hκ => s_X9_room_16 hκ, (fun _ h => absurd h List.not_mem_nil)⟩)) q
noncomputable def f_X9_room : gb_F := gb_hide (gb_mf 6 (k_X9_room_0 (K_X9_room)))
theorem c_X9_room : ∀ l, gb_Met l yX9_room cX9_room 6 (some .int) 1 (gb_rm 3 70) f_X9_room := gb_hide_c (gb_met (own := RX9) (rk := 1) rfl (by decide +kernel) ⟨rfl, rfl⟩ (s_X9_room_0 (S_X9_room)))
theorem dX9_takers_0 : decode cX9_takers 0 = .ok (.iload_n 1, 1) := by decide +kernel
theorem dX9_takers_1 : decode cX9_takers 1 = .ok (.invokestatic 177, 3) := by decide +kernel
theorem dX9_takers_4 : decode cX9_takers 4 = .ok (.ifCond .ne 5, 3) := by decide +kernel
theorem dX9_takers_7 : decode cX9_takers 7 = .ok (.iconst (-1), 1) := by decide +kernel
theorem dX9_takers_8 : decode cX9_takers 8 = .ok (.ireturn, 1) := by decide +kernel
theorem dX9_takers_9 : decode cX9_takers 9 = .ok (.iconst 0, 1) := by decide +kernel
theorem dX9_takers_10 : decode cX9_takers 10 = .ok (.istore_n 2, 1) := by decide +kernel
theorem dX9_takers_11 : decode cX9_takers 11 = .ok (.aload_n 0, 1) := by decide +kernel
theorem dX9_takers_12 : decode cX9_takers 12 = .ok (.getfield 48, 3) := by decide +kernel
theorem dX9_takers_15 : decode cX9_takers 15 = .ok (.invokevirtual 194, 3) := by decide +kernel
theorem dX9_takers_18 : decode cX9_takers 18 = .ok (.iconst 0, 1) := by decide +kernel
theorem dX9_takers_19 : decode cX9_takers 19 = .ok (.istore_n 3, 1) := by decide +kernel
theorem dX9_takers_20 : decode cX9_takers 20 = .ok (.iload_n 3, 1) := by decide +kernel
theorem dX9_takers_21 : decode cX9_takers 21 = .ok (.bipush 6, 2) := by decide +kernel
theorem dX9_takers_23 : decode cX9_takers 23 = .ok (.if_icmp .ge 69, 3) := by decide +kernel
theorem dX9_takers_26 : decode cX9_takers 26 = .ok (.iconst 0, 1) := by decide +kernel
theorem dX9_takers_27 : decode cX9_takers 27 = .ok (.istore 4, 2) := by decide +kernel
theorem dX9_takers_29 : decode cX9_takers 29 = .ok (.iconst 0, 1) := by decide +kernel
theorem dX9_takers_30 : decode cX9_takers 30 = .ok (.istore 5, 2) := by decide +kernel
theorem dX9_takers_32 : decode cX9_takers 32 = .ok (.iload 5, 2) := by decide +kernel
theorem dX9_takers_34 : decode cX9_takers 34 = .ok (.bipush 6, 2) := by decide +kernel
theorem dX9_takers_36 : decode cX9_takers 36 = .ok (.if_icmp .ge 40, 3) := by decide +kernel
theorem dX9_takers_39 : decode cX9_takers 39 = .ok (.aload_n 0, 1) := by decide +kernel
theorem dX9_takers_40 : decode cX9_takers 40 = .ok (.getfield 31, 3) := by decide +kernel
theorem dX9_takers_43 : decode cX9_takers 43 = .ok (.iload 5, 2) := by decide +kernel
theorem dX9_takers_45 : decode cX9_takers 45 = .ok (.iload_n 3, 1) := by decide +kernel
theorem dX9_takers_46 : decode cX9_takers 46 = .ok (.iload_n 1, 1) := by decide +kernel
theorem dX9_takers_47 : decode cX9_takers 47 = .ok (.aload_n 0, 1) := by decide +kernel
theorem dX9_takers_48 : decode cX9_takers 48 = .ok (.getfield 31, 3) := by decide +kernel
theorem dX9_takers_51 : decode cX9_takers 51 = .ok (.getfield 151, 3) := by decide +kernel
theorem dX9_takers_54 : decode cX9_takers 54 = .ok (.invokevirtual 180, 3) := by decide +kernel
theorem dX9_takers_57 : decode cX9_takers 57 = .ok (.ifCond .ne 13, 3) := by decide +kernel
theorem dX9_takers_60 : decode cX9_takers 60 = .ok (.iinc 4 1, 3) := by decide +kernel
theorem dX9_takers_63 : decode cX9_takers 63 = .ok (.iload_n 2, 1) := by decide +kernel
theorem dX9_takers_64 : decode cX9_takers 64 = .ok (.iconst 1, 1) := by decide +kernel
theorem dX9_takers_65 : decode cX9_takers 65 = .ok (.iload 5, 2) := by decide +kernel
theorem dX9_takers_67 : decode cX9_takers 67 = .ok (.ishl, 1) := by decide +kernel
theorem dX9_takers_68 : decode cX9_takers 68 = .ok (.ior, 1) := by decide +kernel
theorem dX9_takers_69 : decode cX9_takers 69 = .ok (.istore_n 2, 1) := by decide +kernel
theorem dX9_takers_70 : decode cX9_takers 70 = .ok (.iinc 5 1, 3) := by decide +kernel
theorem dX9_takers_73 : decode cX9_takers 73 = .ok (.goto (-41), 3) := by decide +kernel
theorem dX9_takers_76 : decode cX9_takers 76 = .ok (.aload_n 0, 1) := by decide +kernel
theorem dX9_takers_77 : decode cX9_takers 77 = .ok (.getfield 48, 3) := by decide +kernel
theorem dX9_takers_80 : decode cX9_takers 80 = .ok (.iload 4, 2) := by decide +kernel
theorem dX9_takers_82 : decode cX9_takers 82 = .ok (.i2l, 1) := by decide +kernel
theorem dX9_takers_83 : decode cX9_takers 83 = .ok (.invokevirtual 199, 3) := by decide +kernel
theorem dX9_takers_86 : decode cX9_takers 86 = .ok (.iinc 3 1, 3) := by decide +kernel
theorem dX9_takers_89 : decode cX9_takers 89 = .ok (.goto (-69), 3) := by decide +kernel
theorem dX9_takers_92 : decode cX9_takers 92 = .ok (.iload_n 2, 1) := by decide +kernel
theorem dX9_takers_93 : decode cX9_takers 93 = .ok (.ireturn, 1) := by decide +kernel
theorem v_X9_takers : yX9_takers.cls = RX9 ∧ yX9_takers.cls ≠ "java/lang/invoke/MethodHandle" ∧ yX9_takers.cls ≠ "java/lang/invoke/VarHandle" ∧ (parseMethodDescriptor yX9_takers.desc).map (fun d => d.parameters.length) = some 1 := ⟨rfl, by decide +kernel, by decide +kernel, by decide +kernel⟩
noncomputable def k_X9_takers_0 (κ : gb_K) : gb_C := (o_il 1 (o_cs 1 2 f_X9_isTons (o_zeq (o_ci (-1) o_ri) (o_ci 0 (o_is 2 (o_al 0 (o_gf 9 7 (o_cv 0 4 0 f_X4_start (o_ci 0 (o_is 3 (o_j [0, 1, 2, 3] (κ 20))))))))))))
theorem l_X9_takers_0 : gb_Li (fun κ => k_X9_takers_0 κ) := (gb_li (q_il 1) (gb_li (q_cs 1 2 f_X9_isTons) (q_zeq (gb_li (q_ci (-1)) (gb_li0 _)) (gb_li (q_ci 0) (gb_li (q_is 2) (gb_li (q_al 0) (gb_li (q_gf 9 7) (gb_li (q_cv 0 4 0 f_X4_start) (gb_li (q_ci 0) (gb_li (q_is 3) (q_j [0, 1, 2, 3] 20)))))))))))
theorem s_X9_takers_0   {κ : gb_K} (hκ : ∀ q, gb_S RX9 cX9_takers 6 (gb_rm 3 70) 1 q (κ q)) : gb_S RX9 cX9_takers 6 (gb_rm 3 70) 1 0 (k_X9_takers_0 κ) := (s_iln 1 rfl dX9_takers_0 (s_cs c_X9_isTons (gb_l4 gw_379 gw_380 gw_356 gw_381) v_X9_isTons.2 ⟨rfl, rfl⟩ ⟨Nat.le_of_ble_eq_true rfl, Nat.le_of_ble_eq_true rfl⟩ dX9_takers_1 (s_zne (tgt := 9) (by decide +kernel) dX9_takers_4 (s_iconst (by decide +kernel) dX9_takers_9 (s_isn 2 rfl (Nat.le_of_ble_eq_true rfl) dX9_takers_10 (s_aln 0 rfl dX9_takers_11 (s_gf (T := TX9) winX9 rfl (Nat.le_of_ble_eq_true rfl) gw_388 rfl dX9_takers_12 (s_cv (C := RX4) c_X4_start rfl (gb_l5 gw_389 gw_390 gw_391 gw_392 gw_393) v_X4_start ⟨rfl, rfl⟩ ⟨Nat.le_of_ble_eq_true rfl, Nat.le_of_ble_eq_true rfl⟩ dX9_takers_15 (s_iconst (by decide +kernel) dX9_takers_18 (s_isn 3 rfl (Nat.le_of_ble_eq_true rfl) dX9_takers_19 (s_j (hκ 20))))))))) (s_iconst (by decide +kernel) dX9_takers_7 (s_ri rfl dX9_takers_8)))))
noncomputable def k_X9_takers_20 (κ : gb_K) : gb_C := (o_il 3 (o_ci 6 (o_cge (o_il 2 o_ri) (o_ci 0 (o_is 4 (o_ci 0 (o_is 5 (o_j [0, 1, 2, 3, 4, 5] (κ 32)))))))))
theorem l_X9_takers_20 : gb_Li (fun κ => k_X9_takers_20 κ) := (gb_li (q_il 3) (gb_li (q_ci 6) (q_cge (gb_li (q_il 2) (gb_li0 _)) (gb_li (q_ci 0) (gb_li (q_is 4) (gb_li (q_ci 0) (gb_li (q_is 5) (q_j [0, 1, 2, 3, 4, 5] 32))))))))
theorem s_X9_takers_20   {κ : gb_K} (hκ : ∀ q, gb_S RX9 cX9_takers 6 (gb_rm 3 70) 1 q (κ q)) : gb_S RX9 cX9_takers 6 (gb_rm 3 70) 1 20 (k_X9_takers_20 κ) := (s_iln 3 rfl dX9_takers_20 (s_bipush (by decide +kernel) dX9_takers_21 (s_cge (tgt := 92) (by decide +kernel) dX9_takers_23 (s_iln 2 rfl dX9_takers_92 (s_ri rfl dX9_takers_93)) (s_iconst (by decide +kernel) dX9_takers_26 (s_is (Nat.le_of_ble_eq_true rfl) dX9_takers_27 (s_iconst (by decide +kernel) dX9_takers_29 (s_is (Nat.le_of_ble_eq_true rfl) dX9_takers_30 (s_j (hκ 32)))))))))
noncomputable def k_X9_takers_70 (κ : gb_K) : gb_C := (o_inc 5 1 (o_j [0, 1, 2, 3, 4, 5] (κ 32)))
theorem l_X9_takers_70 : gb_Li (fun κ => k_X9_takers_70 κ) := (gb_li (q_inc 5 1) (q_j [0, 1, 2, 3, 4, 5] 32))
theorem s_X9_takers_70   {κ : gb_K} (hκ : ∀ q, gb_S RX9 cX9_takers 6 (gb_rm 3 70) 1 q (κ q)) : gb_S RX9 cX9_takers 6 (gb_rm 3 70) 1 70 (k_X9_takers_70 κ) := (s_inc (by decide +kernel) (Nat.le_of_ble_eq_true rfl) dX9_takers_70 (s_goto (tgt := 32) (by decide +kernel) dX9_takers_73 (s_j (hκ 32))))
noncomputable def k_X9_takers_32 (κ : gb_K) : gb_C := (o_il 5 (o_ci 6 (o_cge (o_al 0 (o_gf 9 7 (o_il 4 (o_i2l (o_cv 1 4 0 f_X4_add (o_inc 3 1 (o_j [0, 1, 2, 3] (κ 20)))))))) (o_al 0 (o_gf 9 3 (o_il 5 (o_il 3 (o_il 1 (o_al 0 (o_gf 9 3 (o_gf 7 9 (o_cv 4 7 1 f_X7_why (o_zeq (o_inc 4 1 (o_il 2 (o_ci 1 (o_il 5 (o_ib (fun x y => x <<< (y &&& 31)) (o_ib (fun x y => x ||| y) (o_is 2 (k_X9_takers_70 κ)))))))) (k_X9_takers_70 κ))))))))))))))
theorem l_X9_takers_32 : gb_Li (fun κ => k_X9_takers_32 κ) := (gb_li (q_il 5) (gb_li (q_ci 6) (q_cge (gb_li (q_al 0) (gb_li (q_gf 9 7) (gb_li (q_il 4) (gb_li q_i2l (gb_li (q_cv 1 4 0 f_X4_add) (gb_li (q_inc 3 1) (q_j [0, 1, 2, 3] 20))))))) (gb_li (q_al 0) (gb_li (q_gf 9 3) (gb_li (q_il 5) (gb_li (q_il 3) (gb_li (q_il 1) (gb_li (q_al 0) (gb_li (q_gf 9 3) (gb_li (q_gf 7 9) (gb_li (q_cv 4 7 1 f_X7_why) (q_zeq (gb_li (q_inc 4 1) (gb_li (q_il 2) (gb_li (q_ci 1) (gb_li (q_il 5) (gb_li (q_ib _) (gb_li (q_ib _) (gb_li (q_is 2) (l_X9_takers_70)))))))) (l_X9_takers_70))))))))))))))
theorem s_X9_takers_32   {κ : gb_K} (hκ : ∀ q, gb_S RX9 cX9_takers 6 (gb_rm 3 70) 1 q (κ q)) : gb_S RX9 cX9_takers 6 (gb_rm 3 70) 1 32 (k_X9_takers_32 κ) := (s_il dX9_takers_32 (s_bipush (by decide +kernel) dX9_takers_34 (s_cge (tgt := 76) (by decide +kernel) dX9_takers_36 (s_aln 0 rfl dX9_takers_76 (s_gf (T := TX9) winX9 rfl (Nat.le_of_ble_eq_true rfl) gw_388 rfl dX9_takers_77 (s_il dX9_takers_80 (s_i2l dX9_takers_82 (s_cv (C := RX4) c_X4_add rfl (gb_l5 gw_402 gw_403 gw_404 gw_392 gw_405) v_X4_add ⟨rfl, rfl⟩ ⟨Nat.le_of_ble_eq_true rfl, Nat.le_of_ble_eq_true rfl⟩ dX9_takers_83 (s_inc (by decide +kernel) (Nat.le_of_ble_eq_true rfl) dX9_takers_86 (s_goto (tgt := 20) (by decide +kernel) dX9_takers_89 (s_j (hκ 20))))))))) (s_aln 0 rfl dX9_takers_39 (s_gf (T := TX9) winX9 rfl (Nat.le_of_ble_eq_true rfl) gw_336 rfl dX9_takers_40 (s_il dX9_takers_43 (s_iln 3 rfl dX9_takers_45 (s_iln 1 rfl dX9_takers_46 (s_aln 0 rfl dX9_takers_47 (s_gf (T := TX9) winX9 rfl (Nat.le_of_ble_eq_true rfl) gw_336 rfl dX9_takers_48 (s_gf (T := TX7) winX7 rfl (Nat.le_of_ble_eq_true rfl) gw_365 rfl dX9_takers_51 (s_cv (C := RX7) c_X7_why rfl (gb_l5 gw_382 gw_77 gw_78 gw_11 gw_79) v_X7_why ⟨rfl, rfl⟩ ⟨Nat.le_of_ble_eq_true rfl, Nat.le_of_ble_eq_true rfl⟩ dX9_takers_54 (s_zne (tgt := 70) (by decide +kernel) dX9_takers_57 (s_X9_takers_70 hκ) (s_inc (by decide +kernel) (Nat.le_of_ble_eq_true rfl) dX9_takers_60 (s_iln 2 rfl dX9_takers_63 (s_iconst (by decide +kernel) dX9_takers_64 (s_il dX9_takers_65 (s_ishl dX9_takers_67 (s_ior dX9_takers_68 (s_isn 2 rfl (Nat.le_of_ble_eq_true rfl) dX9_takers_69 (s_X9_takers_70 hκ)))))))))))))))))))))
noncomputable def B_X9_takers : List (Nat × (gb_K → gb_C)) := [(20, fun κ => k_X9_takers_20 κ), (32, fun κ => k_X9_takers_32 κ)]
noncomputable def K_X9_takers : gb_K := gb_fx (gb_tb (B_X9_takers))
theorem L_X9_takers : ∀ q, gb_Li (fun κ => gb_tb (B_X9_takers) κ q) := gb_tb_li (List.forall_mem_cons.mpr ⟨l_X9_takers_20, List.forall_mem_cons.mpr ⟨l_X9_takers_32, (fun _ h => absurd h List.not_mem_nil)⟩⟩)
theorem S_X9_takers   : ∀ q, gb_S RX9 cX9_takers 6 (gb_rm 3 70) 1 q (K_X9_takers q) := fun q => gb_fx_S (L_X9_takers) (gb_tb_S (List.forall_mem_cons.mpr ⟨fun κ hκ => s_X9_takers_20 hκ, List.forall_mem_cons.mpr ⟨fun κ hκ => s_X9_takers_32 hκ, (fun _ h => absurd h List.not_mem_nil)⟩⟩)) q
noncomputable def f_X9_takers : gb_F := gb_hide (gb_mf 6 (k_X9_takers_0 (K_X9_takers)))
theorem c_X9_takers : ∀ l, gb_Met l yX9_takers cX9_takers 6 (some .int) 1 (gb_rm 3 70) f_X9_takers := gb_hide_c (gb_met (own := RX9) (rk := 1) rfl (by decide +kernel) ⟨rfl, rfl⟩ (s_X9_takers_0 (S_X9_takers)))
