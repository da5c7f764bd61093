/-! THE LAW: its loop (printed by mkloop.py) -/
theorem vpz {z : Int} {L : Nat} (h : 0 ≤ z ∧ z < L ∧ L ≤ 2048) : vp_in (nZ z) L := by
  intro hh
  rcases hh with hh | hh
  · rw [z0, z_lt ⟨by omega, by omega⟩ ⟨by omega, by omega⟩] at hh; omega
  · rw [z_tn (by omega)] at hh; omega
theorem nI_Z {n : Nat} (h : n ≤ 2048) : Int32.ofNat n = nZ n := Int32.toInt_inj.mp ((nI_toInt (n := n) (by omega)).trans (nZ_ti (z := n) ⟨by omega, by omega⟩).symm)
theorem dl_39 : decode code 39 = .ok (.tableswitch 1292 0 40 #[177, 202, 227, 240, 277, 314, 351, 400, 449, 486, 535, 560, 597, 622, 659, 672, 697, 710, 735, 784, 797, 810, 847, 860, 873, 898, 923, 948, 985, 998, 1011, 1036, 1061, 1098, 1111, 1148, 1161, 1174, 1187, 1212, 1237], 177) := by decide +kernel
set_option maxHeartbeats 4000000 in
theorem law_loop {p : Program} {l : Launch} {e : Env} {s : State} {m : MethodId} {below : List Frame} {meth : Method} {c : Code} {g : gb_G} {A : Nat → Prop} {b L : Nat} {xs : Nat → Int32} {Q : State → Prop} (hl0 : l.stackTraces = false) (hxw : gb_xw s) (hxs : gb_xs A s s.heap) (hL : L ≤ 2048) (X0 : ∀ cells slots, cells ≤ 601024 → slots ≤ 7293034 → gb_Lw p s m c g A cells slots b L xs)
    (hend : ∀ (H : Heap) (locs : List Loc) (cells slots : Nat) (arr : Array Slot), va_S A s.heap H locs → cells ≤ 601024 → slots ≤ 7293034 → W p l e room_1 s m #[Value.ref b] below meth c H locs cells slots Q (F0 m 1337 arr [])) : ∀ (n i cells slots : Nat), L + 1 ≤ i + n → i ≤ L → cells + n ≤ 601024 → slots + 6 * n ≤ 7293034 → ∀ (σ : gb_M) (A0 : gb_Ab) (H : Heap) (locs : List Loc) (arr : Array Slot), lv_has arr 8 (lw_l g b (nZ i)) → gb_All σ A0 → va_P (g.1, g.2.1) vwCl (gb_ws g σ) H → va_S A s.heap H locs → W p l e room_1 s m #[Value.ref b] below meth c H locs cells slots Q (F0 m 23 arr [])
  | 0, i, cells, slots, h1, h2, _, _ => by omega
  | n + 1, i, cells, slots, h1, h2, h3, h4 => by
    intro σ A0 H locs arr hv hAll hP hS
    have X := X0 cells slots (by omega) (by omega)
    obtain ⟨hx, hb, hml, hown, hts, hK, hA, hD, hcs, hX, hbl, hbA⟩ := id X
    have d23 : decode code 23 = .ok (.iload 4, 2) := by decide +kernel
    have d25 : decode code 25 = .ok (.aload_n 0, 1) := by decide +kernel
    have d26 : decode code 26 = .ok (.arraylength, 1) := by decide +kernel
    have d27 : decode code 27 = .ok (.iconst 4, 1) := by decide +kernel
    have d28 : decode code 28 = .ok (.isub, 1) := by decide +kernel
    have d29 : decode code 29 = .ok (.if_icmp .gt 1308, 3) := by decide +kernel
    have d32 : decode code 32 = .ok (.aload_n 0, 1) := by decide +kernel
    have d33 : decode code 33 = .ok (.iload 4, 2) := by decide +kernel
    have d35 : decode code 35 = .ok (.iaload, 1) := by decide +kernel
    have d36 : decode code 36 = .ok (.bipush 63, 2) := by decide +kernel
    have d38 : decode code 38 = .ok (.iand, 1) := by decide +kernel
    have d39 := dl_39
    have d1331 : decode code 1331 = .ok (.iinc 4 4, 3) := by decide +kernel
    have d1334 : decode code 1334 = .ok (.goto (-1311), 3) := by decide +kernel
    refine lv_iload hx hb d23 (lv_at hv 0 rfl) ?_
    refine lv_aload_n hx hb d25 rfl (lv_at hv 1 rfl) ?_
    refine va_slen hx hb hX hbl hbA hS d26 ?_
    refine lv_iconst (v := 4) hx hb d27 (by decide) ?_
    refine lv_isub hx hb d28 ?_
    rw [nI_Z hL, z4, z_sub]
    refine lv_icmp_gt (tgt := 1337) hx hb d29 (by decide) (fun _ => hend _ _ _ _ _ hS (by omega) (by omega)) (fun c0 => ?_)
    rw [z_lt ⟨by omega, by omega⟩ ⟨by omega, by omega⟩] at c0
    have h5 : i + 4 ≤ L := by omega
    have hks : ∀ k ∈ ([1, 2, 3] : List Int), vp_in (nZ i + Int32.ofInt k) L := by
      intro k hk
      have hk3 : k = 1 ∨ k = 2 ∨ k = 3 := by simpa using hk
      show vp_in (nZ i + nZ k) L
      rw [z_add]
      exact vpz (by omega)
    have nx : ∀ (cells' slots' : Nat), cells' + n ≤ 601024 → slots' + 6 * n ≤ 7293034 → ∀ (σ1 : gb_M) (A1 : gb_Ab) (H1 : Heap) (locs1 : List Loc) (arr1 : Array Slot), lv_has arr1 8 (lw_l g b (nZ i)) → gb_All σ1 A1 → va_P (g.1, g.2.1) vwCl (gb_ws g σ1) H1 → va_S A s.heap H1 locs1 → W p l e room_1 s m #[Value.ref b] below meth c H1 locs1 cells' slots' Q (F0 m 1331 arr1 []) := by
      intro cells' slots' k1 k2 σ1 A1 H1 locs1 arr1 hv1 a1 a2 a3
      refine lv_iinc (v := nZ (i + 4 : Nat)) (lv' := lw_l g b (nZ (i + 4 : Nat))) hx hb d1331 hv1 (k := 0) rfl (by show nZ i + nZ 4 = _; rw [z_add]; rfl) (by decide) rfl (fun ls hl => ?_)
      refine lv_goto (tgt := 23) hx hb d1334 (by decide) ?_
      exact law_loop hl0 hxw hxs hL X0 hend n (i + 4) cells' slots' (by omega) (by omega) k1 k2 σ1 A1 H1 locs1 ls hl a1 a2 a3
    refine lv_aload_n hx hb d32 rfl (lv_at hv 1 rfl) ?_
    refine lv_iload hx hb d33 (lv_at hv 0 rfl) ?_
    refine va_sld hx hb hX hbl hbA hS (vpz (by omega)) d35 ?_
    refine lv_bipush (v := 63) hx hb d36 (by decide) ?_
    refine lv_iand hx hb d38 ?_
    generalize xs (nZ i).toNatClampNeg &&& 63 = v
    by_cases hr : v.toInt < 0 ∨ 40 < v.toInt
    · exact lv_tableOut (tgt := 1331) hx hb d39 hr (by decide) (nx cells slots (by omega) (by omega) σ A0 H locs arr hv hAll hP hS)
    obtain ⟨k, hk, hk40⟩ : ∃ k : Nat, v.toInt = (k : Int) ∧ k ≤ 40 := ⟨v.toInt.toNat, by omega, by omega⟩
    have hc : k = 0 ∨ k = 1 ∨ k = 2 ∨ k = 3 ∨ k = 4 ∨ k = 5 ∨ k = 6 ∨ k = 7 ∨ k = 8 ∨ k = 9 ∨ k = 10 ∨ k = 11 ∨ k = 12 ∨ k = 13 ∨ k = 14 ∨ k = 15 ∨ k = 16 ∨ k = 17 ∨ k = 18 ∨ k = 19 ∨ k = 20 ∨ k = 21 ∨ k = 22 ∨ k = 23 ∨ k = 24 ∨ k = 25 ∨ k = 26 ∨ k = 27 ∨ k = 28 ∨ k = 29 ∨ k = 30 ∨ k = 31 ∨ k = 32 ∨ k = 33 ∨ k = 34 ∨ k = 35 ∨ k = 36 ∨ k = 37 ∨ k = 38 ∨ k = 39 ∨ k = 40 := by omega
    rcases hc with rfl | rfl | rfl | rfl | rfl | rfl | rfl | rfl | rfl | rfl | rfl | rfl | rfl | rfl | rfl | rfl | rfl | rfl | rfl | rfl | rfl | rfl | rfl | rfl | rfl | rfl | rfl | rfl | rfl | rfl | rfl | rfl | rfl | rfl | rfl | rfl | rfl | rfl | rfl | rfl | rfl
    · exact lv_tableIn (off := 177) (tgt := 216) hx hb d39 (by rw [hk]; decide) (by rw [hk]; decide) (by rw [hk]; rfl) (by decide) (lw_case_0 X hP hS hv hAll hks (fun σ1 A1 H1 locs1 a1 a2 a3 => nx cells slots (by omega) (by omega) σ1 A1 H1 locs1 arr hv a1 a2 a3))
    · exact lv_tableIn (off := 202) (tgt := 241) hx hb d39 (by rw [hk]; decide) (by rw [hk]; decide) (by rw [hk]; rfl) (by decide) (lw_case_1 X hP hS hv hAll hks (fun σ1 A1 H1 locs1 a1 a2 a3 => nx cells slots (by omega) (by omega) σ1 A1 H1 locs1 arr hv a1 a2 a3))
    · exact lv_tableIn (off := 227) (tgt := 266) hx hb d39 (by rw [hk]; decide) (by rw [hk]; decide) (by rw [hk]; rfl) (by decide) (lw_case_2 X hP hS hv hAll hks (fun σ1 A1 H1 locs1 a1 a2 a3 => nx cells slots (by omega) (by omega) σ1 A1 H1 locs1 arr hv a1 a2 a3))
    · exact lv_tableIn (off := 240) (tgt := 279) hx hb d39 (by rw [hk]; decide) (by rw [hk]; decide) (by rw [hk]; rfl) (by decide) (lw_case_3 X hP hS hv hAll hks (fun σ1 A1 H1 locs1 a1 a2 a3 => nx cells slots (by omega) (by omega) σ1 A1 H1 locs1 arr hv a1 a2 a3))
    · exact lv_tableIn (off := 277) (tgt := 316) hx hb d39 (by rw [hk]; decide) (by rw [hk]; decide) (by rw [hk]; rfl) (by decide) (lw_case_4 X hP hS hv hAll hks (fun σ1 A1 H1 locs1 a1 a2 a3 => nx cells slots (by omega) (by omega) σ1 A1 H1 locs1 arr hv a1 a2 a3))
    · exact lv_tableIn (off := 314) (tgt := 353) hx hb d39 (by rw [hk]; decide) (by rw [hk]; decide) (by rw [hk]; rfl) (by decide) (lw_case_5 X hP hS hv hAll hks (fun σ1 A1 H1 locs1 a1 a2 a3 => nx cells slots (by omega) (by omega) σ1 A1 H1 locs1 arr hv a1 a2 a3))
    · exact lv_tableIn (off := 351) (tgt := 390) hx hb d39 (by rw [hk]; decide) (by rw [hk]; decide) (by rw [hk]; rfl) (by decide) (lw_case_6 X hP hS hv hAll hks (fun σ1 A1 H1 locs1 a1 a2 a3 => nx cells slots (by omega) (by omega) σ1 A1 H1 locs1 arr hv a1 a2 a3))
    · exact lv_tableIn (off := 400) (tgt := 439) hx hb d39 (by rw [hk]; decide) (by rw [hk]; decide) (by rw [hk]; rfl) (by decide) (lw_case_7 X hP hS hv hAll hks (fun σ1 A1 H1 locs1 a1 a2 a3 => nx cells slots (by omega) (by omega) σ1 A1 H1 locs1 arr hv a1 a2 a3))
    · exact lv_tableIn (off := 449) (tgt := 488) hx hb d39 (by rw [hk]; decide) (by rw [hk]; decide) (by rw [hk]; rfl) (by decide) (lw_case_8 X hP hS hv hAll hks (fun σ1 A1 H1 locs1 a1 a2 a3 => nx cells slots (by omega) (by omega) σ1 A1 H1 locs1 arr hv a1 a2 a3))
    · exact lv_tableIn (off := 486) (tgt := 525) hx hb d39 (by rw [hk]; decide) (by rw [hk]; decide) (by rw [hk]; rfl) (by decide) (lw_case_9 X hP hS hv hAll hks (fun σ1 A1 H1 locs1 a1 a2 a3 => nx cells slots (by omega) (by omega) σ1 A1 H1 locs1 arr hv a1 a2 a3))
    · exact lv_tableIn (off := 535) (tgt := 574) hx hb d39 (by rw [hk]; decide) (by rw [hk]; decide) (by rw [hk]; rfl) (by decide) (lw_case_10 X hP hS hv hAll hks (fun σ1 A1 H1 locs1 a1 a2 a3 => nx cells slots (by omega) (by omega) σ1 A1 H1 locs1 arr hv a1 a2 a3))
    · exact lv_tableIn (off := 560) (tgt := 599) hx hb d39 (by rw [hk]; decide) (by rw [hk]; decide) (by rw [hk]; rfl) (by decide) (lw_case_11 X hP hS hv hAll hks (fun σ1 A1 H1 locs1 a1 a2 a3 => nx cells slots (by omega) (by omega) σ1 A1 H1 locs1 arr hv a1 a2 a3))
    · exact lv_tableIn (off := 597) (tgt := 636) hx hb d39 (by rw [hk]; decide) (by rw [hk]; decide) (by rw [hk]; rfl) (by decide) (lw_case_12 X hP hS hv hAll hks (fun σ1 A1 H1 locs1 a1 a2 a3 => nx cells slots (by omega) (by omega) σ1 A1 H1 locs1 arr hv a1 a2 a3))
    · exact lv_tableIn (off := 622) (tgt := 661) hx hb d39 (by rw [hk]; decide) (by rw [hk]; decide) (by rw [hk]; rfl) (by decide) (lw_case_13 X hP hS hv hAll hks (fun σ1 A1 H1 locs1 a1 a2 a3 => nx cells slots (by omega) (by omega) σ1 A1 H1 locs1 arr hv a1 a2 a3))
    · exact lv_tableIn (off := 659) (tgt := 698) hx hb d39 (by rw [hk]; decide) (by rw [hk]; decide) (by rw [hk]; rfl) (by decide) (lw_case_14 X hP hS hv hAll hks (fun σ1 A1 H1 locs1 a1 a2 a3 => nx cells slots (by omega) (by omega) σ1 A1 H1 locs1 arr hv a1 a2 a3))
    · exact lv_tableIn (off := 672) (tgt := 711) hx hb d39 (by rw [hk]; decide) (by rw [hk]; decide) (by rw [hk]; rfl) (by decide) (lw_case_15 X hP hS hv hAll hks (fun σ1 A1 H1 locs1 a1 a2 a3 => nx cells slots (by omega) (by omega) σ1 A1 H1 locs1 arr hv a1 a2 a3))
    · exact lv_tableIn (off := 697) (tgt := 736) hx hb d39 (by rw [hk]; decide) (by rw [hk]; decide) (by rw [hk]; rfl) (by decide) (lw_case_16 X hP hS hv hAll hks (fun σ1 A1 H1 locs1 a1 a2 a3 => nx cells slots (by omega) (by omega) σ1 A1 H1 locs1 arr hv a1 a2 a3))
    · exact lv_tableIn (off := 710) (tgt := 749) hx hb d39 (by rw [hk]; decide) (by rw [hk]; decide) (by rw [hk]; rfl) (by decide) (lw_case_17 X hP hS hv hAll hks (fun σ1 A1 H1 locs1 a1 a2 a3 => nx cells slots (by omega) (by omega) σ1 A1 H1 locs1 arr hv a1 a2 a3))
    · exact lv_tableIn (off := 735) (tgt := 774) hx hb d39 (by rw [hk]; decide) (by rw [hk]; decide) (by rw [hk]; rfl) (by decide) (lw_case_18 X hP hS hv hAll hks (fun σ1 A1 H1 locs1 a1 a2 a3 => nx cells slots (by omega) (by omega) σ1 A1 H1 locs1 arr hv a1 a2 a3))
    · exact lv_tableIn (off := 784) (tgt := 823) hx hb d39 (by rw [hk]; decide) (by rw [hk]; decide) (by rw [hk]; rfl) (by decide) (lw_case_19 X hP hS hv hAll hks (fun σ1 A1 H1 locs1 a1 a2 a3 => nx cells slots (by omega) (by omega) σ1 A1 H1 locs1 arr hv a1 a2 a3))
    · exact lv_tableIn (off := 797) (tgt := 836) hx hb d39 (by rw [hk]; decide) (by rw [hk]; decide) (by rw [hk]; rfl) (by decide) (lw_case_20 X hP hS hv hAll hks (fun σ1 A1 H1 locs1 a1 a2 a3 => nx cells slots (by omega) (by omega) σ1 A1 H1 locs1 arr hv a1 a2 a3))
    · exact lv_tableIn (off := 810) (tgt := 849) hx hb d39 (by rw [hk]; decide) (by rw [hk]; decide) (by rw [hk]; rfl) (by decide) (lw_case_21 X hP hS hv hAll hks (fun σ1 A1 H1 locs1 a1 a2 a3 => nx cells slots (by omega) (by omega) σ1 A1 H1 locs1 arr hv a1 a2 a3))
    · exact lv_tableIn (off := 847) (tgt := 886) hx hb d39 (by rw [hk]; decide) (by rw [hk]; decide) (by rw [hk]; rfl) (by decide) (lw_case_22 X hP hS hv hAll hks (fun σ1 A1 H1 locs1 a1 a2 a3 => nx cells slots (by omega) (by omega) σ1 A1 H1 locs1 arr hv a1 a2 a3))
    · exact lv_tableIn (off := 860) (tgt := 899) hx hb d39 (by rw [hk]; decide) (by rw [hk]; decide) (by rw [hk]; rfl) (by decide) (lw_case_23 X hP hS hv hAll hks (fun σ1 A1 H1 locs1 a1 a2 a3 => nx cells slots (by omega) (by omega) σ1 A1 H1 locs1 arr hv a1 a2 a3))
    · exact lv_tableIn (off := 873) (tgt := 912) hx hb d39 (by rw [hk]; decide) (by rw [hk]; decide) (by rw [hk]; rfl) (by decide) (lw_case_24 X hP hS hv hAll hks (fun σ1 A1 H1 locs1 a1 a2 a3 => nx cells slots (by omega) (by omega) σ1 A1 H1 locs1 arr hv a1 a2 a3))
    · exact lv_tableIn (off := 898) (tgt := 937) hx hb d39 (by rw [hk]; decide) (by rw [hk]; decide) (by rw [hk]; rfl) (by decide) (lw_case_25 X hP hS hv hAll hks (fun σ1 A1 H1 locs1 a1 a2 a3 => nx cells slots (by omega) (by omega) σ1 A1 H1 locs1 arr hv a1 a2 a3))
    · exact lv_tableIn (off := 923) (tgt := 962) hx hb d39 (by rw [hk]; decide) (by rw [hk]; decide) (by rw [hk]; rfl) (by decide) (lw_case_26 X hP hS hv hAll hks (fun σ1 A1 H1 locs1 a1 a2 a3 => nx cells slots (by omega) (by omega) σ1 A1 H1 locs1 arr hv a1 a2 a3))
    · exact lv_tableIn (off := 948) (tgt := 987) hx hb d39 (by rw [hk]; decide) (by rw [hk]; decide) (by rw [hk]; rfl) (by decide) (lw_case_27 X hP hS hv hAll hks (fun σ1 A1 H1 locs1 a1 a2 a3 => nx cells slots (by omega) (by omega) σ1 A1 H1 locs1 arr hv a1 a2 a3))
    · exact lv_tableIn (off := 985) (tgt := 1024) hx hb d39 (by rw [hk]; decide) (by rw [hk]; decide) (by rw [hk]; rfl) (by decide) (lw_case_28 X hP hS hv hAll hks (fun σ1 A1 H1 locs1 a1 a2 a3 => nx cells slots (by omega) (by omega) σ1 A1 H1 locs1 arr hv a1 a2 a3))
    · exact lv_tableIn (off := 998) (tgt := 1037) hx hb d39 (by rw [hk]; decide) (by rw [hk]; decide) (by rw [hk]; rfl) (by decide) (lw_case_29 X hP hS hv hAll hks (fun σ1 A1 H1 locs1 a1 a2 a3 => nx cells slots (by omega) (by omega) σ1 A1 H1 locs1 arr hv a1 a2 a3))
    · exact lv_tableIn (off := 1011) (tgt := 1050) hx hb d39 (by rw [hk]; decide) (by rw [hk]; decide) (by rw [hk]; rfl) (by decide) (lw_case_30 X hP hS hv hAll hks (fun σ1 A1 H1 locs1 a1 a2 a3 => nx cells slots (by omega) (by omega) σ1 A1 H1 locs1 arr hv a1 a2 a3))
    · exact lv_tableIn (off := 1036) (tgt := 1075) hx hb d39 (by rw [hk]; decide) (by rw [hk]; decide) (by rw [hk]; rfl) (by decide) (lw_case_31 X hP hS hv hAll hks (fun σ1 A1 H1 locs1 a1 a2 a3 => nx cells slots (by omega) (by omega) σ1 A1 H1 locs1 arr hv a1 a2 a3))
    · exact lv_tableIn (off := 1061) (tgt := 1100) hx hb d39 (by rw [hk]; decide) (by rw [hk]; decide) (by rw [hk]; rfl) (by decide) (lw_case_32 X hP hS hv hAll hks (fun σ1 A1 H1 locs1 a1 a2 a3 => nx cells slots (by omega) (by omega) σ1 A1 H1 locs1 arr hv a1 a2 a3))
    · exact lv_tableIn (off := 1098) (tgt := 1137) hx hb d39 (by rw [hk]; decide) (by rw [hk]; decide) (by rw [hk]; rfl) (by decide) (lw_case_33 X hP hS hv hAll hks (fun σ1 A1 H1 locs1 a1 a2 a3 => nx cells slots (by omega) (by omega) σ1 A1 H1 locs1 arr hv a1 a2 a3))
    · exact lv_tableIn (off := 1111) (tgt := 1150) hx hb d39 (by rw [hk]; decide) (by rw [hk]; decide) (by rw [hk]; rfl) (by decide) (lw_case_34 X hP hS hv hAll hks (fun σ1 A1 H1 locs1 a1 a2 a3 => nx cells slots (by omega) (by omega) σ1 A1 H1 locs1 arr hv a1 a2 a3))
    · exact lv_tableIn (off := 1148) (tgt := 1187) hx hb d39 (by rw [hk]; decide) (by rw [hk]; decide) (by rw [hk]; rfl) (by decide) (lw_case_35 X hP hS hv hAll hks (fun σ1 A1 H1 locs1 a1 a2 a3 => nx cells slots (by omega) (by omega) σ1 A1 H1 locs1 arr hv a1 a2 a3))
    · exact lv_tableIn (off := 1161) (tgt := 1200) hx hb d39 (by rw [hk]; decide) (by rw [hk]; decide) (by rw [hk]; rfl) (by decide) (lw_case_36 X hP hS hv hAll hks (fun σ1 A1 H1 locs1 a1 a2 a3 => nx cells slots (by omega) (by omega) σ1 A1 H1 locs1 arr hv a1 a2 a3))
    · exact lv_tableIn (off := 1174) (tgt := 1213) hx hb d39 (by rw [hk]; decide) (by rw [hk]; decide) (by rw [hk]; rfl) (by decide) (lw_case_37 X hP hS hv hAll hks (fun σ1 A1 H1 locs1 a1 a2 a3 => nx cells slots (by omega) (by omega) σ1 A1 H1 locs1 arr hv a1 a2 a3))
    · exact lv_tableIn (off := 1187) (tgt := 1226) hx hb d39 (by rw [hk]; decide) (by rw [hk]; decide) (by rw [hk]; rfl) (by decide) (lw_case_38 X hP hS hv hAll hks (fun σ1 A1 H1 locs1 a1 a2 a3 => nx cells slots (by omega) (by omega) σ1 A1 H1 locs1 arr hv a1 a2 a3))
    · exact lv_tableIn (off := 1212) (tgt := 1251) hx hb d39 (by rw [hk]; decide) (by rw [hk]; decide) (by rw [hk]; rfl) (by decide) (lw_case_39 X hP hS hv hAll hks (fun σ1 A1 H1 locs1 a1 a2 a3 => nx cells slots (by omega) (by omega) σ1 A1 H1 locs1 arr hv a1 a2 a3))
    · exact lv_tableIn (off := 1237) (tgt := 1276) hx hb d39 (by rw [hk]; decide) (by rw [hk]; decide) (by rw [hk]; rfl) (by decide) (lw_case_40 X (X0 _ _ (by omega) (by omega)) hl0 hxw hxs hP hS hv hAll hks (fun σ1 A1 H1 locs1 arr1 a0 a1 a2 a3 => nx (cells + 1) (slots + 6) (by omega) (by omega) σ1 A1 H1 locs1 arr1 a0 a1 a2 a3))
