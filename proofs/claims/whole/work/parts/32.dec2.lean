/-! DEC: the blocks as equations, printed by wip/whole/dec.py -/
noncomputable def j_X7_take_8 (j0 : Nat) (v1 : Int32) (v3 : Int32) (v4 : Int32) (v5 : Int32) (σ : gb_M) : gb_R := K_X7_take 8 [(0, gR 10 j0), (1, gI v1), (3, gI v3), (4, gI v4), (5, gI v5)] [] σ
set_option maxRecDepth 20000 in
theorem e_X7_take_8 (j0 : Nat) (v1 : Int32) (v3 : Int32) (v4 : Int32) (v5 : Int32) (σ : gb_M) : j_X7_take_8 j0 v1 v3 v4 v5 σ =
  gb_gd (gb_in v1 6) (if σ.1 13 j0 v1.toNatClampNeg ≤ v5 then
    gb_gd (gb_in v1 6) (some (none, gb_si σ 13 j0 v1.toNatClampNeg v4))
  else
    gb_b1 (f_X7_place [gI v1, gI v5] σ) (fun x2 s1 => gb_gd (gb_in x2 36) (gb_gd (gb_in v1 6) (gb_gd (gb_in v1 6) (gb_gd (gb_in x2 36) (gb_gd (gb_in ((v1 * 6) + ((gb_si s1 14 j0 v1.toNatClampNeg ((s1.1 14 j0 v1.toNatClampNeg) - (if s1.1 16 j0 x2.toNatClampNeg < v3 then s1.1 16 j0 x2.toNatClampNeg else v3))).1 15 j0 x2.toNatClampNeg)) 36) (gb_gd (gb_in ((v1 * 6) + ((gb_si s1 14 j0 v1.toNatClampNeg ((s1.1 14 j0 v1.toNatClampNeg) - (if s1.1 16 j0 x2.toNatClampNeg < v3 then s1.1 16 j0 x2.toNatClampNeg else v3))).1 15 j0 x2.toNatClampNeg)) 36) (gb_gd (gb_in x2 36) (if (gb_si (gb_si s1 14 j0 v1.toNatClampNeg ((s1.1 14 j0 v1.toNatClampNeg) - (if s1.1 16 j0 x2.toNatClampNeg < v3 then s1.1 16 j0 x2.toNatClampNeg else v3))) 18 j0 ((v1 * 6) + ((gb_si s1 14 j0 v1.toNatClampNeg ((s1.1 14 j0 v1.toNatClampNeg) - (if s1.1 16 j0 x2.toNatClampNeg < v3 then s1.1 16 j0 x2.toNatClampNeg else v3))).1 15 j0 x2.toNatClampNeg)).toNatClampNeg (((gb_si s1 14 j0 v1.toNatClampNeg ((s1.1 14 j0 v1.toNatClampNeg) - (if s1.1 16 j0 x2.toNatClampNeg < v3 then s1.1 16 j0 x2.toNatClampNeg else v3))).1 18 j0 ((v1 * 6) + ((gb_si s1 14 j0 v1.toNatClampNeg ((s1.1 14 j0 v1.toNatClampNeg) - (if s1.1 16 j0 x2.toNatClampNeg < v3 then s1.1 16 j0 x2.toNatClampNeg else v3))).1 15 j0 x2.toNatClampNeg)).toNatClampNeg) - (if s1.1 16 j0 x2.toNatClampNeg < v3 then s1.1 16 j0 x2.toNatClampNeg else v3))).1 16 j0 x2.toNatClampNeg ≤ (if s1.1 16 j0 x2.toNatClampNeg < v3 then s1.1 16 j0 x2.toNatClampNeg else v3) then
      j_X7_take_8 j0 v1 (v3 - (if s1.1 16 j0 x2.toNatClampNeg < v3 then s1.1 16 j0 x2.toNatClampNeg else v3)) v4 (v5 + 1) (gb_si (gb_si s1 14 j0 v1.toNatClampNeg ((s1.1 14 j0 v1.toNatClampNeg) - (if s1.1 16 j0 x2.toNatClampNeg < v3 then s1.1 16 j0 x2.toNatClampNeg else v3))) 18 j0 ((v1 * 6) + ((gb_si s1 14 j0 v1.toNatClampNeg ((s1.1 14 j0 v1.toNatClampNeg) - (if s1.1 16 j0 x2.toNatClampNeg < v3 then s1.1 16 j0 x2.toNatClampNeg else v3))).1 15 j0 x2.toNatClampNeg)).toNatClampNeg (((gb_si s1 14 j0 v1.toNatClampNeg ((s1.1 14 j0 v1.toNatClampNeg) - (if s1.1 16 j0 x2.toNatClampNeg < v3 then s1.1 16 j0 x2.toNatClampNeg else v3))).1 18 j0 ((v1 * 6) + ((gb_si s1 14 j0 v1.toNatClampNeg ((s1.1 14 j0 v1.toNatClampNeg) - (if s1.1 16 j0 x2.toNatClampNeg < v3 then s1.1 16 j0 x2.toNatClampNeg else v3))).1 15 j0 x2.toNatClampNeg)).toNatClampNeg) - (if s1.1 16 j0 x2.toNatClampNeg < v3 then s1.1 16 j0 x2.toNatClampNeg else v3)))
    else
      gb_b1 (f_X7_place [gI v1, gI v4] (gb_si (gb_si s1 14 j0 v1.toNatClampNeg ((s1.1 14 j0 v1.toNatClampNeg) - (if s1.1 16 j0 x2.toNatClampNeg < v3 then s1.1 16 j0 x2.toNatClampNeg else v3))) 18 j0 ((v1 * 6) + ((gb_si s1 14 j0 v1.toNatClampNeg ((s1.1 14 j0 v1.toNatClampNeg) - (if s1.1 16 j0 x2.toNatClampNeg < v3 then s1.1 16 j0 x2.toNatClampNeg else v3))).1 15 j0 x2.toNatClampNeg)).toNatClampNeg (((gb_si s1 14 j0 v1.toNatClampNeg ((s1.1 14 j0 v1.toNatClampNeg) - (if s1.1 16 j0 x2.toNatClampNeg < v3 then s1.1 16 j0 x2.toNatClampNeg else v3))).1 18 j0 ((v1 * 6) + ((gb_si s1 14 j0 v1.toNatClampNeg ((s1.1 14 j0 v1.toNatClampNeg) - (if s1.1 16 j0 x2.toNatClampNeg < v3 then s1.1 16 j0 x2.toNatClampNeg else v3))).1 15 j0 x2.toNatClampNeg)).toNatClampNeg) - (if s1.1 16 j0 x2.toNatClampNeg < v3 then s1.1 16 j0 x2.toNatClampNeg else v3)))) (fun x4 s3 => gb_gd (gb_in x2 36) (gb_gd (gb_in x4 36) (gb_gd (gb_in x2 36) (gb_gd (gb_in x4 36) (gb_gd (gb_in x2 36) (gb_gd (gb_in x4 36) (j_X7_take_8 j0 v1 (v3 - (if s1.1 16 j0 x2.toNatClampNeg < v3 then s1.1 16 j0 x2.toNatClampNeg else v3)) (v4 + 1) (v5 + 1) (gb_si (gb_si (gb_si s3 16 j0 x4.toNatClampNeg ((s3.1 16 j0 x2.toNatClampNeg) - (if s1.1 16 j0 x2.toNatClampNeg < v3 then s1.1 16 j0 x2.toNatClampNeg else v3))) 15 j0 x4.toNatClampNeg ((gb_si s3 16 j0 x4.toNatClampNeg ((s3.1 16 j0 x2.toNatClampNeg) - (if s1.1 16 j0 x2.toNatClampNeg < v3 then s1.1 16 j0 x2.toNatClampNeg else v3))).1 15 j0 x2.toNatClampNeg)) 17 j0 x4.toNatClampNeg ((gb_si (gb_si s3 16 j0 x4.toNatClampNeg ((s3.1 16 j0 x2.toNatClampNeg) - (if s1.1 16 j0 x2.toNatClampNeg < v3 then s1.1 16 j0 x2.toNatClampNeg else v3))) 15 j0 x4.toNatClampNeg ((gb_si s3 16 j0 x4.toNatClampNeg ((s3.1 16 j0 x2.toNatClampNeg) - (if s1.1 16 j0 x2.toNatClampNeg < v3 then s1.1 16 j0 x2.toNatClampNeg else v3))).1 15 j0 x2.toNatClampNeg)).1 17 j0 x2.toNatClampNeg)))))))))))))))))) := (gb_fx_eq (L_X7_take) 8 _ _ _).trans rfl
set_option maxRecDepth 20000 in
theorem e_X7_take (j0 : Nat) (a1 : Int32) (a2 : Int32) (σ : gb_M) : f_X7_take [gR 10 j0, gI a1, gI a2] σ =
  j_X7_take_8 j0 a1 a2 0 0 σ := (gb_hide_at _ _ _).trans rfl
noncomputable def j_X7_drawOut_7 (j0 : Nat) (v1 : Int32) (v2 : Int32) (v3 : Int32) (v4 : Int32) (σ : gb_M) : gb_R := K_X7_drawOut 7 [(0, gR 10 j0), (1, gI v1), (2, gI v2), (3, gI v3), (4, gI v4)] [] σ
set_option maxRecDepth 20000 in
theorem e_X7_drawOut_7 (j0 : Nat) (v1 : Int32) (v2 : Int32) (v3 : Int32) (v4 : Int32) (σ : gb_M) : j_X7_drawOut_7 j0 v1 v2 v3 v4 σ =
  gb_gd (gb_in v1 6) (if σ.1 13 j0 v1.toNatClampNeg ≤ v4 then
    gb_b0 (f_X7_take [gR 10 j0, gI v1, gI v2] σ) (fun s1 => some (some (gI (v2 * v3)), gb_si s1 10 j0 10 (if (s1.1 10 j0 10) + (v2 * v3) < 2000000000 then (s1.1 10 j0 10) + (v2 * v3) else 2000000000)))
  else
    gb_b1 (f_X7_partBelow [gR 10 j0, gI v1, gI v4, gI v2] σ) (fun x3 s2 => if x3 ≤ 0 then
      j_X7_drawOut_7 j0 v1 v2 v3 (v4 + 1) s2
    else
      gb_b1 (f_X7_place [gI v1, gI v4] s2) (fun x5 s4 => gb_b1 (f_X7_unit [gR 10 j0, gI x5, gI (s4.1 10 j0 9)] s4) (fun x7 s6 => j_X7_drawOut_7 j0 v1 v2 (if x7 < v3 then x7 else v3) (v4 + 1) s6)))) := (gb_fx_eq (L_X7_drawOut) 7 _ _ _).trans rfl
set_option maxRecDepth 20000 in
theorem e_X7_drawOut (j0 : Nat) (a1 : Int32) (a2 : Int32) (σ : gb_M) : f_X7_drawOut [gR 10 j0, gI a1, gI a2] σ =
  j_X7_drawOut_7 j0 a1 a2 999 0 σ := (gb_hide_at _ _ _).trans rfl
noncomputable def j_X7_layersWith_11 (j0 : Nat) (v1 : Int32) (v2 : Int32) (v3 : Int32) (v4 : Int32) (v5 : Int32) (σ : gb_M) : gb_R := K_X7_layersWith 11 [(0, gR 10 j0), (1, gI v1), (2, gI v2), (3, gI v3), (4, gI v4), (5, gI v5)] [] σ
set_option maxRecDepth 20000 in
theorem e_X7_layersWith_11 (j0 : Nat) (v1 : Int32) (v2 : Int32) (v3 : Int32) (v4 : Int32) (v5 : Int32) (σ : gb_M) : j_X7_layersWith_11 j0 v1 v2 v3 v4 v5 σ =
  gb_gd (gb_in v1 6) (if σ.1 13 j0 v1.toNatClampNeg ≤ v5 then
    some (some (gI v4), σ)
  else
    if v5 = 0 then
      gb_b1 (f_X7_place [gI v1, gI 0] σ) (fun x2 s1 => gb_gd (gb_in x2 36) (gb_b1 (f_X7_place [gI v1, gI 0] s1) (fun x4 s3 => gb_gd (gb_in x4 36) (gb_b1 (f_X7_onTop [gR 10 j0, gI v2, gI (s1.1 15 j0 x2.toNatClampNeg), gI (s3.1 17 j0 x4.toNatClampNeg)] s3) (fun x6 s5 => if x6 = 0 then
        gb_b1 (f_X7_partBelow [gR 10 j0, gI v1, gI v5, gI v3] s5) (fun x8 s7 => if x8 ≤ 0 then
          j_X7_layersWith_11 j0 v1 v2 v3 v4 (v5 + 1) s7
        else
          if 0 = 0 then j_X7_layersWith_11 j0 v1 v2 v3 (v4 + 1) (v5 + 1) s7 else j_X7_layersWith_11 j0 v1 v2 v3 v4 (v5 + 1) s7)
      else
        gb_b1 (f_X7_partBelow [gR 10 j0, gI v1, gI v5, gI v3] s5) (fun x10 s9 => if x10 ≤ 0 then
          j_X7_layersWith_11 j0 v1 v2 v3 v4 (v5 + 1) s9
        else
          if 1 = 0 then j_X7_layersWith_11 j0 v1 v2 v3 (v4 + 1) (v5 + 1) s9 else j_X7_layersWith_11 j0 v1 v2 v3 v4 (v5 + 1) s9))))))
    else
      gb_b1 (f_X7_partBelow [gR 10 j0, gI v1, gI v5, gI v3] σ) (fun x12 s11 => if x12 ≤ 0 then
        j_X7_layersWith_11 j0 v1 v2 v3 v4 (v5 + 1) s11
      else
        if 0 = 0 then j_X7_layersWith_11 j0 v1 v2 v3 (v4 + 1) (v5 + 1) s11 else j_X7_layersWith_11 j0 v1 v2 v3 v4 (v5 + 1) s11)) := (gb_fx_eq (L_X7_layersWith) 11 _ _ _).trans rfl
set_option maxRecDepth 20000 in
theorem e_X7_layersWith (j0 : Nat) (a1 : Int32) (a2 : Int32) (a3 : Int32) (σ : gb_M) : f_X7_layersWith [gR 10 j0, gI a1, gI a2, gI a3] σ =
  gb_gd (gb_in a2 6) (j_X7_layersWith_11 j0 a1 a2 a3 (σ.1 13 j0 a2.toNatClampNeg) 0 σ) := (gb_hide_at _ _ _).trans rfl
noncomputable def j_X7_whyNotMove_65 (j0 : Nat) (v1 : Int32) (v2 : Int32) (v3 : Int32) (v4 : Int32) (v5 : Int32) (σ : gb_M) : gb_R := K_X7_whyNotMove 65 [(0, gR 10 j0), (1, gI v1), (2, gI v2), (3, gI v3), (4, gI v4), (5, gI v5)] [] σ
set_option maxRecDepth 20000 in
theorem e_X7_whyNotMove_65 (j0 : Nat) (v1 : Int32) (v2 : Int32) (v3 : Int32) (v4 : Int32) (v5 : Int32) (σ : gb_M) : j_X7_whyNotMove_65 j0 v1 v2 v3 v4 v5 σ =
  gb_gd (gb_in v1 6) (if σ.1 13 j0 v1.toNatClampNeg ≤ v5 then
    gb_b1 (f_X7_layersWith [gR 10 j0, gI v1, gI v2, gI v3] σ) (fun x8 s7 => if x8 ≤ 6 then some (some (gI 0), s7) else some (some (gI (-6)), s7))
  else
    gb_b1 (f_X7_partBelow [gR 10 j0, gI v1, gI v5, gI v3] σ) (fun x10 s9 => if x10 ≤ 0 then
      j_X7_whyNotMove_65 j0 v1 v2 v3 v4 (v5 + 1) s9
    else
      gb_b1 (f_X7_place [gI v1, gI v5] s9) (fun x12 s11 => gb_gd (gb_in x12 36) (gb_gd (gb_in (s11.1 15 j0 x12.toNatClampNeg) 6) (if v4 &&& (s11.1 8 0 (s11.1 15 j0 x12.toNatClampNeg).toNatClampNeg) = 0 then j_X7_whyNotMove_65 j0 v1 v2 v3 v4 (v5 + 1) s11 else some (some (gI (-5)), s11)))))) := (gb_fx_eq (L_X7_whyNotMove) 65 _ _ _).trans rfl
set_option maxRecDepth 20000 in
theorem e_X7_whyNotMove (j0 : Nat) (a1 : Int32) (a2 : Int32) (a3 : Int32) (σ : gb_M) : f_X7_whyNotMove [gR 10 j0, gI a1, gI a2, gI a3] σ =
  gb_b1 (f_X7_closed [gR 10 j0, gI a1] σ) (fun x2 s1 => if x2 = 0 then
    gb_b1 (f_X7_closed [gR 10 j0, gI a2] s1) (fun x4 s3 => if x4 = 0 then
      gb_gd (gb_in a1 6) (if a3 ≤ s3.1 14 j0 a1.toNatClampNeg then
        gb_gd (gb_in a2 6) (gb_gd (gb_in a2 6) (if (s3.1 14 j0 a2.toNatClampNeg) + a3 ≤ s3.1 6 0 a2.toNatClampNeg then
          gb_b1 (f_X7_gradesIn [gR 10 j0, gI a2] s3) (fun x6 s5 => j_X7_whyNotMove_65 j0 a1 a2 a3 x6 0 s5)
        else
          some (some (gI (-4)), s3)))
      else
        some (some (gI (-3)), s3))
    else
      some (some (gI (-2)), s3))
  else
    some (some (gI (-2)), s1)) := (gb_hide_at _ _ _).trans rfl
noncomputable def j_X7_shift_3 (j0 : Nat) (v1 : Int32) (v2 : Int32) (v3 : Int32) (v4 : Int32) (σ : gb_M) : gb_R := K_X7_shift 3 [(0, gR 10 j0), (1, gI v1), (2, gI v2), (3, gI v3), (4, gI v4)] [] σ
set_option maxRecDepth 20000 in
theorem e_X7_shift_3 (j0 : Nat) (v1 : Int32) (v2 : Int32) (v3 : Int32) (v4 : Int32) (σ : gb_M) : j_X7_shift_3 j0 v1 v2 v3 v4 σ =
  gb_gd (gb_in v1 6) (if σ.1 13 j0 v1.toNatClampNeg ≤ v4 then
    gb_b0 (f_X7_take [gR 10 j0, gI v1, gI v3] σ) (fun s1 => some (none, s1))
  else
    gb_b1 (f_X7_partBelow [gR 10 j0, gI v1, gI v4, gI v3] σ) (fun x3 s2 => if x3 ≤ 0 then
      j_X7_shift_3 j0 v1 v2 v3 (v4 + 1) s2
    else
      gb_b1 (f_X7_place [gI v1, gI v4] s2) (fun x5 s4 => gb_gd (gb_in x5 36) (gb_b1 (f_X7_place [gI v1, gI v4] s4) (fun x7 s6 => gb_gd (gb_in x7 36) (gb_b0 (f_X7_lay [gR 10 j0, gI v2, gI (s4.1 15 j0 x5.toNatClampNeg), gI x3, gI (s6.1 17 j0 x7.toNatClampNeg)] s6) (fun s8 => j_X7_shift_3 j0 v1 v2 v3 (v4 + 1) s8))))))) := (gb_fx_eq (L_X7_shift) 3 _ _ _).trans rfl
set_option maxRecDepth 20000 in
theorem e_X7_shift (j0 : Nat) (a1 : Int32) (a2 : Int32) (a3 : Int32) (σ : gb_M) : f_X7_shift [gR 10 j0, gI a1, gI a2, gI a3] σ =
  j_X7_shift_3 j0 a1 a2 a3 0 σ := (gb_hide_at _ _ _).trans rfl
set_option maxRecDepth 20000 in
theorem e_X7_swap (j0 : Nat) (a1 : Int32) (a2 : Int32) (σ : gb_M) : f_X7_swap [gR 10 j0, gI a1, gI a2] σ =
  gb_gd (gb_in a1 36) (gb_gd (gb_in a1 36) (gb_gd (gb_in a1 36) (gb_gd (gb_in a2 36) (gb_gd (gb_in a1 36) (gb_gd (gb_in a2 36) (gb_gd (gb_in a1 36) (gb_gd (gb_in a2 36) (gb_gd (gb_in a1 36) (gb_gd (gb_in a2 36) (gb_gd (gb_in a2 36) (gb_gd (gb_in a2 36) (some (none, gb_si (gb_si (gb_si (gb_si (gb_si (gb_si σ 15 j0 a1.toNatClampNeg (σ.1 15 j0 a2.toNatClampNeg)) 16 j0 a1.toNatClampNeg ((gb_si σ 15 j0 a1.toNatClampNeg (σ.1 15 j0 a2.toNatClampNeg)).1 16 j0 a2.toNatClampNeg)) 17 j0 a1.toNatClampNeg ((gb_si (gb_si σ 15 j0 a1.toNatClampNeg (σ.1 15 j0 a2.toNatClampNeg)) 16 j0 a1.toNatClampNeg ((gb_si σ 15 j0 a1.toNatClampNeg (σ.1 15 j0 a2.toNatClampNeg)).1 16 j0 a2.toNatClampNeg)).1 17 j0 a2.toNatClampNeg)) 15 j0 a2.toNatClampNeg (σ.1 15 j0 a1.toNatClampNeg)) 16 j0 a2.toNatClampNeg (σ.1 16 j0 a1.toNatClampNeg)) 17 j0 a2.toNatClampNeg (σ.1 17 j0 a1.toNatClampNeg)))))))))))))) := (gb_hide_at _ _ _).trans rfl
noncomputable def j_X7_join_23 (j0 : Nat) (v1 : Int32) (v2 : Int32) (v3 : Int32) (σ : gb_M) : gb_R := K_X7_join 23 [(0, gR 10 j0), (1, gI v1), (2, gI v2), (3, gI v3)] [] σ
noncomputable def j_X7_join_49 (j0 : Nat) (v1 : Int32) (v2 : Int32) (v3 : Int32) (σ : gb_M) : gb_R := K_X7_join 49 [(0, gR 10 j0), (1, gI v1), (2, gI v2), (3, gI v3)] [] σ
set_option maxRecDepth 20000 in
theorem e_X7_join_23 (j0 : Nat) (v1 : Int32) (v2 : Int32) (v3 : Int32) (σ : gb_M) : j_X7_join_23 j0 v1 v2 v3 σ =
  if 6 ≤ v3 then
    j_X7_join_49 j0 v1 v2 0 σ
  else
    gb_gd (gb_in ((v1 * 6) + v3) 36) (j_X7_join_23 j0 v1 v2 (v3 + 1) (gb_si σ 18 j0 ((v1 * 6) + v3).toNatClampNeg 0)) := (gb_fx_eq (L_X7_join) 23 _ _ _).trans rfl
set_option maxRecDepth 20000 in
theorem e_X7_join_49 (j0 : Nat) (v1 : Int32) (v2 : Int32) (v3 : Int32) (σ : gb_M) : j_X7_join_49 j0 v1 v2 v3 σ =
  if v2 ≤ v3 then
    some (none, σ)
  else
    gb_b1 (f_X7_place [gI v1, gI v3] σ) (fun x2 s1 => gb_gd (gb_in x2 36) (gb_gd (gb_in x2 36) (gb_gd (gb_in x2 36) (gb_b0 (f_X7_lay [gR 10 j0, gI v1, gI (s1.1 15 j0 x2.toNatClampNeg), gI (s1.1 16 j0 x2.toNatClampNeg), gI (s1.1 17 j0 x2.toNatClampNeg)] s1) (fun s3 => j_X7_join_49 j0 v1 v2 (v3 + 1) s3))))) := (gb_fx_eq (L_X7_join) 49 _ _ _).trans rfl
set_option maxRecDepth 20000 in
theorem e_X7_join (j0 : Nat) (a1 : Int32) (σ : gb_M) : f_X7_join [gR 10 j0, gI a1] σ =
  gb_gd (gb_in a1 6) (gb_gd (gb_in a1 6) (gb_gd (gb_in a1 6) (j_X7_join_23 j0 a1 (σ.1 13 j0 a1.toNatClampNeg) 0 (gb_si (gb_si σ 13 j0 a1.toNatClampNeg 0) 14 j0 a1.toNatClampNeg 0)))) := (gb_hide_at _ _ _).trans rfl
noncomputable def j_X7_turnOver_9 (j0 : Nat) (v1 : Int32) (v2 : Int32) (v3 : Int32) (σ : gb_M) : gb_R := K_X7_turnOver 9 [(0, gR 10 j0), (1, gI v1), (2, gI v2), (3, gI v3)] [] σ
set_option maxRecDepth 20000 in
theorem e_X7_turnOver_9 (j0 : Nat) (v1 : Int32) (v2 : Int32) (v3 : Int32) (σ : gb_M) : j_X7_turnOver_9 j0 v1 v2 v3 σ =
  if v2 / 2 ≤ v3 then
    gb_b0 (f_X7_join [gR 10 j0, gI v1] σ) (fun s1 => some (none, s1))
  else
    gb_b1 (f_X7_place [gI v1, gI v3] σ) (fun x3 s2 => gb_b1 (f_X7_place [gI v1, gI ((v2 - 1) - v3)] s2) (fun x5 s4 => gb_b0 (f_X7_swap [gR 10 j0, gI x3, gI x5] s4) (fun s6 => j_X7_turnOver_9 j0 v1 v2 (v3 + 1) s6))) := (gb_fx_eq (L_X7_turnOver) 9 _ _ _).trans rfl
set_option maxRecDepth 20000 in
theorem e_X7_turnOver (j0 : Nat) (a1 : Int32) (σ : gb_M) : f_X7_turnOver [gR 10 j0, gI a1] σ =
  gb_gd (gb_in a1 6) (j_X7_turnOver_9 j0 a1 (σ.1 13 j0 a1.toNatClampNeg) 0 σ) := (gb_hide_at _ _ _).trans rfl
noncomputable def j_X7_fumigate_14 (j0 : Nat) (v1 : Int32) (v3 : Int32) (σ : gb_M) : gb_R := K_X7_fumigate 14 [(0, gR 10 j0), (1, gI v1), (3, gI v3)] [] σ
set_option maxRecDepth 20000 in
theorem e_X7_fumigate_14 (j0 : Nat) (v1 : Int32) (v3 : Int32) (σ : gb_M) : j_X7_fumigate_14 j0 v1 v3 σ =
  gb_gd (gb_in v1 6) (if σ.1 13 j0 v1.toNatClampNeg ≤ v3 then
    gb_b0 (f_X7_join [gR 10 j0, gI v1] σ) (fun s1 => some (none, s1))
  else
    gb_b1 (f_X7_place [gI v1, gI v3] σ) (fun x3 s2 => gb_gd (gb_in v1 6) (gb_gd (gb_in x3 36) (j_X7_fumigate_14 j0 v1 (v3 + 1) (gb_si s2 17 j0 x3.toNatClampNeg (s2.1 12 j0 v1.toNatClampNeg)))))) := (gb_fx_eq (L_X7_fumigate) 14 _ _ _).trans rfl
set_option maxRecDepth 20000 in
theorem e_X7_fumigate (j0 : Nat) (a1 : Int32) (a2 : Int32) (σ : gb_M) : f_X7_fumigate [gR 10 j0, gI a1, gI a2] σ =
  gb_gd (gb_in a1 6) (j_X7_fumigate_14 j0 a1 0 (gb_si σ 12 j0 a1.toNatClampNeg ((σ.1 10 j0 9) + a2))) := (gb_hide_at _ _ _).trans rfl
noncomputable def j_X7_raw_5 (j0 : Nat) (v1 : Int32) (v2 : Int32) (v3 : Int32) (v4 : Int32) (σ : gb_M) : gb_R := K_X7_raw 5 [(0, gR 10 j0), (1, gI v1), (2, gI v2), (3, gI v3), (4, gI v4)] [] σ
set_option maxRecDepth 20000 in
theorem e_X7_raw_5 (j0 : Nat) (v1 : Int32) (v2 : Int32) (v3 : Int32) (v4 : Int32) (σ : gb_M) : j_X7_raw_5 j0 v1 v2 v3 v4 σ =
  gb_gd (gb_in v1 6) (if σ.1 13 j0 v1.toNatClampNeg ≤ v4 then
    some (some (gI v3), σ)
  else
    gb_b1 (f_X7_place [gI v1, gI v4] σ) (fun x2 s1 => gb_gd (gb_in x2 36) (gb_b1 (f_X7_unit [gR 10 j0, gI x2, gI v2] s1) (fun x4 s3 => j_X7_raw_5 j0 v1 v2 (v3 + ((s1.1 16 j0 x2.toNatClampNeg) * x4)) (v4 + 1) s3)))) := (gb_fx_eq (L_X7_raw) 5 _ _ _).trans rfl
set_option maxRecDepth 20000 in
theorem e_X7_raw (j0 : Nat) (a1 : Int32) (a2 : Int32) (σ : gb_M) : f_X7_raw [gR 10 j0, gI a1, gI a2] σ =
  j_X7_raw_5 j0 a1 a2 0 0 σ := (gb_hide_at _ _ _).trans rfl
noncomputable def j_X7_rawUnspoilt_4 (j0 : Nat) (v1 : Int32) (v2 : Int32) (v3 : Int32) (σ : gb_M) : gb_R := K_X7_rawUnspoilt 4 [(0, gR 10 j0), (1, gI v1), (2, gI v2), (3, gI v3)] [] σ
set_option maxRecDepth 20000 in
theorem e_X7_rawUnspoilt_4 (j0 : Nat) (v1 : Int32) (v2 : Int32) (v3 : Int32) (σ : gb_M) : j_X7_rawUnspoilt_4 j0 v1 v2 v3 σ =
  if 6 ≤ v3 then
    some (some (gI v2), σ)
  else
    gb_gd (gb_in ((v1 * 6) + v3) 36) (gb_gd (gb_in v3 6) (j_X7_rawUnspoilt_4 j0 v1 (v2 + ((σ.1 18 j0 ((v1 * 6) + v3).toNatClampNeg) * (σ.1 11 j0 v3.toNatClampNeg))) (v3 + 1) σ)) := (gb_fx_eq (L_X7_rawUnspoilt) 4 _ _ _).trans rfl
set_option maxRecDepth 20000 in
theorem e_X7_rawUnspoilt (j0 : Nat) (a1 : Int32) (σ : gb_M) : f_X7_rawUnspoilt [gR 10 j0, gI a1] σ =
  j_X7_rawUnspoilt_4 j0 a1 0 0 σ := (gb_hide_at _ _ _).trans rfl
set_option maxRecDepth 20000 in
theorem e_X7_mixedOf (j0 : Nat) (a1 : Int32) (a2 : Int32) (a3 : Int32) (σ : gb_M) : f_X7_mixedOf [gR 10 j0, gI a1, gI a2, gI a3] σ =
  gb_gd (gb_in ((a1 * 6) + a2) 36) (gb_gd (gb_in ((a1 * 6) + a3) 36) (gb_b1 (f_X5_lossOf [gR 3 0, gI a2, gI a3] σ) (fun x2 s1 => some (some (gI (x2 * (if σ.1 18 j0 ((a1 * 6) + a3).toNatClampNeg < σ.1 18 j0 ((a1 * 6) + a2).toNatClampNeg then σ.1 18 j0 ((a1 * 6) + a3).toNatClampNeg else σ.1 18 j0 ((a1 * 6) + a2).toNatClampNeg))), s1)))) := (gb_hide_at _ _ _).trans rfl
noncomputable def j_X7_mixedIn_4 (j0 : Nat) (v1 : Int32) (v2 : Int32) (v3 : Int32) (σ : gb_M) : gb_R := K_X7_mixedIn 4 [(0, gR 10 j0), (1, gI v1), (2, gI v2), (3, gI v3)] [] σ
noncomputable def j_X7_mixedIn_15 (j0 : Nat) (v1 : Int32) (v2 : Int32) (v3 : Int32) (v4 : Int32) (σ : gb_M) : gb_R := K_X7_mixedIn 15 [(0, gR 10 j0), (1, gI v1), (2, gI v2), (3, gI v3), (4, gI v4)] [] σ
set_option maxRecDepth 20000 in
theorem e_X7_mixedIn_4 (j0 : Nat) (v1 : Int32) (v2 : Int32) (v3 : Int32) (σ : gb_M) : j_X7_mixedIn_4 j0 v1 v2 v3 σ =
  if 6 ≤ v3 then some (some (gI v2), σ) else j_X7_mixedIn_15 j0 v1 v2 v3 (v3 + 1) σ := (gb_fx_eq (L_X7_mixedIn) 4 _ _ _).trans rfl
set_option maxRecDepth 20000 in
theorem e_X7_mixedIn_15 (j0 : Nat) (v1 : Int32) (v2 : Int32) (v3 : Int32) (v4 : Int32) (σ : gb_M) : j_X7_mixedIn_15 j0 v1 v2 v3 v4 σ =
  if 6 ≤ v4 then
    j_X7_mixedIn_4 j0 v1 v2 (v3 + 1) σ
  else
    gb_b1 (f_X7_mixedOf [gR 10 j0, gI v1, gI v3, gI v4] σ) (fun x2 s1 => j_X7_mixedIn_15 j0 v1 (v2 + x2) v3 (v4 + 1) s1) := (gb_fx_eq (L_X7_mixedIn) 15 _ _ _).trans rfl
set_option maxRecDepth 20000 in
theorem e_X7_mixedIn (j0 : Nat) (a1 : Int32) (σ : gb_M) : f_X7_mixedIn [gR 10 j0, gI a1] σ =
  j_X7_mixedIn_4 j0 a1 0 0 σ := (gb_hide_at _ _ _).trans rfl
set_option maxRecDepth 20000 in
theorem e_X7_valueThen (j0 : Nat) (a1 : Int32) (a2 : Int32) (σ : gb_M) : f_X7_valueThen [gR 10 j0, gI a1, gI a2] σ =
  gb_b1 (f_X7_raw [gR 10 j0, gI a1, gI a2] σ) (fun x2 s1 => gb_b1 (f_X7_mixedIn [gR 10 j0, gI a1] s1) (fun x4 s3 => some (some (gI (x2 - x4)), s3))) := (gb_hide_at _ _ _).trans rfl
set_option maxRecDepth 20000 in
theorem e_X7_valueOf (j0 : Nat) (a1 : Int32) (σ : gb_M) : f_X7_valueOf [gR 10 j0, gI a1] σ =
  gb_b1 (f_X7_valueThen [gR 10 j0, gI a1, gI (σ.1 10 j0 9)] σ) (fun x2 s1 => some (some (gI x2), s1)) := (gb_hide_at _ _ _).trans rfl
noncomputable def j_X7_valueOfAll_4 (j0 : Nat) (v1 : Int32) (v2 : Int32) (v3 : Int32) (σ : gb_M) : gb_R := K_X7_valueOfAll 4 [(0, gR 10 j0), (1, gI v1), (2, gI v2), (3, gI v3)] [] σ
set_option maxRecDepth 20000 in
theorem e_X7_valueOfAll_4 (j0 : Nat) (v1 : Int32) (v2 : Int32) (v3 : Int32) (σ : gb_M) : j_X7_valueOfAll_4 j0 v1 v2 v3 σ =
  if 6 ≤ v3 then
    some (some (gI v2), σ)
  else
    gb_b1 (f_X7_valueThen [gR 10 j0, gI v3, gI v1] σ) (fun x2 s1 => j_X7_valueOfAll_4 j0 v1 (v2 + x2) (v3 + 1) s1) := (gb_fx_eq (L_X7_valueOfAll) 4 _ _ _).trans rfl
set_option maxRecDepth 20000 in
theorem e_X7_valueOfAll (j0 : Nat) (a1 : Int32) (σ : gb_M) : f_X7_valueOfAll [gR 10 j0, gI a1] σ =
  j_X7_valueOfAll_4 j0 a1 0 0 σ := (gb_hide_at _ _ _).trans rfl
noncomputable def j_X7_worthOfAll_4 (j0 : Nat) (v1 : Int32) (v2 : Int32) (v3 : Int32) (σ : gb_M) : gb_R := K_X7_worthOfAll 4 [(0, gR 10 j0), (1, gI v1), (2, gI v2), (3, gI v3)] [] σ
noncomputable def j_X7_worthOfAll_13 (j0 : Nat) (v1 : Int32) (v2 : Int32) (v3 : Int32) (v4 : Int32) (σ : gb_M) : gb_R := K_X7_worthOfAll 13 [(0, gR 10 j0), (1, gI v1), (2, gI v2), (3, gI v3), (4, gI v4)] [] σ
set_option maxRecDepth 20000 in
theorem e_X7_worthOfAll_4 (j0 : Nat) (v1 : Int32) (v2 : Int32) (v3 : Int32) (σ : gb_M) : j_X7_worthOfAll_4 j0 v1 v2 v3 σ =
  if 6 ≤ v3 then some (some (gI v2), σ) else j_X7_worthOfAll_13 j0 v1 v2 v3 0 σ := (gb_fx_eq (L_X7_worthOfAll) 4 _ _ _).trans rfl
set_option maxRecDepth 20000 in
theorem e_X7_worthOfAll_13 (j0 : Nat) (v1 : Int32) (v2 : Int32) (v3 : Int32) (v4 : Int32) (σ : gb_M) : j_X7_worthOfAll_13 j0 v1 v2 v3 v4 σ =
  gb_gd (gb_in v3 6) (if σ.1 13 j0 v3.toNatClampNeg ≤ v4 then
    j_X7_worthOfAll_4 j0 v1 v2 (v3 + 1) σ
  else
    gb_b1 (f_X7_place [gI v3, gI v4] σ) (fun x2 s1 => gb_gd (gb_in x2 36) (if s1.1 15 j0 x2.toNatClampNeg = v1 then
      gb_gd (gb_in x2 36) (gb_b1 (f_X7_unit [gR 10 j0, gI x2, gI (s1.1 10 j0 9)] s1) (fun x4 s3 => j_X7_worthOfAll_13 j0 v1 (v2 + ((s1.1 16 j0 x2.toNatClampNeg) * x4)) v3 (v4 + 1) s3))
    else
      j_X7_worthOfAll_13 j0 v1 v2 v3 (v4 + 1) s1))) := (gb_fx_eq (L_X7_worthOfAll) 13 _ _ _).trans rfl
set_option maxRecDepth 20000 in
theorem e_X7_worthOfAll (j0 : Nat) (a1 : Int32) (σ : gb_M) : f_X7_worthOfAll [gR 10 j0, gI a1] σ =
  j_X7_worthOfAll_4 j0 a1 0 0 σ := (gb_hide_at _ _ _).trans rfl
noncomputable def j_X7_worthOfLoads_4 (j0 : Nat) (v2 : Int32) (v3 : Int32) (σ : gb_M) : gb_R := K_X7_worthOfLoads 4 [(0, gR 10 j0), (1, gR 23 0), (2, gI v2), (3, gI v3)] [] σ
set_option maxRecDepth 20000 in
theorem e_X7_worthOfLoads_4 (j0 : Nat) (v2 : Int32) (v3 : Int32) (σ : gb_M) : j_X7_worthOfLoads_4 j0 v2 v3 σ =
  if σ.1 23 0 3 ≤ v3 then
    some (some (gI v2), σ)
  else
    gb_gd (gb_in v3 6) (gb_gd (gb_in v3 6) (gb_gd (gb_in (σ.1 24 0 v3.toNatClampNeg) 6) (j_X7_worthOfLoads_4 j0 (v2 + ((σ.1 25 0 v3.toNatClampNeg) * (σ.1 11 j0 (σ.1 24 0 v3.toNatClampNeg).toNatClampNeg))) (v3 + 1) σ))) := (gb_fx_eq (L_X7_worthOfLoads) 4 _ _ _).trans rfl
set_option maxRecDepth 20000 in
theorem e_X7_worthOfLoads (j0 : Nat) (σ : gb_M) : f_X7_worthOfLoads [gR 10 j0, gR 23 0] σ =
  j_X7_worthOfLoads_4 j0 0 0 σ := (gb_hide_at _ _ _).trans rfl
set_option maxRecDepth 20000 in
theorem e_X7_gain (j0 : Nat) (a1 : Int32) (a2 : Int32) (a3 : Int32) (σ : gb_M) : f_X7_gain [gR 10 j0, gI a1, gI a2, gI a3] σ =
  gb_gd (gb_in a2 6) (gb_b1 (f_X7_growth [gR 10 j0, gI a1, gI a2, gI a3] σ) (fun x2 s1 => some (some (gI ((a3 * (σ.1 11 j0 a2.toNatClampNeg)) - x2)), s1))) := (gb_hide_at _ _ _).trans rfl
noncomputable def j_X7_runEnd_9 (j0 : Nat) (v1 : Int32) (v2 : Int32) (v3 : Int32) (v4 : Int32) (σ : gb_M) : gb_R := K_X7_runEnd 9 [(0, gR 10 j0), (1, gI v1), (2, gI v2), (3, gI v3), (4, gI v4)] [] σ
set_option maxRecDepth 20000 in
theorem e_X7_runEnd_9 (j0 : Nat) (v1 : Int32) (v2 : Int32) (v3 : Int32) (v4 : Int32) (σ : gb_M) : j_X7_runEnd_9 j0 v1 v2 v3 v4 σ =
  gb_gd (gb_in v1 6) (if σ.1 13 j0 v1.toNatClampNeg ≤ v4 then
    some (some (gI v3), σ)
  else
    gb_b1 (f_X7_place [gI v1, gI v4] σ) (fun x2 s1 => gb_gd (gb_in x2 36) (gb_b1 (f_X7_place [gI v1, gI v2] s1) (fun x4 s3 => gb_gd (gb_in x4 36) (if s1.1 15 j0 x2.toNatClampNeg = s3.1 15 j0 x4.toNatClampNeg then j_X7_runEnd_9 j0 v1 v2 (v4 + 1) (v4 + 1) s3 else some (some (gI v3), s3)))))) := (gb_fx_eq (L_X7_runEnd) 9 _ _ _).trans rfl
set_option maxRecDepth 20000 in
theorem e_X7_runEnd (j0 : Nat) (a1 : Int32) (a2 : Int32) (σ : gb_M) : f_X7_runEnd [gR 10 j0, gI a1, gI a2] σ =
  j_X7_runEnd_9 j0 a1 a2 (a2 + 1) (a2 + 1) σ := (gb_hide_at _ _ _).trans rfl
noncomputable def j_X7_aheadOf_3 (j0 : Nat) (v1 : Int32) (v2 : Int32) (v3 : Int32) (v4 : Int32) (σ : gb_M) : gb_R := K_X7_aheadOf 3 [(0, gR 10 j0), (1, gI v1), (2, gI v2), (3, gI v3), (4, gI v4)] [] σ
set_option maxRecDepth 20000 in
theorem e_X7_aheadOf_3 (j0 : Nat) (v1 : Int32) (v2 : Int32) (v3 : Int32) (v4 : Int32) (σ : gb_M) : j_X7_aheadOf_3 j0 v1 v2 v3 v4 σ =
  gb_gd (gb_in v1 6) (if σ.1 13 j0 v1.toNatClampNeg ≤ v4 then
    some (some (gI (-2)), σ)
  else
    gb_b1 (f_X7_place [gI v1, gI v4] σ) (fun x2 s1 => gb_gd (gb_in x2 36) (if s1.1 15 j0 x2.toNatClampNeg = v2 then
      gb_b1 (f_X7_tonsUnder [gR 10 j0, gI v1, gI v4] s1) (fun x4 s3 => gb_b1 (f_X7_runEnd [gR 10 j0, gI v1, gI v4] s3) (fun x6 s5 => gb_b1 (f_X7_tonsUnder [gR 10 j0, gI v1, gI x6] s5) (fun x8 s7 => if x8 - x4 < v3 then j_X7_aheadOf_3 j0 v1 v2 v3 (v4 + 1) s7 else some (some (gI x4), s7))))
    else
      j_X7_aheadOf_3 j0 v1 v2 v3 (v4 + 1) s1))) := (gb_fx_eq (L_X7_aheadOf) 3 _ _ _).trans rfl
set_option maxRecDepth 20000 in
theorem e_X7_aheadOf (j0 : Nat) (a1 : Int32) (a2 : Int32) (a3 : Int32) (σ : gb_M) : f_X7_aheadOf [gR 10 j0, gI a1, gI a2, gI a3] σ =
  j_X7_aheadOf_3 j0 a1 a2 a3 0 σ := (gb_hide_at _ _ _).trans rfl
set_option maxRecDepth 20000 in
theorem e_X7_spoilt (j0 : Nat) (a1 : Int32) (a2 : Int32) (σ : gb_M) : f_X7_spoilt [gR 10 j0, gI a1, gI a2] σ =
  gb_b1 (f_X7_unit [gR 10 j0, gI a1, gI a2] σ) (fun x2 s1 => gb_gd (gb_in a1 36) (gb_gd (gb_in (s1.1 15 j0 a1.toNatClampNeg) 6) (if s1.1 11 j0 (s1.1 15 j0 a1.toNatClampNeg).toNatClampNeg ≤ x2 then some (some (gI 0), s1) else some (some (gI 1), s1)))) := (gb_hide_at _ _ _).trans rfl
noncomputable def j_X7_spoiltGrades_4 (j0 : Nat) (v1 : Int32) (v2 : Int32) (v3 : Int32) (σ : gb_M) : gb_R := K_X7_spoiltGrades 4 [(0, gR 10 j0), (1, gI v1), (2, gI v2), (3, gI v3)] [] σ
noncomputable def j_X7_spoiltGrades_13 (j0 : Nat) (v1 : Int32) (v2 : Int32) (v3 : Int32) (v4 : Int32) (σ : gb_M) : gb_R := K_X7_spoiltGrades 13 [(0, gR 10 j0), (1, gI v1), (2, gI v2), (3, gI v3), (4, gI v4)] [] σ
set_option maxRecDepth 20000 in
theorem e_X7_spoiltGrades_4 (j0 : Nat) (v1 : Int32) (v2 : Int32) (v3 : Int32) (σ : gb_M) : j_X7_spoiltGrades_4 j0 v1 v2 v3 σ =
  if 6 ≤ v3 then some (some (gI v2), σ) else j_X7_spoiltGrades_13 j0 v1 v2 v3 0 σ := (gb_fx_eq (L_X7_spoiltGrades) 4 _ _ _).trans rfl
set_option maxRecDepth 20000 in
theorem e_X7_spoiltGrades_13 (j0 : Nat) (v1 : Int32) (v2 : Int32) (v3 : Int32) (v4 : Int32) (σ : gb_M) : j_X7_spoiltGrades_13 j0 v1 v2 v3 v4 σ =
  gb_gd (gb_in v3 6) (if σ.1 13 j0 v3.toNatClampNeg ≤ v4 then
    j_X7_spoiltGrades_4 j0 v1 v2 (v3 + 1) σ
  else
    gb_b1 (f_X7_place [gI v3, gI v4] σ) (fun x2 s1 => gb_b1 (f_X7_spoilt [gR 10 j0, gI x2, gI v1] s1) (fun x4 s3 => if x4 = 0 then
      j_X7_spoiltGrades_13 j0 v1 v2 v3 (v4 + 1) s3
    else
      gb_gd (gb_in x2 36) (j_X7_spoiltGrades_13 j0 v1 (v2 ||| (1 <<< ((s3.1 15 j0 x2.toNatClampNeg) &&& 31))) v3 (v4 + 1) s3)))) := (gb_fx_eq (L_X7_spoiltGrades) 13 _ _ _).trans rfl
set_option maxRecDepth 20000 in
theorem e_X7_spoiltGrades (j0 : Nat) (a1 : Int32) (σ : gb_M) : f_X7_spoiltGrades [gR 10 j0, gI a1] σ =
  j_X7_spoiltGrades_4 j0 a1 0 0 σ := (gb_hide_at _ _ _).trans rfl
noncomputable def j_X7_spoiltTons_4 (j0 : Nat) (v1 : Int32) (v2 : Int32) (v3 : Int32) (σ : gb_M) : gb_R := K_X7_spoiltTons 4 [(0, gR 10 j0), (1, gI v1), (2, gI v2), (3, gI v3)] [] σ
set_option maxRecDepth 20000 in
theorem e_X7_spoiltTons_4 (j0 : Nat) (v1 : Int32) (v2 : Int32) (v3 : Int32) (σ : gb_M) : j_X7_spoiltTons_4 j0 v1 v2 v3 σ =
  gb_gd (gb_in v1 6) (if σ.1 13 j0 v1.toNatClampNeg ≤ v3 then
    some (some (gI v2), σ)
  else
    gb_b1 (f_X7_place [gI v1, gI v3] σ) (fun x2 s1 => gb_b1 (f_X7_spoilt [gR 10 j0, gI x2, gI (s1.1 10 j0 9)] s1) (fun x4 s3 => if x4 = 0 then
      j_X7_spoiltTons_4 j0 v1 v2 (v3 + 1) s3
    else
      gb_gd (gb_in x2 36) (j_X7_spoiltTons_4 j0 v1 (v2 + (s3.1 16 j0 x2.toNatClampNeg)) (v3 + 1) s3)))) := (gb_fx_eq (L_X7_spoiltTons) 4 _ _ _).trans rfl
set_option maxRecDepth 20000 in
theorem e_X7_spoiltTons (j0 : Nat) (a1 : Int32) (σ : gb_M) : f_X7_spoiltTons [gR 10 j0, gI a1] σ =
  j_X7_spoiltTons_4 j0 a1 0 0 σ := (gb_hide_at _ _ _).trans rfl
noncomputable def j_X7_cureOf_6 (j0 : Nat) (v1 : Int32) (v2 : Int32) (v3 : Int32) (v4 : Int32) (v5 : Int32) (σ : gb_M) : gb_R := K_X7_cureOf 6 [(0, gR 10 j0), (1, gI v1), (2, gI v2), (3, gI v3), (4, gI v4), (5, gI v5)] [] σ
set_option maxRecDepth 20000 in
theorem e_X7_cureOf_6 (j0 : Nat) (v1 : Int32) (v2 : Int32) (v3 : Int32) (v4 : Int32) (v5 : Int32) (σ : gb_M) : j_X7_cureOf_6 j0 v1 v2 v3 v4 v5 σ =
  gb_gd (gb_in v1 6) (if σ.1 13 j0 v1.toNatClampNeg ≤ v5 then
    some (some (gI v4), σ)
  else
    gb_b1 (f_X7_place [gI v1, gI v5] σ) (fun x2 s1 => gb_gd (gb_in x2 36) (gb_gd (gb_in (s1.1 15 j0 x2.toNatClampNeg) 6) (gb_gd (gb_in x2 36) (gb_gd (gb_in (s1.1 15 j0 x2.toNatClampNeg) 6) (gb_gd (gb_in x2 36) (gb_b1 (f_X7_unit [gR 10 j0, gI x2, gI ((s1.1 10 j0 9) + v3)] s1) (fun x4 s3 => j_X7_cureOf_6 j0 v1 v2 v3 (v4 + ((s1.1 16 j0 x2.toNatClampNeg) * ((if 0 < (s1.1 11 j0 (s1.1 15 j0 x2.toNatClampNeg).toNatClampNeg) - (if 0 < (v3 - v2) - (s1.1 5 0 (s1.1 15 j0 x2.toNatClampNeg).toNatClampNeg) then (v3 - v2) - (s1.1 5 0 (s1.1 15 j0 x2.toNatClampNeg).toNatClampNeg) else 0) then (s1.1 11 j0 (s1.1 15 j0 x2.toNatClampNeg).toNatClampNeg) - (if 0 < (v3 - v2) - (s1.1 5 0 (s1.1 15 j0 x2.toNatClampNeg).toNatClampNeg) then (v3 - v2) - (s1.1 5 0 (s1.1 15 j0 x2.toNatClampNeg).toNatClampNeg) else 0) else 0) - x4))) (v5 + 1) s3)))))))) := (gb_fx_eq (L_X7_cureOf) 6 _ _ _).trans rfl
set_option maxRecDepth 20000 in
theorem e_X7_cureOf (j0 : Nat) (a1 : Int32) (a2 : Int32) (a3 : Int32) (σ : gb_M) : f_X7_cureOf [gR 10 j0, gI a1, gI a2, gI a3] σ =
  j_X7_cureOf_6 j0 a1 a2 a3 0 0 σ := (gb_hide_at _ _ _).trans rfl
noncomputable def j_X8_add_17 (v1 : Int32) (v2 : Int32) (σ : gb_M) : gb_R := K_X8_add 17 [(0, gR 1 0), (1, gI v1), (2, gI v2)] [] σ
set_option maxRecDepth 20000 in
theorem e_X8_add_17 (v1 : Int32) (v2 : Int32) (σ : gb_M) : j_X8_add_17 v1 v2 σ =
  if v2 < 0 then
    some (some (gI 1), σ)
  else
    gb_gd (gb_in (σ.1 1 0 1) 200) (j_X8_add_17 v1 (v2 + (-8)) (gb_si (gb_si σ 2 0 (σ.1 1 0 1).toNatClampNeg (((v1.toUInt32 >>> (v2.toUInt32 &&& Int32.toUInt32 31)).toInt32) &&& 255)) 1 0 1 (((gb_si σ 2 0 (σ.1 1 0 1).toNatClampNeg (((v1.toUInt32 >>> (v2.toUInt32 &&& Int32.toUInt32 31)).toInt32) &&& 255)).1 1 0 1) + 1))) := (gb_fx_eq (L_X8_add) 17 _ _ _).trans rfl
set_option maxRecDepth 20000 in
theorem e_X8_add (a1 : Int32) (σ : gb_M) : f_X8_add [gR 1 0, gI a1] σ =
  if (σ.1 1 0 1) + 4 ≤ 200 then j_X8_add_17 a1 24 σ else some (some (gI 0), σ) := (gb_hide_at _ _ _).trans rfl
set_option maxRecDepth 20000 in
theorem e_X8_cut (a1 : Int32) (σ : gb_M) : f_X8_cut [gR 1 0, gI a1] σ =
  if a1 < 0 then some (some (gI 0), σ) else if a1 ≤ σ.1 1 0 1 then some (some (gI 1), gb_si σ 1 0 1 a1) else some (some (gI 0), σ) := (gb_hide_at _ _ _).trans rfl
set_option maxRecDepth 20000 in
theorem e_X8_clear  (σ : gb_M) : f_X8_clear [gR 1 0] σ =
  some (none, gb_si σ 1 0 1 0) := (gb_hide_at _ _ _).trans rfl
set_option maxRecDepth 20000 in
theorem e_X8_start  (σ : gb_M) : f_X8_start [gR 1 0] σ =
  some (none, gb_si σ 1 0 2 0) := (gb_hide_at _ _ _).trans rfl
set_option maxRecDepth 20000 in
theorem e_X9_sign (a1 : Int32) (σ : gb_M) : f_X9_sign [gR 0 0, gI a1] σ =
  gb_b1 (f_X8_add [gR 1 0, gI a1] σ) (fun x2 s1 => if x2 = 0 then some (some (gI (-1)), s1) else some (some (gI (s1.1 1 0 1)), s1)) := (gb_hide_at _ _ _).trans rfl
set_option maxRecDepth 20000 in
theorem e_X9_end (a1 : Int32) (σ : gb_M) : f_X9_end [gR 0 0, gI a1] σ =
  gb_b1 (f_X8_cut [gR 1 0, gI a1] σ) (fun x2 s1 => gb_gd (decide (x2 &&& 1 = x2)) (some (some (gI x2), s1))) := (gb_hide_at _ _ _).trans rfl
set_option maxRecDepth 20000 in
theorem e_X9_land  (σ : gb_M) : f_X9_land [gR 0 0] σ =
  gb_b0 (f_X8_start [gR 1 0] σ) (fun s1 => gb_b1 (f_X5_read [gR 3 1, gR 1 0] s1) (fun x3 s2 => gb_b0 (f_X8_clear [gR 1 0] s2) (fun s4 => if 0 ≤ x3 then
    gb_b0 (f_X5_copy [gR 3 0, gR 3 1] s4) (fun s5 => gb_b0 (f_X7_clear [gR 10 0] s5) (fun s6 => gb_b0 (f_X3_clear [gR 19 0] s6) (fun s7 => some (some (gI x3), gb_si s7 0 0 5 0))))
  else
    some (some (gI x3), s4)))) := (gb_hide_at _ _ _).trans rfl
set_option maxRecDepth 20000 in
theorem e_X9_isGrade (a0 : Int32) (σ : gb_M) : f_X9_isGrade [gI a0] σ =
  if a0 < 0 then some (some (gI 0), σ) else if 6 ≤ a0 then some (some (gI 0), σ) else some (some (gI 1), σ) := (gb_hide_at _ _ _).trans rfl
set_option maxRecDepth 20000 in
theorem e_X9_grade_36 (v1 : Int32) (v2 : Int32) (σ : gb_M) : k_X9_grade_36 gb_n [(0, gR 0 0), (1, gI v1), (2, gI v2)] [] σ =
  gb_gd (gb_in v1 6) (some (some (gI (σ.1 11 0 v1.toNatClampNeg)), σ)) := rfl
set_option maxRecDepth 20000 in
theorem e_X9_grade_46 (v1 : Int32) (v2 : Int32) (σ : gb_M) : k_X9_grade_46 gb_n [(0, gR 0 0), (1, gI v1), (2, gI v2)] [] σ =
  gb_gd (gb_in v1 6) (some (some (gI (σ.1 5 0 v1.toNatClampNeg)), σ)) := rfl
set_option maxRecDepth 20000 in
theorem e_X9_grade_56 (v1 : Int32) (v2 : Int32) (σ : gb_M) : k_X9_grade_56 gb_n [(0, gR 0 0), (1, gI v1), (2, gI v2)] [] σ =
  gb_b1 (f_X7_tonsOf [gR 10 0, gI v1] σ) (fun x4 s3 => some (some (gI x4), s3)) := rfl
set_option maxRecDepth 20000 in
theorem e_X9_grade_65 (v1 : Int32) (v2 : Int32) (σ : gb_M) : k_X9_grade_65 gb_n [(0, gR 0 0), (1, gI v1), (2, gI v2)] [] σ =
  some (some (gI (-1)), σ) := rfl
set_option maxRecDepth 20000 in
theorem e_X9_grade (a1 : Int32) (a2 : Int32) (σ : gb_M) : f_X9_grade [gR 0 0, gI a1, gI a2] σ =
  gb_b1 (f_X9_isGrade [gI a1] σ) (fun x2 s1 => if x2 = 0 then
    some (some (gI (-1)), s1)
  else
    gb_tsel a2 0 2 [k_X9_grade_36 gb_n, k_X9_grade_46 gb_n, k_X9_grade_56 gb_n] (k_X9_grade_65 gb_n) [(0, gR 0 0), (1, gI a1), (2, gI a2)] [] s1) := (gb_hide_at _ _ _).trans rfl
set_option maxRecDepth 20000 in
theorem e_X9_pair (a1 : Int32) (a2 : Int32) (σ : gb_M) : f_X9_pair [gR 0 0, gI a1, gI a2] σ =
  gb_b1 (f_X9_isGrade [gI a1] σ) (fun x2 s1 => if x2 = 0 then
    some (some (gI (-1)), s1)
  else
    gb_b1 (f_X9_isGrade [gI a2] s1) (fun x4 s3 => if x4 = 0 then
      some (some (gI (-1)), s3)
    else
      gb_b1 (f_X5_may [gR 3 0, gI a1, gI a2] s3) (fun x6 s5 => if x6 = 0 then some (some (gI (-2)), s5) else gb_b1 (f_X5_lossOf [gR 3 0, gI a1, gI a2] s5) (fun x8 s7 => some (some (gI x8), s7))))) := (gb_hide_at _ _ _).trans rfl
set_option maxRecDepth 20000 in
theorem e_X9_isBin (a0 : Int32) (σ : gb_M) : f_X9_isBin [gI a0] σ =
  if a0 < 0 then some (some (gI 0), σ) else if 6 ≤ a0 then some (some (gI 0), σ) else some (some (gI 1), σ) := (gb_hide_at _ _ _).trans rfl
set_option maxRecDepth 20000 in
theorem e_X9_bin_44 (v1 : Int32) (v2 : Int32) (σ : gb_M) : k_X9_bin_44 gb_n [(0, gR 0 0), (1, gI v1), (2, gI v2)] [] σ =
  gb_gd (gb_in v1 6) (some (some (gI (σ.1 6 0 v1.toNatClampNeg)), σ)) := rfl
set_option maxRecDepth 20000 in
theorem e_X9_bin_54 (v1 : Int32) (v2 : Int32) (σ : gb_M) : k_X9_bin_54 gb_n [(0, gR 0 0), (1, gI v1), (2, gI v2)] [] σ =
  gb_gd (gb_in v1 6) (some (some (gI (σ.1 14 0 v1.toNatClampNeg)), σ)) := rfl
set_option maxRecDepth 20000 in
theorem e_X9_bin_64 (v1 : Int32) (v2 : Int32) (σ : gb_M) : k_X9_bin_64 gb_n [(0, gR 0 0), (1, gI v1), (2, gI v2)] [] σ =
  gb_gd (gb_in v1 6) (some (some (gI (σ.1 13 0 v1.toNatClampNeg)), σ)) := rfl
set_option maxRecDepth 20000 in
theorem e_X9_bin_74 (v1 : Int32) (v2 : Int32) (σ : gb_M) : k_X9_bin_74 gb_n [(0, gR 0 0), (1, gI v1), (2, gI v2)] [] σ =
  gb_gd (gb_in v1 6) (some (some (gI (if 0 < (σ.1 12 0 v1.toNatClampNeg) - (σ.1 10 0 9) then (σ.1 12 0 v1.toNatClampNeg) - (σ.1 10 0 9) else 0)), σ)) := rfl
set_option maxRecDepth 20000 in
theorem e_X9_bin_96 (v1 : Int32) (v2 : Int32) (σ : gb_M) : k_X9_bin_96 gb_n [(0, gR 0 0), (1, gI v1), (2, gI v2)] [] σ =
  gb_b1 (f_X7_gradesIn [gR 10 0, gI v1] σ) (fun x4 s3 => some (some (gI x4), s3)) := rfl
set_option maxRecDepth 20000 in
theorem e_X9_bin_105 (v1 : Int32) (v2 : Int32) (σ : gb_M) : k_X9_bin_105 gb_n [(0, gR 0 0), (1, gI v1), (2, gI v2)] [] σ =
  some (some (gI (-1)), σ) := rfl
set_option maxRecDepth 20000 in
theorem e_X9_bin (a1 : Int32) (a2 : Int32) (σ : gb_M) : f_X9_bin [gR 0 0, gI a1, gI a2] σ =
  gb_b1 (f_X9_isBin [gI a1] σ) (fun x2 s1 => if x2 = 0 then
    some (some (gI (-1)), s1)
  else
    gb_tsel a2 0 4 [k_X9_bin_44 gb_n, k_X9_bin_54 gb_n, k_X9_bin_64 gb_n, k_X9_bin_74 gb_n, k_X9_bin_96 gb_n] (k_X9_bin_105 gb_n) [(0, gR 0 0), (1, gI a1), (2, gI a2)] [] s1) := (gb_hide_at _ _ _).trans rfl
