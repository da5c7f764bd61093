/-! DEC: the blocks as equations, printed by wip/p44/dec.py -/
set_option maxRecDepth 20000 in
theorem e_X7_spoilt (j0 : Nat) (a1 : Int32) (a2 : Int32) (σ : gb_M) : f_X7_spoilt [gR 10 j0, gI a1, gI a2] σ =
  gb_b1 (f_X7_unit [gR 10 j0, gI a1, gI a2] σ) (fun x2 s1 => gb_gd (gb_in a1 36) (gb_gd (gb_in (s1.1 15 j0 a1.toNatClampNeg) 6) (if s1.1 11 j0 (s1.1 15 j0 a1.toNatClampNeg).toNatClampNeg ≤ x2 then some (some (gI 0), s1) else some (some (gI 1), s1)))) := (gb_hide_at _ _ _).trans rfl
noncomputable def j_X7_spoiltGrades_4 (j0 : Nat) (v1 : Int32) (v2 : Int32) (v3 : Int32) (σ : gb_M) : gb_R := K_X7_spoiltGrades 4 [(0, gR 10 j0), (1, gI v1), (2, gI v2), (3, gI v3)] [] σ
noncomputable def j_X7_spoiltGrades_13 (j0 : Nat) (v1 : Int32) (v2 : Int32) (v3 : Int32) (v4 : Int32) (σ : gb_M) : gb_R := K_X7_spoiltGrades 13 [(0, gR 10 j0), (1, gI v1), (2, gI v2), (3, gI v3), (4, gI v4)] [] σ
set_option maxRecDepth 20000 in
theorem e_X7_spoiltGrades_4 (j0 : Nat) (v1 : Int32) (v2 : Int32) (v3 : Int32) (σ : gb_M) : j_X7_spoiltGrades_4 j0 v1 v2 v3 σ =
  if 6 ≤ v3 then some (some (gI v2), σ) else j_X7_spoiltGrades_13 j0 v1 v2 v3 0 σ := (gb_fx_eq (L_X7_spoiltGrades) 4 _ _ _).trans rfl
set_option maxRecDepth 20000 in
theorem e_X7_spoiltGrades_13 (j0 : Nat) (v1 : Int32) (v2 : Int32) (v3 : Int32) (v4 : Int32) (σ : gb_M) : j_X7_spoiltGrades_13 j0 v1 v2 v3 v4 σ =
  gb_gd (gb_in v3 6) (if σ.1 13 j0 v3.toNatClampNeg ≤ v4 then
    j_X7_spoiltGrades_4 j0 v1 v2 (v3 + 1) σ
  else
    gb_b1 (f_X7_place [gI v3, gI v4] σ) (fun x2 s1 => gb_b1 (f_X7_spoilt [gR 10 j0, gI x2, gI v1] s1) (fun x4 s3 => if x4 = 0 then
      j_X7_spoiltGrades_13 j0 v1 v2 v3 (v4 + 1) s3
    else
      gb_gd (gb_in x2 36) (j_X7_spoiltGrades_13 j0 v1 (v2 ||| (1 <<< ((s3.1 15 j0 x2.toNatClampNeg) &&& 31))) v3 (v4 + 1) s3)))) := (gb_fx_eq (L_X7_spoiltGrades) 13 _ _ _).trans rfl
set_option maxRecDepth 20000 in
theorem e_X7_spoiltGrades (j0 : Nat) (a1 : Int32) (σ : gb_M) : f_X7_spoiltGrades [gR 10 j0, gI a1] σ =
  j_X7_spoiltGrades_4 j0 a1 0 0 σ := (gb_hide_at _ _ _).trans rfl
noncomputable def j_X8_add_17 (v1 : Int32) (v2 : Int32) (σ : gb_M) : gb_R := K_X8_add 17 [(0, gR 1 0), (1, gI v1), (2, gI v2)] [] σ
set_option maxRecDepth 20000 in
theorem e_X8_add_17 (v1 : Int32) (v2 : Int32) (σ : gb_M) : j_X8_add_17 v1 v2 σ =
  if v2 < 0 then
    some (some (gI 1), σ)
  else
    gb_gd (gb_in (σ.1 1 0 1) 200) (j_X8_add_17 v1 (v2 + (-8)) (gb_si (gb_si σ 2 0 (σ.1 1 0 1).toNatClampNeg (((v1.toUInt32 >>> (v2.toUInt32 &&& Int32.toUInt32 31)).toInt32) &&& 255)) 1 0 1 (((gb_si σ 2 0 (σ.1 1 0 1).toNatClampNeg (((v1.toUInt32 >>> (v2.toUInt32 &&& Int32.toUInt32 31)).toInt32) &&& 255)).1 1 0 1) + 1))) := (gb_fx_eq (L_X8_add) 17 _ _ _).trans rfl
set_option maxRecDepth 20000 in
theorem e_X8_add (a1 : Int32) (σ : gb_M) : f_X8_add [gR 1 0, gI a1] σ =
  if (σ.1 1 0 1) + 4 ≤ 200 then j_X8_add_17 a1 24 σ else some (some (gI 0), σ) := (gb_hide_at _ _ _).trans rfl
set_option maxRecDepth 20000 in
theorem e_X8_cut (a1 : Int32) (σ : gb_M) : f_X8_cut [gR 1 0, gI a1] σ =
  if a1 < 0 then some (some (gI 0), σ) else if a1 ≤ σ.1 1 0 1 then some (some (gI 1), gb_si σ 1 0 1 a1) else some (some (gI 0), σ) := (gb_hide_at _ _ _).trans rfl
set_option maxRecDepth 20000 in
theorem e_X8_clear  (σ : gb_M) : f_X8_clear [gR 1 0] σ =
  some (none, gb_si σ 1 0 1 0) := (gb_hide_at _ _ _).trans rfl
set_option maxRecDepth 20000 in
theorem e_X8_start  (σ : gb_M) : f_X8_start [gR 1 0] σ =
  some (none, gb_si σ 1 0 2 0) := (gb_hide_at _ _ _).trans rfl
set_option maxRecDepth 20000 in
theorem e_X9_sign (a1 : Int32) (σ : gb_M) : f_X9_sign [gR 0 0, gI a1] σ =
  gb_b1 (f_X8_add [gR 1 0, gI a1] σ) (fun x2 s1 => if x2 = 0 then some (some (gI (-1)), s1) else some (some (gI (s1.1 1 0 1)), s1)) := (gb_hide_at _ _ _).trans rfl
set_option maxRecDepth 20000 in
theorem e_X9_end (a1 : Int32) (σ : gb_M) : f_X9_end [gR 0 0, gI a1] σ =
  gb_b1 (f_X8_cut [gR 1 0, gI a1] σ) (fun x2 s1 => gb_gd (decide (x2 &&& 1 = x2)) (some (some (gI x2), s1))) := (gb_hide_at _ _ _).trans rfl
set_option maxRecDepth 20000 in
theorem e_X9_land  (σ : gb_M) : f_X9_land [gR 0 0] σ =
  gb_b0 (f_X8_start [gR 1 0] σ) (fun s1 => gb_b1 (f_X5_read [gR 3 1, gR 1 0] s1) (fun x3 s2 => gb_b0 (f_X8_clear [gR 1 0] s2) (fun s4 => if 0 ≤ x3 then
    gb_b0 (f_X5_copy [gR 3 0, gR 3 1] s4) (fun s5 => gb_b0 (f_X7_clear [gR 10 0] s5) (fun s6 => gb_b0 (f_X3_clear [gR 19 0] s6) (fun s7 => some (some (gI x3), gb_si s7 0 0 5 0))))
  else
    some (some (gI x3), s4)))) := (gb_hide_at _ _ _).trans rfl
set_option maxRecDepth 20000 in
theorem e_X9_isGrade (a0 : Int32) (σ : gb_M) : f_X9_isGrade [gI a0] σ =
  if a0 < 0 then some (some (gI 0), σ) else if 6 ≤ a0 then some (some (gI 0), σ) else some (some (gI 1), σ) := (gb_hide_at _ _ _).trans rfl
set_option maxRecDepth 20000 in
theorem e_X9_grade_36 (v1 : Int32) (v2 : Int32) (σ : gb_M) : k_X9_grade_36 gb_n [(0, gR 0 0), (1, gI v1), (2, gI v2)] [] σ =
  gb_gd (gb_in v1 6) (some (some (gI (σ.1 11 0 v1.toNatClampNeg)), σ)) := rfl
set_option maxRecDepth 20000 in
theorem e_X9_grade_46 (v1 : Int32) (v2 : Int32) (σ : gb_M) : k_X9_grade_46 gb_n [(0, gR 0 0), (1, gI v1), (2, gI v2)] [] σ =
  gb_gd (gb_in v1 6) (some (some (gI (σ.1 5 0 v1.toNatClampNeg)), σ)) := rfl
set_option maxRecDepth 20000 in
theorem e_X9_grade_56 (v1 : Int32) (v2 : Int32) (σ : gb_M) : k_X9_grade_56 gb_n [(0, gR 0 0), (1, gI v1), (2, gI v2)] [] σ =
  gb_b1 (f_X7_tonsOf [gR 10 0, gI v1] σ) (fun x4 s3 => some (some (gI x4), s3)) := rfl
set_option maxRecDepth 20000 in
theorem e_X9_grade_65 (v1 : Int32) (v2 : Int32) (σ : gb_M) : k_X9_grade_65 gb_n [(0, gR 0 0), (1, gI v1), (2, gI v2)] [] σ =
  some (some (gI (-1)), σ) := rfl
set_option maxRecDepth 20000 in
theorem e_X9_grade (a1 : Int32) (a2 : Int32) (σ : gb_M) : f_X9_grade [gR 0 0, gI a1, gI a2] σ =
  gb_b1 (f_X9_isGrade [gI a1] σ) (fun x2 s1 => if x2 = 0 then
    some (some (gI (-1)), s1)
  else
    gb_tsel a2 0 2 [k_X9_grade_36 gb_n, k_X9_grade_46 gb_n, k_X9_grade_56 gb_n] (k_X9_grade_65 gb_n) [(0, gR 0 0), (1, gI a1), (2, gI a2)] [] s1) := (gb_hide_at _ _ _).trans rfl
set_option maxRecDepth 20000 in
theorem e_X9_pair (a1 : Int32) (a2 : Int32) (σ : gb_M) : f_X9_pair [gR 0 0, gI a1, gI a2] σ =
  gb_b1 (f_X9_isGrade [gI a1] σ) (fun x2 s1 => if x2 = 0 then
    some (some (gI (-1)), s1)
  else
    gb_b1 (f_X9_isGrade [gI a2] s1) (fun x4 s3 => if x4 = 0 then
      some (some (gI (-1)), s3)
    else
      gb_b1 (f_X5_may [gR 3 0, gI a1, gI a2] s3) (fun x6 s5 => if x6 = 0 then some (some (gI (-2)), s5) else gb_b1 (f_X5_lossOf [gR 3 0, gI a1, gI a2] s5) (fun x8 s7 => some (some (gI x8), s7))))) := (gb_hide_at _ _ _).trans rfl
set_option maxRecDepth 20000 in
theorem e_X9_isBin (a0 : Int32) (σ : gb_M) : f_X9_isBin [gI a0] σ =
  if a0 < 0 then some (some (gI 0), σ) else if 6 ≤ a0 then some (some (gI 0), σ) else some (some (gI 1), σ) := (gb_hide_at _ _ _).trans rfl
set_option maxRecDepth 20000 in
theorem e_X9_bin_44 (v1 : Int32) (v2 : Int32) (σ : gb_M) : k_X9_bin_44 gb_n [(0, gR 0 0), (1, gI v1), (2, gI v2)] [] σ =
  gb_gd (gb_in v1 6) (some (some (gI (σ.1 6 0 v1.toNatClampNeg)), σ)) := rfl
set_option maxRecDepth 20000 in
theorem e_X9_bin_54 (v1 : Int32) (v2 : Int32) (σ : gb_M) : k_X9_bin_54 gb_n [(0, gR 0 0), (1, gI v1), (2, gI v2)] [] σ =
  gb_gd (gb_in v1 6) (some (some (gI (σ.1 14 0 v1.toNatClampNeg)), σ)) := rfl
set_option maxRecDepth 20000 in
theorem e_X9_bin_64 (v1 : Int32) (v2 : Int32) (σ : gb_M) : k_X9_bin_64 gb_n [(0, gR 0 0), (1, gI v1), (2, gI v2)] [] σ =
  gb_gd (gb_in v1 6) (some (some (gI (σ.1 13 0 v1.toNatClampNeg)), σ)) := rfl
set_option maxRecDepth 20000 in
theorem e_X9_bin_74 (v1 : Int32) (v2 : Int32) (σ : gb_M) : k_X9_bin_74 gb_n [(0, gR 0 0), (1, gI v1), (2, gI v2)] [] σ =
  gb_gd (gb_in v1 6) (some (some (gI (if 0 < (σ.1 12 0 v1.toNatClampNeg) - (σ.1 10 0 9) then (σ.1 12 0 v1.toNatClampNeg) - (σ.1 10 0 9) else 0)), σ)) := rfl
set_option maxRecDepth 20000 in
theorem e_X9_bin_96 (v1 : Int32) (v2 : Int32) (σ : gb_M) : k_X9_bin_96 gb_n [(0, gR 0 0), (1, gI v1), (2, gI v2)] [] σ =
  gb_b1 (f_X7_gradesIn [gR 10 0, gI v1] σ) (fun x4 s3 => some (some (gI x4), s3)) := rfl
set_option maxRecDepth 20000 in
theorem e_X9_bin_105 (v1 : Int32) (v2 : Int32) (σ : gb_M) : k_X9_bin_105 gb_n [(0, gR 0 0), (1, gI v1), (2, gI v2)] [] σ =
  some (some (gI (-1)), σ) := rfl
set_option maxRecDepth 20000 in
theorem e_X9_bin (a1 : Int32) (a2 : Int32) (σ : gb_M) : f_X9_bin [gR 0 0, gI a1, gI a2] σ =
  gb_b1 (f_X9_isBin [gI a1] σ) (fun x2 s1 => if x2 = 0 then
    some (some (gI (-1)), s1)
  else
    gb_tsel a2 0 4 [k_X9_bin_44 gb_n, k_X9_bin_54 gb_n, k_X9_bin_64 gb_n, k_X9_bin_74 gb_n, k_X9_bin_96 gb_n] (k_X9_bin_105 gb_n) [(0, gR 0 0), (1, gI a1), (2, gI a2)] [] s1) := (gb_hide_at _ _ _).trans rfl
set_option maxRecDepth 20000 in
theorem e_X9_layer_64 (v1 : Int32) (v2 : Int32) (v3 : Int32) (v4 : Int32) (σ : gb_M) : k_X9_layer_64 gb_n [(4, gI v4), (0, gR 0 0), (1, gI v1), (2, gI v2), (3, gI v3)] [] σ =
  gb_gd (gb_in v4 36) (some (some (gI (σ.1 15 0 v4.toNatClampNeg)), σ)) := rfl
set_option maxRecDepth 20000 in
theorem e_X9_layer_75 (v1 : Int32) (v2 : Int32) (v3 : Int32) (v4 : Int32) (σ : gb_M) : k_X9_layer_75 gb_n [(4, gI v4), (0, gR 0 0), (1, gI v1), (2, gI v2), (3, gI v3)] [] σ =
  gb_gd (gb_in v4 36) (some (some (gI (σ.1 16 0 v4.toNatClampNeg)), σ)) := rfl
set_option maxRecDepth 20000 in
theorem e_X9_layer_86 (v1 : Int32) (v2 : Int32) (v3 : Int32) (v4 : Int32) (σ : gb_M) : k_X9_layer_86 gb_n [(4, gI v4), (0, gR 0 0), (1, gI v1), (2, gI v2), (3, gI v3)] [] σ =
  gb_gd (gb_in v4 36) (some (some (gI (σ.1 17 0 v4.toNatClampNeg)), σ)) := rfl
set_option maxRecDepth 20000 in
theorem e_X9_layer_97 (v1 : Int32) (v2 : Int32) (v3 : Int32) (v4 : Int32) (σ : gb_M) : k_X9_layer_97 gb_n [(4, gI v4), (0, gR 0 0), (1, gI v1), (2, gI v2), (3, gI v3)] [] σ =
  gb_b1 (f_X7_unit [gR 10 0, gI v4, gI (σ.1 10 0 9)] σ) (fun x6 s5 => some (some (gI x6), s5)) := rfl
set_option maxRecDepth 20000 in
theorem e_X9_layer_114 (v1 : Int32) (v2 : Int32) (v3 : Int32) (v4 : Int32) (σ : gb_M) : k_X9_layer_114 gb_n [(4, gI v4), (0, gR 0 0), (1, gI v1), (2, gI v2), (3, gI v3)] [] σ =
  some (some (gI (-1)), σ) := rfl
set_option maxRecDepth 20000 in
theorem e_X9_layer (a1 : Int32) (a2 : Int32) (a3 : Int32) (σ : gb_M) : f_X9_layer [gR 0 0, gI a1, gI a2, gI a3] σ =
  gb_b1 (f_X9_isBin [gI a1] σ) (fun x2 s1 => if x2 = 0 then
    some (some (gI (-1)), s1)
  else
    if a2 < 0 then
      some (some (gI (-1)), s1)
    else
      gb_gd (gb_in a1 6) (if a2 < s1.1 13 0 a1.toNatClampNeg then
        gb_b1 (f_X7_place [gI a1, gI a2] s1) (fun x4 s3 => gb_tsel a3 0 3 [k_X9_layer_64 gb_n, k_X9_layer_75 gb_n, k_X9_layer_86 gb_n, k_X9_layer_97 gb_n] (k_X9_layer_114 gb_n) [(4, gI x4), (0, gR 0 0), (1, gI a1), (2, gI a2), (3, gI a3)] [] s3)
      else
        some (some (gI (-1)), s1))) := (gb_hide_at _ _ _).trans rfl
set_option maxRecDepth 20000 in
theorem e_X9_isTons (a0 : Int32) (σ : gb_M) : f_X9_isTons [gI a0] σ =
  if a0 < 1 then some (some (gI 0), σ) else if 99 < a0 then some (some (gI 0), σ) else some (some (gI 1), σ) := (gb_hide_at _ _ _).trans rfl
set_option maxRecDepth 20000 in
theorem e_X9_load (a1 : Int32) (a2 : Int32) (a3 : Int32) (σ : gb_M) : f_X9_load [gR 0 0, gI a1, gI a2, gI a3] σ =
  gb_b1 (f_X9_isGrade [gI a1] σ) (fun x2 s1 => if x2 = 0 then
    some (some (gI (-1)), s1)
  else
    gb_b1 (f_X9_isTons [gI a2] s1) (fun x4 s3 => if x4 = 0 then
      some (some (gI (-1)), s3)
    else
      gb_b1 (f_X9_isBin [gI a3] s3) (fun x6 s5 => if x6 = 0 then
        some (some (gI (-1)), s5)
      else
        gb_b1 (f_X7_why [gR 10 0, gI a3, gI a1, gI a2, gI (s5.1 10 0 9)] s5) (fun x8 s7 => if 0 ≤ x8 then
          gb_b0 (f_X3_add [gR 19 0, gR 10 0] s7) (fun s9 => gb_b0 (f_X7_lay [gR 10 0, gI a3, gI a1, gI a2, gI (s9.1 10 0 9)] s9) (fun s10 => gb_gd (gb_in a3 6) (some (some (gI (s10.1 14 0 a3.toNatClampNeg)), s10))))
        else
          some (some (gI x8), s7))))) := (gb_hide_at _ _ _).trans rfl
noncomputable def j_X9_draw_66 (v1 : Int32) (v2 : Int32) (v3 : Int32) (σ : gb_M) : gb_R := K_X9_draw 66 [(0, gR 0 0), (1, gI v1), (2, gI v2), (3, gI v3)] [] σ
set_option maxRecDepth 20000 in
theorem e_X9_draw_66 (v1 : Int32) (v2 : Int32) (v3 : Int32) (σ : gb_M) : j_X9_draw_66 v1 v2 v3 σ =
  if 6 ≤ v3 then
    gb_b1 (f_X7_drawOut [gR 10 0, gI v1, gI v2] σ) (fun x10 s9 => some (some (gI x10), s9))
  else
    gb_b1 (f_X7_tonsBelow [gR 10 0, gI v1, gI v2, gI v3] σ) (fun x12 s11 => gb_b0 (f_X4_add [gR 21 0, gL x12.toInt64] s11) (fun s13 => j_X9_draw_66 v1 v2 (v3 + 1) s13)) := (gb_fx_eq (L_X9_draw) 66 _ _ _).trans rfl
set_option maxRecDepth 20000 in
theorem e_X9_draw (a1 : Int32) (a2 : Int32) (σ : gb_M) : f_X9_draw [gR 0 0, gI a1, gI a2] σ =
  gb_b1 (f_X9_isBin [gI a1] σ) (fun x2 s1 => if x2 = 0 then
    some (some (gI (-1)), s1)
  else
    gb_b1 (f_X9_isTons [gI a2] s1) (fun x4 s3 => if x4 = 0 then
      some (some (gI (-1)), s3)
    else
      gb_b1 (f_X7_closed [gR 10 0, gI a1] s3) (fun x6 s5 => if x6 = 0 then
        gb_gd (gb_in a1 6) (if a2 ≤ s5.1 14 0 a1.toNatClampNeg then
          gb_b0 (f_X3_add [gR 19 0, gR 10 0] s5) (fun s7 => gb_b0 (f_X4_start [gR 21 0] s7) (fun s8 => j_X9_draw_66 a1 a2 0 s8))
        else
          some (some (gI (-3)), s5))
      else
        some (some (gI (-2)), s5)))) := (gb_hide_at _ _ _).trans rfl
set_option maxRecDepth 20000 in
theorem e_X9_move (a1 : Int32) (a2 : Int32) (a3 : Int32) (σ : gb_M) : f_X9_move [gR 0 0, gI a1, gI a2, gI a3] σ =
  gb_b1 (f_X9_isBin [gI a1] σ) (fun x2 s1 => if x2 = 0 then
    some (some (gI (-1)), s1)
  else
    gb_b1 (f_X9_isBin [gI a2] s1) (fun x4 s3 => if x4 = 0 then
      some (some (gI (-1)), s3)
    else
      if a1 = a2 then
        some (some (gI (-1)), s3)
      else
        gb_b1 (f_X9_isTons [gI a3] s3) (fun x6 s5 => if x6 = 0 then
          some (some (gI (-1)), s5)
        else
          gb_b1 (f_X7_whyNotMove [gR 10 0, gI a1, gI a2, gI a3] s5) (fun x8 s7 => if 0 ≤ x8 then
            gb_b0 (f_X3_add [gR 19 0, gR 10 0] s7) (fun s9 => gb_b1 (f_X7_valueOf [gR 10 0, gI a1] s9) (fun x11 s10 => gb_b1 (f_X7_valueOf [gR 10 0, gI a2] s10) (fun x13 s12 => gb_b0 (f_X7_shift [gR 10 0, gI a1, gI a2, gI a3] s12) (fun s14 => gb_b0 (f_X4_start [gR 21 0] s14) (fun s15 => gb_b0 (f_X4_add [gR 21 0, gL ((x11 + x13).toInt64)] s15) (fun s16 => gb_b1 (f_X7_valueOf [gR 10 0, gI a1] s16) (fun x18 s17 => gb_b1 (f_X7_valueOf [gR 10 0, gI a2] s17) (fun x20 s19 => gb_b0 (f_X4_add [gR 21 0, gL ((x18 + x20).toInt64)] s19) (fun s21 => gb_gd (gb_in a2 6) (some (some (gI (s21.1 14 0 a2.toNatClampNeg)), s21)))))))))))
          else
            some (some (gI x8), s7))))) := (gb_hide_at _ _ _).trans rfl
set_option maxRecDepth 20000 in
theorem e_X9_fumes (a1 : Int32) (a2 : Int32) (σ : gb_M) : f_X9_fumes [gR 0 0, gI a1, gI a2] σ =
  gb_b1 (f_X9_isBin [gI a1] σ) (fun x2 s1 => if x2 = 0 then
    some (some (gI (-1)), s1)
  else
    if a2 < 1 then
      some (some (gI (-1)), s1)
    else
      if a2 ≤ 20 then
        gb_b1 (f_X7_closed [gR 10 0, gI a1] s1) (fun x4 s3 => if x4 = 0 then
          gb_b0 (f_X3_add [gR 19 0, gR 10 0] s3) (fun s5 => gb_b0 (f_X7_fumigate [gR 10 0, gI a1, gI a2] s5) (fun s6 => gb_gd (gb_in a1 6) (some (some (gI (s6.1 12 0 a1.toNatClampNeg)), s6))))
        else
          some (some (gI (-2)), s3))
      else
        some (some (gI (-1)), s1)) := (gb_hide_at _ _ _).trans rfl
set_option maxRecDepth 20000 in
theorem e_X9_days (a1 : Int32) (σ : gb_M) : f_X9_days [gR 0 0, gI a1] σ =
  if a1 < 1 then
    some (some (gI (-1)), σ)
  else
    if 99 < a1 then
      some (some (gI (-1)), σ)
    else
      if (σ.1 10 0 9) + a1 ≤ 9999 then
        gb_b0 (f_X3_add [gR 19 0, gR 10 0] σ) (fun s1 => some (some (gI ((gb_si s1 10 0 9 ((s1.1 10 0 9) + a1)).1 10 0 9)), gb_si s1 10 0 9 ((s1.1 10 0 9) + a1)))
      else
        some (some (gI (-1)), σ) := (gb_hide_at _ _ _).trans rfl
set_option maxRecDepth 20000 in
theorem e_X9_price (a1 : Int32) (a2 : Int32) (σ : gb_M) : f_X9_price [gR 0 0, gI a1, gI a2] σ =
  gb_b1 (f_X9_isGrade [gI a1] σ) (fun x2 s1 => if x2 = 0 then
    some (some (gI (-1)), s1)
  else
    if a2 < 0 then
      some (some (gI (-1)), s1)
    else
      if a2 ≤ 999 then
        gb_b0 (f_X3_add [gR 19 0, gR 10 0] s1) (fun s3 => gb_gd (gb_in a1 6) (gb_gd (gb_in a1 6) (some (some (gI (s3.1 11 0 a1.toNatClampNeg)), gb_si s3 11 0 a1.toNatClampNeg a2))))
      else
        some (some (gI (-1)), s1)) := (gb_hide_at _ _ _).trans rfl
set_option maxRecDepth 20000 in
theorem e_X9_readOrders  (σ : gb_M) : f_X9_readOrders [gR 0 0] σ =
  gb_b0 (f_X8_start [gR 1 0] σ) (fun s1 => gb_b1 (f_X2_read [gR 23 0, gR 1 0] s1) (fun x3 s2 => gb_b0 (f_X8_clear [gR 1 0] s2) (fun s4 => some (some (gI x3), s4)))) := (gb_hide_at _ _ _).trans rfl
noncomputable def j_X9_sells_51 (v2 : Int32) (v3 : Int32) (v4 : Int32) (v5 : Int32) (σ : gb_M) : gb_R := K_X9_sells 51 [(0, gR 0 0), (2, gI v2), (3, gI v3), (4, gI v4), (5, gI v5)] [] σ
set_option maxRecDepth 20000 in
theorem e_X9_sells_51 (v2 : Int32) (v3 : Int32) (v4 : Int32) (v5 : Int32) (σ : gb_M) : j_X9_sells_51 v2 v3 v4 v5 σ =
  if v2 ≤ v5 then
    gb_b0 (f_X4_start [gR 21 0] σ) (fun s8 => gb_b0 (f_X4_add [gR 21 0, gL v4.toInt64] s8) (fun s9 => gb_b0 (f_X4_add [gR 21 0, gL v3.toInt64] s9) (fun s10 => gb_b1 (f_X7_valueOfAll [gR 10 0, gI (s10.1 10 0 9)] s10) (fun x12 s11 => gb_b0 (f_X4_add [gR 21 0, gL x12.toInt64] s11) (fun s13 => some (some (gI v2), s13))))))
  else
    gb_gd (gb_in v5 6) (gb_gd (gb_in v5 6) (gb_b1 (f_X7_drawOut [gR 10 0, gI (σ.1 33 0 v5.toNatClampNeg), gI (σ.1 25 0 v5.toNatClampNeg)] σ) (fun x15 s14 => j_X9_sells_51 v2 v3 (v4 + x15) (v5 + 1) s14))) := (gb_fx_eq (L_X9_sells) 51 _ _ _).trans rfl
set_option maxRecDepth 20000 in
theorem e_X9_sells  (σ : gb_M) : f_X9_sells [gR 0 0] σ =
  gb_b1 (f_X9_readOrders [gR 0 0] σ) (fun x2 s1 => if 0 ≤ x2 then
    gb_b1 (f_X0_serve [gR 30 0] s1) (fun x4 s3 => gb_b0 (f_X3_add [gR 19 0, gR 10 0] s3) (fun s5 => gb_b1 (f_X7_valueOfAll [gR 10 0, gI (s5.1 10 0 9)] s5) (fun x7 s6 => j_X9_sells_51 x4 x7 0 0 s6)))
  else
    some (some (gI x2), s1)) := (gb_hide_at _ _ _).trans rfl
set_option maxRecDepth 20000 in
theorem e_X9_value (a1 : Int32) (σ : gb_M) : f_X9_value [gR 0 0, gI a1] σ =
  gb_b1 (f_X9_isBin [gI a1] σ) (fun x2 s1 => if x2 = 0 then
    some (some (gI (-1)), s1)
  else
    gb_b0 (f_X4_start [gR 21 0] s1) (fun s3 => gb_b1 (f_X7_raw [gR 10 0, gI a1, gI (s3.1 10 0 9)] s3) (fun x5 s4 => gb_b0 (f_X4_add [gR 21 0, gL x5.toInt64] s4) (fun s6 => gb_b1 (f_X7_mixedIn [gR 10 0, gI a1] s6) (fun x8 s7 => gb_b0 (f_X4_add [gR 21 0, gL x8.toInt64] s7) (fun s9 => gb_b1 (f_X7_rawUnspoilt [gR 10 0, gI a1] s9) (fun x11 s10 => gb_b0 (f_X4_add [gR 21 0, gL x11.toInt64] s10) (fun s12 => gb_b1 (f_X7_valueOf [gR 10 0, gI a1] s12) (fun x14 s13 => some (some (gI x14), s13)))))))))) := (gb_hide_at _ _ _).trans rfl
noncomputable def j_X9_all_9 (v1 : Int32) (σ : gb_M) : gb_R := K_X9_all 9 [(0, gR 0 0), (1, gI v1)] [] σ
set_option maxRecDepth 20000 in
theorem e_X9_all_9 (v1 : Int32) (σ : gb_M) : j_X9_all_9 v1 σ =
  if 6 ≤ v1 then
    gb_b1 (f_X7_valueOfAll [gR 10 0, gI (σ.1 10 0 9)] σ) (fun x3 s2 => some (some (gI x3), s2))
  else
    gb_b1 (f_X7_valueOf [gR 10 0, gI v1] σ) (fun x5 s4 => gb_b0 (f_X4_add [gR 21 0, gL x5.toInt64] s4) (fun s6 => j_X9_all_9 (v1 + 1) s6)) := (gb_fx_eq (L_X9_all) 9 _ _ _).trans rfl
set_option maxRecDepth 20000 in
theorem e_X9_all  (σ : gb_M) : f_X9_all [gR 0 0] σ =
  gb_b0 (f_X4_start [gR 21 0] σ) (fun s1 => j_X9_all_9 0 s1) := (gb_hide_at _ _ _).trans rfl
noncomputable def j_X9_mixed_20 (v1 : Int32) (v2 : Int32) (v3 : Int32) (σ : gb_M) : gb_R := K_X9_mixed 20 [(0, gR 0 0), (1, gI v1), (2, gI v2), (3, gI v3)] [] σ
noncomputable def j_X9_mixed_32 (v1 : Int32) (v2 : Int32) (v3 : Int32) (v4 : Int32) (v5 : Int32) (σ : gb_M) : gb_R := K_X9_mixed 32 [(0, gR 0 0), (1, gI v1), (2, gI v2), (3, gI v3), (4, gI v4), (5, gI v5)] [] σ
set_option maxRecDepth 20000 in
theorem e_X9_mixed_20 (v1 : Int32) (v2 : Int32) (v3 : Int32) (σ : gb_M) : j_X9_mixed_20 v1 v2 v3 σ =
  if 6 ≤ v3 then some (some (gI v2), σ) else j_X9_mixed_32 v1 v2 v3 0 0 σ := (gb_fx_eq (L_X9_mixed) 20 _ _ _).trans rfl
set_option maxRecDepth 20000 in
theorem e_X9_mixed_32 (v1 : Int32) (v2 : Int32) (v3 : Int32) (v4 : Int32) (v5 : Int32) (σ : gb_M) : j_X9_mixed_32 v1 v2 v3 v4 v5 σ =
  if 6 ≤ v5 then
    gb_b0 (f_X4_add [gR 21 0, gL v4.toInt64] σ) (fun s4 => j_X9_mixed_20 v1 (v2 + v4) (v3 + 1) s4)
  else
    gb_b1 (f_X7_mixedOf [gR 10 0, gI v5, gI v1, gI v3] σ) (fun x6 s5 => j_X9_mixed_32 v1 v2 v3 (v4 + x6) (v5 + 1) s5) := (gb_fx_eq (L_X9_mixed) 32 _ _ _).trans rfl
set_option maxRecDepth 20000 in
theorem e_X9_mixed (a1 : Int32) (σ : gb_M) : f_X9_mixed [gR 0 0, gI a1] σ =
  gb_b1 (f_X9_isGrade [gI a1] σ) (fun x2 s1 => if x2 = 0 then some (some (gI (-1)), s1) else gb_b0 (f_X4_start [gR 21 0] s1) (fun s3 => j_X9_mixed_20 a1 0 0 s3)) := (gb_hide_at _ _ _).trans rfl
set_option maxRecDepth 20000 in
theorem e_X9_would (a1 : Int32) (a2 : Int32) (a3 : Int32) (σ : gb_M) : f_X9_would [gR 0 0, gI a1, gI a2, gI a3] σ =
  gb_b1 (f_X9_isGrade [gI a1] σ) (fun x2 s1 => if x2 = 0 then
    some (some (gI (-1)), s1)
  else
    gb_b1 (f_X9_isTons [gI a2] s1) (fun x4 s3 => if x4 = 0 then
      some (some (gI (-1)), s3)
    else
      gb_b1 (f_X9_isBin [gI a3] s3) (fun x6 s5 => if x6 = 0 then
        some (some (gI (-1)), s5)
      else
        gb_b1 (f_X7_why [gR 10 0, gI a3, gI a1, gI a2, gI (s5.1 10 0 9)] s5) (fun x8 s7 => if 0 ≤ x8 then
          gb_b1 (f_X7_gain [gR 10 0, gI a3, gI a1, gI a2] s7) (fun x10 s9 => gb_b0 (f_X4_start [gR 21 0] s9) (fun s11 => gb_b1 (f_X7_valueOf [gR 10 0, gI a3] s11) (fun x13 s12 => gb_b0 (f_X4_add [gR 21 0, gL ((x13 + x10).toInt64)] s12) (fun s14 => gb_b1 (f_X7_mixedIn [gR 10 0, gI a3] s14) (fun x16 s15 => gb_b1 (f_X7_growth [gR 10 0, gI a3, gI a1, gI a2] s15) (fun x18 s17 => gb_b0 (f_X4_add [gR 21 0, gL ((x16 + x18).toInt64)] s17) (fun s19 => some (some (gI x10), s19))))))))
        else
          some (some (gI ((-1000000) + x8)), s7))))) := (gb_hide_at _ _ _).trans rfl
noncomputable def j_X9_worst_10 (v1 : Int32) (v2 : Int32) (v3 : Int32) (v4 : Int32) (σ : gb_M) : gb_R := K_X9_worst 10 [(0, gR 0 0), (1, gI v1), (2, gI v2), (3, gI v3), (4, gI v4)] [] σ
noncomputable def j_X9_worst_20 (v1 : Int32) (v2 : Int32) (v3 : Int32) (v4 : Int32) (v5 : Int32) (σ : gb_M) : gb_R := K_X9_worst 20 [(0, gR 0 0), (1, gI v1), (2, gI v2), (3, gI v3), (4, gI v4), (5, gI v5)] [] σ
noncomputable def j_X9_worst_33 (v1 : Int32) (v2 : Int32) (v3 : Int32) (v4 : Int32) (v5 : Int32) (v6 : Int32) (σ : gb_M) : gb_R := K_X9_worst 33 [(0, gR 0 0), (1, gI v1), (2, gI v2), (3, gI v3), (4, gI v4), (5, gI v5), (6, gI v6)] [] σ
set_option maxRecDepth 20000 in
theorem e_X9_worst_10 (v1 : Int32) (v2 : Int32) (v3 : Int32) (v4 : Int32) (σ : gb_M) : j_X9_worst_10 v1 v2 v3 v4 σ =
  if 6 ≤ v4 then
    if v1 ≤ 0 then
      some (some (gI v2), σ)
    else
      gb_b0 (f_X4_start [gR 21 0] σ) (fun s1 => gb_b0 (f_X4_add [gR 21 0, gL v1.toInt64] s1) (fun s2 => gb_b0 (f_X4_add [gR 21 0, gL v3.toInt64] s2) (fun s3 => some (some (gI v2), s3))))
  else
    j_X9_worst_20 v1 v2 v3 v4 0 σ := (gb_fx_eq (L_X9_worst) 10 _ _ _).trans rfl
set_option maxRecDepth 20000 in
theorem e_X9_worst_20 (v1 : Int32) (v2 : Int32) (v3 : Int32) (v4 : Int32) (v5 : Int32) (σ : gb_M) : j_X9_worst_20 v1 v2 v3 v4 v5 σ =
  if 6 ≤ v5 then j_X9_worst_10 v1 v2 v3 (v4 + 1) σ else j_X9_worst_33 v1 v2 v3 v4 v5 (v5 + 1) σ := (gb_fx_eq (L_X9_worst) 20 _ _ _).trans rfl
set_option maxRecDepth 20000 in
theorem e_X9_worst_33 (v1 : Int32) (v2 : Int32) (v3 : Int32) (v4 : Int32) (v5 : Int32) (v6 : Int32) (σ : gb_M) : j_X9_worst_33 v1 v2 v3 v4 v5 v6 σ =
  if 6 ≤ v6 then
    j_X9_worst_20 v1 v2 v3 v4 (v5 + 1) σ
  else
    gb_b1 (f_X7_mixedOf [gR 10 0, gI v4, gI v5, gI v6] σ) (fun x5 s4 => if x5 ≤ v1 then j_X9_worst_33 v1 v2 v3 v4 v5 (v6 + 1) s4 else j_X9_worst_33 x5 ((10 * v5) + v6) v4 v4 v5 (v6 + 1) s4) := (gb_fx_eq (L_X9_worst) 33 _ _ _).trans rfl
set_option maxRecDepth 20000 in
theorem e_X9_worst  (σ : gb_M) : f_X9_worst [gR 0 0] σ =
  j_X9_worst_10 0 (-2) (-1) 0 σ := (gb_hide_at _ _ _).trans rfl
set_option maxRecDepth 20000 in
theorem e_X9_bottom (a1 : Int32) (σ : gb_M) : f_X9_bottom [gR 0 0, gI a1] σ =
  gb_b1 (f_X9_isBin [gI a1] σ) (fun x2 s1 => if x2 = 0 then
    some (some (gI (-1)), s1)
  else
    gb_gd (gb_in a1 6) (if s1.1 13 0 a1.toNatClampNeg = 0 then
      some (some (gI (-2)), s1)
    else
      gb_b1 (f_X7_place [gI a1, gI 0] s1) (fun x4 s3 => gb_gd (gb_in x4 36) (gb_b1 (f_X7_runEnd [gR 10 0, gI a1, gI 0] s3) (fun x6 s5 => gb_b0 (f_X4_start [gR 21 0] s5) (fun s7 => gb_b1 (f_X7_tonsUnder [gR 10 0, gI a1, gI x6] s7) (fun x9 s8 => gb_b0 (f_X4_add [gR 21 0, gL x9.toInt64] s8) (fun s10 => gb_b0 (f_X4_add [gR 21 0, gL x6.toInt64] s10) (fun s11 => some (some (gI (s3.1 15 0 x4.toNatClampNeg)), s11)))))))))) := (gb_hide_at _ _ _).trans rfl
noncomputable def j_X9_serves_28 (v2 : Int32) (v3 : Int32) (σ : gb_M) : gb_R := K_X9_serves 28 [(0, gR 0 0), (2, gI v2), (3, gI v3)] [] σ
set_option maxRecDepth 20000 in
theorem e_X9_serves_28 (v2 : Int32) (v3 : Int32) (σ : gb_M) : j_X9_serves_28 v2 v3 σ =
  if v2 ≤ v3 then
    some (some (gI v2), σ)
  else
    gb_gd (gb_in v3 6) (gb_b0 (f_X4_add [gR 21 0, gL ((σ.1 33 0 v3.toNatClampNeg).toInt64)] σ) (fun s6 => j_X9_serves_28 v2 (v3 + 1) s6)) := (gb_fx_eq (L_X9_serves) 28 _ _ _).trans rfl
set_option maxRecDepth 20000 in
theorem e_X9_serves  (σ : gb_M) : f_X9_serves [gR 0 0] σ =
  gb_b1 (f_X9_readOrders [gR 0 0] σ) (fun x2 s1 => if 0 ≤ x2 then
    gb_b1 (f_X0_serve [gR 30 0] s1) (fun x4 s3 => gb_b0 (f_X4_start [gR 21 0] s3) (fun s5 => j_X9_serves_28 x4 0 s5))
  else
    some (some (gI x2), s1)) := (gb_hide_at _ _ _).trans rfl
noncomputable def j_X9_picks_28 (v1 : Int32) (v2 : Int32) (v3 : Int32) (σ : gb_M) : gb_R := K_X9_picks 28 [(0, gR 0 0), (1, gI v1), (2, gI v2), (3, gI v3)] [] σ
set_option maxRecDepth 20000 in
theorem e_X9_picks_28 (v1 : Int32) (v2 : Int32) (v3 : Int32) (σ : gb_M) : j_X9_picks_28 v1 v2 v3 σ =
  if v1 ≤ v3 then
    some (some (gI v2), σ)
  else
    gb_gd (gb_in v3 6) (gb_b0 (f_X4_add [gR 21 0, gL ((σ.1 33 0 v3.toNatClampNeg).toInt64)] σ) (fun s6 => j_X9_picks_28 v1 v2 (v3 + 1) s6)) := (gb_fx_eq (L_X9_picks) 28 _ _ _).trans rfl
set_option maxRecDepth 20000 in
theorem e_X9_picks  (σ : gb_M) : f_X9_picks [gR 0 0] σ =
  gb_b1 (f_X9_readOrders [gR 0 0] σ) (fun x2 s1 => if 0 ≤ x2 then
    gb_b1 (f_X0_pick [gR 30 0] s1) (fun x4 s3 => gb_b0 (f_X4_start [gR 21 0] s3) (fun s5 => j_X9_picks_28 x2 x4 0 s5))
  else
    some (some (gI x2), s1)) := (gb_hide_at _ _ _).trans rfl
set_option maxRecDepth 20000 in
theorem e_X9_then (a1 : Int32) (σ : gb_M) : f_X9_then [gR 0 0, gI a1] σ =
  if a1 < 0 then
    some (some (gI (-1)), σ)
  else
    if a1 ≤ 999 then
      gb_b1 (f_X7_valueOfAll [gR 10 0, gI ((σ.1 10 0 9) + a1)] σ) (fun x2 s1 => gb_b0 (f_X4_start [gR 21 0] s1) (fun s3 => gb_b1 (f_X7_valueOfAll [gR 10 0, gI (s3.1 10 0 9)] s3) (fun x5 s4 => gb_b0 (f_X4_add [gR 21 0, gL ((x5 - x2).toInt64)] s4) (fun s6 => gb_b1 (f_X7_spoiltGrades [gR 10 0, gI ((s6.1 10 0 9) + a1)] s6) (fun x8 s7 => gb_b0 (f_X4_add [gR 21 0, gL x8.toInt64] s7) (fun s9 => some (some (gI x2), s9)))))))
    else
      some (some (gI (-1)), σ) := (gb_hide_at _ _ _).trans rfl
set_option maxRecDepth 20000 in
theorem e_X9_undo  (σ : gb_M) : f_X9_undo [gR 0 0] σ =
  gb_b1 (f_X3_takeBack [gR 19 0, gR 10 0] σ) (fun x2 s1 => if x2 = 0 then some (some (gI (-2)), s1) else some (some (gI (s1.1 19 0 2)), s1)) := (gb_hide_at _ _ _).trans rfl
set_option maxRecDepth 20000 in
theorem e_X9_keeps  (σ : gb_M) : f_X9_keeps [gR 0 0] σ =
  gb_b0 (f_X7_copy [gR 10 1, gR 10 0] σ) (fun s1 => some (some (gI ((gb_si s1 0 0 5 1).1 10 0 9)), gb_si s1 0 0 5 1)) := (gb_hide_at _ _ _).trans rfl
set_option maxRecDepth 20000 in
theorem e_X9_back  (σ : gb_M) : f_X9_back [gR 0 0] σ =
  if σ.1 0 0 5 = 0 then
    some (some (gI (-2)), σ)
  else
    gb_b0 (f_X3_add [gR 19 0, gR 10 0] σ) (fun s1 => gb_b0 (f_X7_copy [gR 10 0, gR 10 1] s1) (fun s2 => some (some (gI (s2.1 10 0 9)), s2))) := (gb_hide_at _ _ _).trans rfl
