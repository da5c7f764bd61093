/-! DEC: the blocks as equations, printed by wip/whole/dec.py -/
set_option maxRecDepth 20000 in
theorem e_X8_takes (a1 : Int32) (σ : gb_M) : f_X8_takes [gR 1 0, gI a1] σ =
  gb_b1 (f_X8_ended [gR 1 0] σ) (fun x2 s1 => if x2 = 0 then
    gb_gd (gb_in (s1.1 1 0 2) 200) (if s1.1 2 0 (s1.1 1 0 2).toNatClampNeg = a1 then some (some (gI 1), gb_si s1 1 0 2 ((s1.1 1 0 2) + 1)) else some (some (gI 0), s1))
  else
    some (some (gI 0), s1)) := (gb_hide_at _ _ _).trans rfl
set_option maxRecDepth 20000 in
theorem e_X8_digitFits (a1 : Int32) (a2 : Int32) (σ : gb_M) : f_X8_digitFits [gR 1 0, gI a1, gI a2] σ =
  if a2 ≤ 0 then
    gb_b1 (f_X8_ended [gR 1 0] σ) (fun x2 s1 => if x2 = 0 then
      if 0 = 0 then
        gb_gd (gb_in (s1.1 1 0 2) 200) (if s1.1 2 0 (s1.1 1 0 2).toNatClampNeg < 48 then
          some (some (gI 0), s1)
        else
          gb_gd (gb_in (s1.1 1 0 2) 200) (if 57 < s1.1 2 0 (s1.1 1 0 2).toNatClampNeg then some (some (gI 0), s1) else some (some (gI 1), s1)))
      else
        some (some (gI 0), s1)
    else
      some (some (gI 0), s1))
  else
    if a1 = 0 then
      gb_b1 (f_X8_ended [gR 1 0] σ) (fun x4 s3 => if x4 = 0 then
        if 1 = 0 then
          gb_gd (gb_in (s3.1 1 0 2) 200) (if s3.1 2 0 (s3.1 1 0 2).toNatClampNeg < 48 then
            some (some (gI 0), s3)
          else
            gb_gd (gb_in (s3.1 1 0 2) 200) (if 57 < s3.1 2 0 (s3.1 1 0 2).toNatClampNeg then some (some (gI 0), s3) else some (some (gI 1), s3)))
        else
          some (some (gI 0), s3)
      else
        some (some (gI 0), s3))
    else
      gb_b1 (f_X8_ended [gR 1 0] σ) (fun x6 s5 => if x6 = 0 then
        if 0 = 0 then
          gb_gd (gb_in (s5.1 1 0 2) 200) (if s5.1 2 0 (s5.1 1 0 2).toNatClampNeg < 48 then
            some (some (gI 0), s5)
          else
            gb_gd (gb_in (s5.1 1 0 2) 200) (if 57 < s5.1 2 0 (s5.1 1 0 2).toNatClampNeg then some (some (gI 0), s5) else some (some (gI 1), s5)))
        else
          some (some (gI 0), s5)
      else
        some (some (gI 0), s5)) := (gb_hide_at _ _ _).trans rfl
noncomputable def j_X8_number_8 (v1 : Int32) (v2 : Int32) (v3 : Int32) (v4 : Int32) (v5 : Int32) (σ : gb_M) : gb_R := K_X8_number 8 [(0, gR 1 0), (1, gI v1), (2, gI v2), (3, gI v3), (4, gI v4), (5, gI v5)] [] σ
set_option maxRecDepth 20000 in
theorem e_X8_number_8 (v1 : Int32) (v2 : Int32) (v3 : Int32) (v4 : Int32) (v5 : Int32) (σ : gb_M) : j_X8_number_8 v1 v2 v3 v4 v5 σ =
  if v5 ≤ 0 then
    if v4 = 0 then
      some (some (gI (-1)), σ)
    else
      if v3 < v1 then
        some (some (gI (-1)), gb_si σ 1 0 2 ((σ.1 1 0 2) - 1))
      else
        if v3 ≤ v2 then some (some (gI v3), σ) else some (some (gI (-1)), gb_si σ 1 0 2 ((σ.1 1 0 2) - 1))
  else
    gb_b1 (f_X8_digitFits [gR 1 0, gI v3, gI v4] σ) (fun x2 s1 => if x2 = 0 then
      if v4 = 0 then
        some (some (gI (-1)), s1)
      else
        if v3 < v1 then
          some (some (gI (-1)), gb_si s1 1 0 2 ((s1.1 1 0 2) - 1))
        else
          if v3 ≤ v2 then some (some (gI v3), s1) else some (some (gI (-1)), gb_si s1 1 0 2 ((s1.1 1 0 2) - 1))
    else
      gb_gd (gb_in (s1.1 1 0 2) 200) (j_X8_number_8 v1 v2 (((10 * v3) + (s1.1 2 0 (s1.1 1 0 2).toNatClampNeg)) - 48) (v4 + 1) (v5 / 10) (gb_si s1 1 0 2 ((s1.1 1 0 2) + 1)))) := (gb_fx_eq (L_X8_number) 8 _ _ _).trans rfl
set_option maxRecDepth 20000 in
theorem e_X8_number (a1 : Int32) (a2 : Int32) (σ : gb_M) : f_X8_number [gR 1 0, gI a1, gI a2] σ =
  j_X8_number_8 a1 a2 0 0 a2 σ := (gb_hide_at _ _ _).trans rfl
set_option maxRecDepth 20000 in
theorem e_X2_readOne (a2 : Int32) (σ : gb_M) : f_X2_readOne [gR 23 0, gR 1 0, gI a2] σ =
  gb_b1 (f_X8_newNumber [gR 1 0, gI 0] σ) (fun x2 s1 => if x2 < 0 then
    some (some (gI 0), s1)
  else
    gb_b1 (f_X8_takes [gR 1 0, gI 58] s1) (fun x4 s3 => if x4 = 0 then
      some (some (gI 0), s3)
    else
      gb_b1 (f_X8_number [gR 1 0, gI 1, gI 99] s3) (fun x6 s5 => if 0 ≤ x6 then
        gb_gd (gb_in a2 6) (gb_gd (gb_in a2 6) (some (some (gI 1), gb_si (gb_si s5 24 0 a2.toNatClampNeg x2) 25 0 a2.toNatClampNeg x6)))
      else
        some (some (gI 0), s5)))) := (gb_hide_at _ _ _).trans rfl
set_option maxRecDepth 20000 in
theorem e_X8_fault  (σ : gb_M) : f_X8_fault [gR 1 0] σ =
  some (some (gI ((-21) - (σ.1 1 0 2))), σ) := (gb_hide_at _ _ _).trans rfl
noncomputable def j_X2_read_16 (v2 : Int32) (σ : gb_M) : gb_R := K_X2_read 16 [(0, gR 23 0), (1, gR 1 0), (2, gI v2)] [] σ
set_option maxRecDepth 20000 in
theorem e_X2_read_16 (v2 : Int32) (σ : gb_M) : j_X2_read_16 v2 σ =
  if 6 ≤ v2 then
    gb_b1 (f_X8_fault [gR 1 0] σ) (fun x4 s3 => some (some (gI x4), s3))
  else
    gb_b1 (f_X2_readOne [gR 23 0, gR 1 0, gI v2] σ) (fun x6 s5 => if x6 = 0 then
      gb_b1 (f_X8_fault [gR 1 0] s5) (fun x8 s7 => some (some (gI x8), s7))
    else
      gb_b1 (f_X8_ended [gR 1 0] s5) (fun x10 s9 => if x10 = 0 then
        if v2 = 5 then
          gb_b1 (f_X8_fault [gR 1 0] s9) (fun x12 s11 => some (some (gI x12), s11))
        else
          gb_b1 (f_X8_takes [gR 1 0, gI 44] s9) (fun x14 s13 => if x14 = 0 then gb_b1 (f_X8_fault [gR 1 0] s13) (fun x16 s15 => some (some (gI x16), s15)) else j_X2_read_16 (v2 + 1) s13)
      else
        some (some (gI ((gb_si s9 23 0 3 (v2 + 1)).1 23 0 3)), gb_si s9 23 0 3 (v2 + 1)))) := (gb_fx_eq (L_X2_read) 16 _ _ _).trans rfl
set_option maxRecDepth 20000 in
theorem e_X2_read  (σ : gb_M) : f_X2_read [gR 23 0, gR 1 0] σ =
  gb_b1 (f_X8_ended [gR 1 0] (gb_si σ 23 0 3 0)) (fun x2 s1 => if x2 = 0 then j_X2_read_16 0 s1 else some (some (gI 0), s1)) := (gb_hide_at _ _ _).trans rfl
noncomputable def j_X2_comeOn_2 (v1 : Int32) (v2 : Int32) (σ : gb_M) : gb_R := K_X2_comeOn 2 [(0, gR 23 0), (1, gI v1), (2, gI v2)] [] σ
set_option maxRecDepth 20000 in
theorem e_X2_comeOn_2 (v1 : Int32) (v2 : Int32) (σ : gb_M) : j_X2_comeOn_2 v1 v2 σ =
  if σ.1 23 0 3 ≤ v2 then some (none, σ) else gb_gd (gb_in v2 6) (j_X2_comeOn_2 v1 (v2 + 1) (gb_si σ 26 0 v2.toNatClampNeg v1)) := (gb_fx_eq (L_X2_comeOn) 2 _ _ _).trans rfl
set_option maxRecDepth 20000 in
theorem e_X2_comeOn (a1 : Int32) (σ : gb_M) : f_X2_comeOn [gR 23 0, gI a1] σ =
  j_X2_comeOn_2 a1 0 σ := (gb_hide_at _ _ _).trans rfl
noncomputable def j_X2_takeLayers_17 (j1 : Nat) (v2 : Int32) (v3 : Int32) (σ : gb_M) : gb_R := K_X2_takeLayers 17 [(0, gR 23 0), (1, gR 10 j1), (2, gI v2), (3, gI v3)] [] σ
set_option maxRecDepth 20000 in
theorem e_X2_takeLayers_17 (j1 : Nat) (v2 : Int32) (v3 : Int32) (σ : gb_M) : j_X2_takeLayers_17 j1 v2 v3 σ =
  if σ.1 23 0 3 ≤ v3 then
    some (none, σ)
  else
    gb_b1 (f_X7_place [gI v2, gI v3] σ) (fun x2 s1 => gb_gd (gb_in x2 36) (gb_gd (gb_in v3 6) (gb_gd (gb_in x2 36) (gb_gd (gb_in v3 6) (gb_gd (gb_in x2 36) (gb_gd (gb_in v3 6) (j_X2_takeLayers_17 j1 v2 (v3 + 1) (gb_si (gb_si (gb_si s1 24 0 v3.toNatClampNeg (s1.1 15 j1 x2.toNatClampNeg)) 25 0 v3.toNatClampNeg ((gb_si s1 24 0 v3.toNatClampNeg (s1.1 15 j1 x2.toNatClampNeg)).1 16 j1 x2.toNatClampNeg)) 26 0 v3.toNatClampNeg ((gb_si (gb_si s1 24 0 v3.toNatClampNeg (s1.1 15 j1 x2.toNatClampNeg)) 25 0 v3.toNatClampNeg ((gb_si s1 24 0 v3.toNatClampNeg (s1.1 15 j1 x2.toNatClampNeg)).1 16 j1 x2.toNatClampNeg)).1 17 j1 x2.toNatClampNeg))))))))) := (gb_fx_eq (L_X2_takeLayers) 17 _ _ _).trans rfl
set_option maxRecDepth 20000 in
theorem e_X2_takeLayers (j1 : Nat) (a2 : Int32) (σ : gb_M) : f_X2_takeLayers [gR 23 0, gR 10 j1, gI a2] σ =
  gb_gd (gb_in a2 6) (j_X2_takeLayers_17 j1 a2 0 (gb_si σ 23 0 3 (if σ.1 13 j1 a2.toNatClampNeg < 6 then σ.1 13 j1 a2.toNatClampNeg else 6))) := (gb_hide_at _ _ _).trans rfl
set_option maxRecDepth 20000 in
theorem e_X3_clear  (σ : gb_M) : f_X3_clear [gR 19 0] σ =
  some (none, gb_si σ 19 0 2 0) := (gb_hide_at _ _ _).trans rfl
set_option maxRecDepth 20000 in
theorem e_X3_add (j1 : Nat) (σ : gb_M) : f_X3_add [gR 19 0, gR 10 j1] σ =
  gb_gd (gb_in (σ.1 19 0 1) 8) (gb_b0 (f_X7_copy [gR 10 (2 + (σ.1 19 0 1).toNatClampNeg), gR 10 j1] σ) (fun s1 => some (none, gb_si (gb_si s1 19 0 1 (((s1.1 19 0 1) + 1) - ((s1.1 19 0 1) + 1) / 8 * 8)) 19 0 2 (if ((gb_si s1 19 0 1 (((s1.1 19 0 1) + 1) - ((s1.1 19 0 1) + 1) / 8 * 8)).1 19 0 2) + 1 < 8 then ((gb_si s1 19 0 1 (((s1.1 19 0 1) + 1) - ((s1.1 19 0 1) + 1) / 8 * 8)).1 19 0 2) + 1 else 8)))) := (gb_hide_at _ _ _).trans rfl
set_option maxRecDepth 20000 in
theorem e_X3_takeBack (j1 : Nat) (σ : gb_M) : f_X3_takeBack [gR 19 0, gR 10 j1] σ =
  if σ.1 19 0 2 = 0 then
    some (some (gI 0), σ)
  else
    gb_gd (gb_in ((gb_si σ 19 0 1 ((((σ.1 19 0 1) + 8) - 1) - (((σ.1 19 0 1) + 8) - 1) / 8 * 8)).1 19 0 1) 8) (gb_b0 (f_X7_copy [gR 10 j1, gR 10 (2 + ((gb_si σ 19 0 1 ((((σ.1 19 0 1) + 8) - 1) - (((σ.1 19 0 1) + 8) - 1) / 8 * 8)).1 19 0 1).toNatClampNeg)] (gb_si σ 19 0 1 ((((σ.1 19 0 1) + 8) - 1) - (((σ.1 19 0 1) + 8) - 1) / 8 * 8))) (fun s1 => some (some (gI 1), gb_si s1 19 0 2 ((s1.1 19 0 2) - 1)))) := (gb_hide_at _ _ _).trans rfl
set_option maxRecDepth 20000 in
theorem e_X4_start  (σ : gb_M) : f_X4_start [gR 21 0] σ =
  some (none, gb_si σ 21 0 1 0) := (gb_hide_at _ _ _).trans rfl
set_option maxRecDepth 20000 in
theorem e_X4_add (a1 : Int64) (σ : gb_M) : f_X4_add [gR 21 0, gL a1] σ =
  if 8 ≤ σ.1 21 0 1 then
    some (none, σ)
  else
    gb_gd (gb_in (σ.1 21 0 1) 8) (some (none, gb_si (gb_sl σ 22 0 (σ.1 21 0 1).toNatClampNeg a1) 21 0 1 (((gb_sl σ 22 0 (σ.1 21 0 1).toNatClampNeg a1).1 21 0 1) + 1))) := (gb_hide_at _ _ _).trans rfl
noncomputable def j_X5_copy_2 (j0 : Nat) (j1 : Nat) (v2 : Int32) (σ : gb_M) : gb_R := K_X5_copy 2 [(0, gR 3 j0), (1, gR 3 j1), (2, gI v2)] [] σ
noncomputable def j_X5_copy_52 (j0 : Nat) (j1 : Nat) (v2 : Int32) (σ : gb_M) : gb_R := K_X5_copy 52 [(0, gR 3 j0), (1, gR 3 j1), (2, gI v2)] [] σ
noncomputable def j_X5_copy_78 (j0 : Nat) (j1 : Nat) (v2 : Int32) (σ : gb_M) : gb_R := K_X5_copy 78 [(0, gR 3 j0), (1, gR 3 j1), (2, gI v2)] [] σ
set_option maxRecDepth 20000 in
theorem e_X5_copy_2 (j0 : Nat) (j1 : Nat) (v2 : Int32) (σ : gb_M) : j_X5_copy_2 j0 j1 v2 σ =
  if 6 ≤ v2 then
    j_X5_copy_52 j0 j1 0 σ
  else
    gb_gd (gb_in v2 6) (gb_gd (gb_in v2 6) (gb_gd (gb_in v2 6) (gb_gd (gb_in v2 6) (gb_gd (gb_in v2 6) (gb_gd (gb_in v2 6) (j_X5_copy_2 j0 j1 (v2 + 1) (gb_si (gb_si (gb_si σ 4 j0 v2.toNatClampNeg (σ.1 4 j1 v2.toNatClampNeg)) 5 j0 v2.toNatClampNeg ((gb_si σ 4 j0 v2.toNatClampNeg (σ.1 4 j1 v2.toNatClampNeg)).1 5 j1 v2.toNatClampNeg)) 8 j0 v2.toNatClampNeg ((gb_si (gb_si σ 4 j0 v2.toNatClampNeg (σ.1 4 j1 v2.toNatClampNeg)) 5 j0 v2.toNatClampNeg ((gb_si σ 4 j0 v2.toNatClampNeg (σ.1 4 j1 v2.toNatClampNeg)).1 5 j1 v2.toNatClampNeg)).1 8 j1 v2.toNatClampNeg)))))))) := (gb_fx_eq (L_X5_copy) 2 _ _ _).trans rfl
set_option maxRecDepth 20000 in
theorem e_X5_copy_52 (j0 : Nat) (j1 : Nat) (v2 : Int32) (σ : gb_M) : j_X5_copy_52 j0 j1 v2 σ =
  if 6 ≤ v2 then
    j_X5_copy_78 j0 j1 0 σ
  else
    gb_gd (gb_in v2 6) (gb_gd (gb_in v2 6) (j_X5_copy_52 j0 j1 (v2 + 1) (gb_si σ 6 j0 v2.toNatClampNeg (σ.1 6 j1 v2.toNatClampNeg)))) := (gb_fx_eq (L_X5_copy) 52 _ _ _).trans rfl
set_option maxRecDepth 20000 in
theorem e_X5_copy_78 (j0 : Nat) (j1 : Nat) (v2 : Int32) (σ : gb_M) : j_X5_copy_78 j0 j1 v2 σ =
  if 36 ≤ v2 then
    some (none, σ)
  else
    gb_gd (gb_in v2 36) (gb_gd (gb_in v2 36) (j_X5_copy_78 j0 j1 (v2 + 1) (gb_si σ 7 j0 v2.toNatClampNeg (σ.1 7 j1 v2.toNatClampNeg)))) := (gb_fx_eq (L_X5_copy) 78 _ _ _).trans rfl
set_option maxRecDepth 20000 in
theorem e_X5_copy (j0 : Nat) (j1 : Nat) (σ : gb_M) : f_X5_copy [gR 3 j0, gR 3 j1] σ =
  j_X5_copy_2 j0 j1 0 σ := (gb_hide_at _ _ _).trans rfl
set_option maxRecDepth 20000 in
theorem e_X5_may (j0 : Nat) (a1 : Int32) (a2 : Int32) (σ : gb_M) : f_X5_may [gR 3 j0, gI a1, gI a2] σ =
  gb_gd (gb_in a1 6) (if (σ.1 8 j0 a1.toNatClampNeg) &&& (1 <<< (a2 &&& 31)) = 0 then some (some (gI 1), σ) else some (some (gI 0), σ)) := (gb_hide_at _ _ _).trans rfl
noncomputable def j_X5_clear_2 (j0 : Nat) (v1 : Int32) (σ : gb_M) : gb_R := K_X5_clear 2 [(0, gR 3 j0), (1, gI v1)] [] σ
noncomputable def j_X5_clear_45 (j0 : Nat) (v1 : Int32) (σ : gb_M) : gb_R := K_X5_clear 45 [(0, gR 3 j0), (1, gI v1)] [] σ
noncomputable def j_X5_clear_66 (j0 : Nat) (v1 : Int32) (σ : gb_M) : gb_R := K_X5_clear 66 [(0, gR 3 j0), (1, gI v1)] [] σ
set_option maxRecDepth 20000 in
theorem e_X5_clear_2 (j0 : Nat) (v1 : Int32) (σ : gb_M) : j_X5_clear_2 j0 v1 σ =
  if 6 ≤ v1 then
    j_X5_clear_45 j0 0 σ
  else
    gb_gd (gb_in v1 6) (gb_gd (gb_in v1 6) (gb_gd (gb_in v1 6) (gb_gd (gb_in v1 6) (j_X5_clear_2 j0 (v1 + 1) (gb_si (gb_si (gb_si (gb_si σ 4 j0 v1.toNatClampNeg 0) 5 j0 v1.toNatClampNeg 99) 8 j0 v1.toNatClampNeg 0) 9 j0 v1.toNatClampNeg 0))))) := (gb_fx_eq (L_X5_clear) 2 _ _ _).trans rfl
set_option maxRecDepth 20000 in
theorem e_X5_clear_45 (j0 : Nat) (v1 : Int32) (σ : gb_M) : j_X5_clear_45 j0 v1 σ =
  if 6 ≤ v1 then j_X5_clear_66 j0 0 σ else gb_gd (gb_in v1 6) (j_X5_clear_45 j0 (v1 + 1) (gb_si σ 6 j0 v1.toNatClampNeg 0)) := (gb_fx_eq (L_X5_clear) 45 _ _ _).trans rfl
set_option maxRecDepth 20000 in
theorem e_X5_clear_66 (j0 : Nat) (v1 : Int32) (σ : gb_M) : j_X5_clear_66 j0 v1 σ =
  if 36 ≤ v1 then
    some (none, gb_si (gb_si σ 3 j0 6 0) 3 j0 7 0)
  else
    gb_gd (gb_in v1 36) (j_X5_clear_66 j0 (v1 + 1) (gb_si σ 7 j0 v1.toNatClampNeg 0)) := (gb_fx_eq (L_X5_clear) 66 _ _ _).trans rfl
set_option maxRecDepth 20000 in
theorem e_X5_clear (j0 : Nat) (σ : gb_M) : f_X5_clear [gR 3 j0] σ =
  j_X5_clear_2 j0 0 σ := (gb_hide_at _ _ _).trans rfl
set_option maxRecDepth 20000 in
theorem e_X5_readGrade (j0 : Nat) (σ : gb_M) : f_X5_readGrade [gR 3 j0, gR 1 0] σ =
  gb_b1 (f_X8_newNumber [gR 1 0, gI (σ.1 3 j0 6)] σ) (fun x2 s1 => if x2 < 0 then
    some (some (gI 0), s1)
  else
    gb_b1 (f_X8_takes [gR 1 0, gI 119] s1) (fun x4 s3 => if x4 = 0 then
      some (some (gI 0), s3)
    else
      gb_b1 (f_X8_number [gR 1 0, gI 0, gI 999] s3) (fun x6 s5 => if x6 < 0 then
        some (some (gI 0), s5)
      else
        gb_b1 (f_X8_takes [gR 1 0, gI 107] s5) (fun x8 s7 => if x8 = 0 then
          some (some (gI 0), s7)
        else
          gb_b1 (f_X8_number [gR 1 0, gI 0, gI 99] s7) (fun x10 s9 => if 0 ≤ x10 then
            gb_gd (gb_in x2 6) (gb_gd (gb_in x2 6) (some (some (gI 1), gb_si (gb_si (gb_si s9 4 j0 x2.toNatClampNeg x6) 5 j0 x2.toNatClampNeg x10) 3 j0 6 (((gb_si (gb_si s9 4 j0 x2.toNatClampNeg x6) 5 j0 x2.toNatClampNeg x10).1 3 j0 6) ||| (1 <<< (x2 &&& 31))))))
          else
            some (some (gI 0), s9)))))) := (gb_hide_at _ _ _).trans rfl
set_option maxRecDepth 20000 in
theorem e_X5_readBin (j0 : Nat) (σ : gb_M) : f_X5_readBin [gR 3 j0, gR 1 0] σ =
  gb_b1 (f_X8_newNumber [gR 1 0, gI (σ.1 3 j0 7)] σ) (fun x2 s1 => if x2 < 0 then
    some (some (gI 0), s1)
  else
    gb_b1 (f_X8_takes [gR 1 0, gI 99] s1) (fun x4 s3 => if x4 = 0 then
      some (some (gI 0), s3)
    else
      gb_b1 (f_X8_number [gR 1 0, gI 0, gI 99] s3) (fun x6 s5 => if 0 ≤ x6 then
        gb_gd (gb_in x2 6) (some (some (gI 1), gb_si (gb_si s5 6 j0 x2.toNatClampNeg x6) 3 j0 7 (((gb_si s5 6 j0 x2.toNatClampNeg x6).1 3 j0 7) ||| (1 <<< (x2 &&& 31)))))
      else
        some (some (gI 0), s5)))) := (gb_hide_at _ _ _).trans rfl
set_option maxRecDepth 20000 in
theorem e_X5_readPair (j0 : Nat) (a2 : Int32) (σ : gb_M) : f_X5_readPair [gR 3 j0, gR 1 0, gI a2] σ =
  gb_b1 (f_X8_newNumber [gR 1 0, gI 0] σ) (fun x2 s1 => if 0 ≤ x2 then
    gb_gd (gb_in x2 6) (gb_b1 (f_X8_newNumber [gR 1 0, gI ((s1.1 9 j0 x2.toNatClampNeg) ||| (1 <<< (x2 &&& 31)))] s1) (fun x4 s3 => if 0 ≤ x4 then
      if a2 = 0 then
        if 0 ≤ 0 then
          gb_gd (gb_in ((x2 * 6) + x4) 36) (gb_gd (gb_in ((x4 * 6) + x2) 36) (gb_gd (gb_in x2 6) (gb_gd (gb_in x2 6) (gb_gd (gb_in x4 6) (gb_gd (gb_in x4 6) (if a2 = 0 then
            gb_gd (gb_in x2 6) (gb_gd (gb_in x2 6) (gb_gd (gb_in x4 6) (gb_gd (gb_in x4 6) (some (some (gI 1), gb_si (gb_si (gb_si (gb_si (gb_si (gb_si s3 7 j0 ((x2 * 6) + x4).toNatClampNeg 0) 7 j0 ((x4 * 6) + x2).toNatClampNeg 0) 9 j0 x2.toNatClampNeg (((gb_si (gb_si s3 7 j0 ((x2 * 6) + x4).toNatClampNeg 0) 7 j0 ((x4 * 6) + x2).toNatClampNeg 0).1 9 j0 x2.toNatClampNeg) ||| (1 <<< (x4 &&& 31)))) 9 j0 x4.toNatClampNeg (((gb_si (gb_si (gb_si s3 7 j0 ((x2 * 6) + x4).toNatClampNeg 0) 7 j0 ((x4 * 6) + x2).toNatClampNeg 0) 9 j0 x2.toNatClampNeg (((gb_si (gb_si s3 7 j0 ((x2 * 6) + x4).toNatClampNeg 0) 7 j0 ((x4 * 6) + x2).toNatClampNeg 0).1 9 j0 x2.toNatClampNeg) ||| (1 <<< (x4 &&& 31)))).1 9 j0 x4.toNatClampNeg) ||| (1 <<< (x2 &&& 31)))) 8 j0 x2.toNatClampNeg (((gb_si (gb_si (gb_si (gb_si s3 7 j0 ((x2 * 6) + x4).toNatClampNeg 0) 7 j0 ((x4 * 6) + x2).toNatClampNeg 0) 9 j0 x2.toNatClampNeg (((gb_si (gb_si s3 7 j0 ((x2 * 6) + x4).toNatClampNeg 0) 7 j0 ((x4 * 6) + x2).toNatClampNeg 0).1 9 j0 x2.toNatClampNeg) ||| (1 <<< (x4 &&& 31)))) 9 j0 x4.toNatClampNeg (((gb_si (gb_si (gb_si s3 7 j0 ((x2 * 6) + x4).toNatClampNeg 0) 7 j0 ((x4 * 6) + x2).toNatClampNeg 0) 9 j0 x2.toNatClampNeg (((gb_si (gb_si s3 7 j0 ((x2 * 6) + x4).toNatClampNeg 0) 7 j0 ((x4 * 6) + x2).toNatClampNeg 0).1 9 j0 x2.toNatClampNeg) ||| (1 <<< (x4 &&& 31)))).1 9 j0 x4.toNatClampNeg) ||| (1 <<< (x2 &&& 31)))).1 8 j0 x2.toNatClampNeg) ||| (1 <<< (x4 &&& 31)))) 8 j0 x4.toNatClampNeg (((gb_si (gb_si (gb_si (gb_si (gb_si s3 7 j0 ((x2 * 6) + x4).toNatClampNeg 0) 7 j0 ((x4 * 6) + x2).toNatClampNeg 0) 9 j0 x2.toNatClampNeg (((gb_si (gb_si s3 7 j0 ((x2 * 6) + x4).toNatClampNeg 0) 7 j0 ((x4 * 6) + x2).toNatClampNeg 0).1 9 j0 x2.toNatClampNeg) ||| (1 <<< (x4 &&& 31)))) 9 j0 x4.toNatClampNeg (((gb_si (gb_si (gb_si s3 7 j0 ((x2 * 6) + x4).toNatClampNeg 0) 7 j0 ((x4 * 6) + x2).toNatClampNeg 0) 9 j0 x2.toNatClampNeg (((gb_si (gb_si s3 7 j0 ((x2 * 6) + x4).toNatClampNeg 0) 7 j0 ((x4 * 6) + x2).toNatClampNeg 0).1 9 j0 x2.toNatClampNeg) ||| (1 <<< (x4 &&& 31)))).1 9 j0 x4.toNatClampNeg) ||| (1 <<< (x2 &&& 31)))) 8 j0 x2.toNatClampNeg (((gb_si (gb_si (gb_si (gb_si s3 7 j0 ((x2 * 6) + x4).toNatClampNeg 0) 7 j0 ((x4 * 6) + x2).toNatClampNeg 0) 9 j0 x2.toNatClampNeg (((gb_si (gb_si s3 7 j0 ((x2 * 6) + x4).toNatClampNeg 0) 7 j0 ((x4 * 6) + x2).toNatClampNeg 0).1 9 j0 x2.toNatClampNeg) ||| (1 <<< (x4 &&& 31)))) 9 j0 x4.toNatClampNeg (((gb_si (gb_si (gb_si s3 7 j0 ((x2 * 6) + x4).toNatClampNeg 0) 7 j0 ((x4 * 6) + x2).toNatClampNeg 0) 9 j0 x2.toNatClampNeg (((gb_si (gb_si s3 7 j0 ((x2 * 6) + x4).toNatClampNeg 0) 7 j0 ((x4 * 6) + x2).toNatClampNeg 0).1 9 j0 x2.toNatClampNeg) ||| (1 <<< (x4 &&& 31)))).1 9 j0 x4.toNatClampNeg) ||| (1 <<< (x2 &&& 31)))).1 8 j0 x2.toNatClampNeg) ||| (1 <<< (x4 &&& 31)))).1 8 j0 x4.toNatClampNeg) ||| (1 <<< (x2 &&& 31))))))))
          else
            some (some (gI 1), gb_si (gb_si (gb_si (gb_si s3 7 j0 ((x2 * 6) + x4).toNatClampNeg 0) 7 j0 ((x4 * 6) + x2).toNatClampNeg 0) 9 j0 x2.toNatClampNeg (((gb_si (gb_si s3 7 j0 ((x2 * 6) + x4).toNatClampNeg 0) 7 j0 ((x4 * 6) + x2).toNatClampNeg 0).1 9 j0 x2.toNatClampNeg) ||| (1 <<< (x4 &&& 31)))) 9 j0 x4.toNatClampNeg (((gb_si (gb_si (gb_si s3 7 j0 ((x2 * 6) + x4).toNatClampNeg 0) 7 j0 ((x4 * 6) + x2).toNatClampNeg 0) 9 j0 x2.toNatClampNeg (((gb_si (gb_si s3 7 j0 ((x2 * 6) + x4).toNatClampNeg 0) 7 j0 ((x4 * 6) + x2).toNatClampNeg 0).1 9 j0 x2.toNatClampNeg) ||| (1 <<< (x4 &&& 31)))).1 9 j0 x4.toNatClampNeg) ||| (1 <<< (x2 &&& 31))))))))))
        else
          some (some (gI 0), s3)
      else
        gb_b1 (f_X8_number [gR 1 0, gI 1, gI 99] s3) (fun x6 s5 => if 0 ≤ x6 then
          gb_gd (gb_in ((x2 * 6) + x4) 36) (gb_gd (gb_in ((x4 * 6) + x2) 36) (gb_gd (gb_in x2 6) (gb_gd (gb_in x2 6) (gb_gd (gb_in x4 6) (gb_gd (gb_in x4 6) (if a2 = 0 then
            gb_gd (gb_in x2 6) (gb_gd (gb_in x2 6) (gb_gd (gb_in x4 6) (gb_gd (gb_in x4 6) (some (some (gI 1), gb_si (gb_si (gb_si (gb_si (gb_si (gb_si s5 7 j0 ((x2 * 6) + x4).toNatClampNeg x6) 7 j0 ((x4 * 6) + x2).toNatClampNeg x6) 9 j0 x2.toNatClampNeg (((gb_si (gb_si s5 7 j0 ((x2 * 6) + x4).toNatClampNeg x6) 7 j0 ((x4 * 6) + x2).toNatClampNeg x6).1 9 j0 x2.toNatClampNeg) ||| (1 <<< (x4 &&& 31)))) 9 j0 x4.toNatClampNeg (((gb_si (gb_si (gb_si s5 7 j0 ((x2 * 6) + x4).toNatClampNeg x6) 7 j0 ((x4 * 6) + x2).toNatClampNeg x6) 9 j0 x2.toNatClampNeg (((gb_si (gb_si s5 7 j0 ((x2 * 6) + x4).toNatClampNeg x6) 7 j0 ((x4 * 6) + x2).toNatClampNeg x6).1 9 j0 x2.toNatClampNeg) ||| (1 <<< (x4 &&& 31)))).1 9 j0 x4.toNatClampNeg) ||| (1 <<< (x2 &&& 31)))) 8 j0 x2.toNatClampNeg (((gb_si (gb_si (gb_si (gb_si s5 7 j0 ((x2 * 6) + x4).toNatClampNeg x6) 7 j0 ((x4 * 6) + x2).toNatClampNeg x6) 9 j0 x2.toNatClampNeg (((gb_si (gb_si s5 7 j0 ((x2 * 6) + x4).toNatClampNeg x6) 7 j0 ((x4 * 6) + x2).toNatClampNeg x6).1 9 j0 x2.toNatClampNeg) ||| (1 <<< (x4 &&& 31)))) 9 j0 x4.toNatClampNeg (((gb_si (gb_si (gb_si s5 7 j0 ((x2 * 6) + x4).toNatClampNeg x6) 7 j0 ((x4 * 6) + x2).toNatClampNeg x6) 9 j0 x2.toNatClampNeg (((gb_si (gb_si s5 7 j0 ((x2 * 6) + x4).toNatClampNeg x6) 7 j0 ((x4 * 6) + x2).toNatClampNeg x6).1 9 j0 x2.toNatClampNeg) ||| (1 <<< (x4 &&& 31)))).1 9 j0 x4.toNatClampNeg) ||| (1 <<< (x2 &&& 31)))).1 8 j0 x2.toNatClampNeg) ||| (1 <<< (x4 &&& 31)))) 8 j0 x4.toNatClampNeg (((gb_si (gb_si (gb_si (gb_si (gb_si s5 7 j0 ((x2 * 6) + x4).toNatClampNeg x6) 7 j0 ((x4 * 6) + x2).toNatClampNeg x6) 9 j0 x2.toNatClampNeg (((gb_si (gb_si s5 7 j0 ((x2 * 6) + x4).toNatClampNeg x6) 7 j0 ((x4 * 6) + x2).toNatClampNeg x6).1 9 j0 x2.toNatClampNeg) ||| (1 <<< (x4 &&& 31)))) 9 j0 x4.toNatClampNeg (((gb_si (gb_si (gb_si s5 7 j0 ((x2 * 6) + x4).toNatClampNeg x6) 7 j0 ((x4 * 6) + x2).toNatClampNeg x6) 9 j0 x2.toNatClampNeg (((gb_si (gb_si s5 7 j0 ((x2 * 6) + x4).toNatClampNeg x6) 7 j0 ((x4 * 6) + x2).toNatClampNeg x6).1 9 j0 x2.toNatClampNeg) ||| (1 <<< (x4 &&& 31)))).1 9 j0 x4.toNatClampNeg) ||| (1 <<< (x2 &&& 31)))) 8 j0 x2.toNatClampNeg (((gb_si (gb_si (gb_si (gb_si s5 7 j0 ((x2 * 6) + x4).toNatClampNeg x6) 7 j0 ((x4 * 6) + x2).toNatClampNeg x6) 9 j0 x2.toNatClampNeg (((gb_si (gb_si s5 7 j0 ((x2 * 6) + x4).toNatClampNeg x6) 7 j0 ((x4 * 6) + x2).toNatClampNeg x6).1 9 j0 x2.toNatClampNeg) ||| (1 <<< (x4 &&& 31)))) 9 j0 x4.toNatClampNeg (((gb_si (gb_si (gb_si s5 7 j0 ((x2 * 6) + x4).toNatClampNeg x6) 7 j0 ((x4 * 6) + x2).toNatClampNeg x6) 9 j0 x2.toNatClampNeg (((gb_si (gb_si s5 7 j0 ((x2 * 6) + x4).toNatClampNeg x6) 7 j0 ((x4 * 6) + x2).toNatClampNeg x6).1 9 j0 x2.toNatClampNeg) ||| (1 <<< (x4 &&& 31)))).1 9 j0 x4.toNatClampNeg) ||| (1 <<< (x2 &&& 31)))).1 8 j0 x2.toNatClampNeg) ||| (1 <<< (x4 &&& 31)))).1 8 j0 x4.toNatClampNeg) ||| (1 <<< (x2 &&& 31))))))))
          else
            some (some (gI 1), gb_si (gb_si (gb_si (gb_si s5 7 j0 ((x2 * 6) + x4).toNatClampNeg x6) 7 j0 ((x4 * 6) + x2).toNatClampNeg x6) 9 j0 x2.toNatClampNeg (((gb_si (gb_si s5 7 j0 ((x2 * 6) + x4).toNatClampNeg x6) 7 j0 ((x4 * 6) + x2).toNatClampNeg x6).1 9 j0 x2.toNatClampNeg) ||| (1 <<< (x4 &&& 31)))) 9 j0 x4.toNatClampNeg (((gb_si (gb_si (gb_si s5 7 j0 ((x2 * 6) + x4).toNatClampNeg x6) 7 j0 ((x4 * 6) + x2).toNatClampNeg x6) 9 j0 x2.toNatClampNeg (((gb_si (gb_si s5 7 j0 ((x2 * 6) + x4).toNatClampNeg x6) 7 j0 ((x4 * 6) + x2).toNatClampNeg x6).1 9 j0 x2.toNatClampNeg) ||| (1 <<< (x4 &&& 31)))).1 9 j0 x4.toNatClampNeg) ||| (1 <<< (x2 &&& 31))))))))))
        else
          some (some (gI 0), s5))
    else
      some (some (gI 0), s3)))
  else
    some (some (gI 0), s1)) := (gb_hide_at _ _ _).trans rfl
set_option maxRecDepth 20000 in
theorem e_X5_readLine (j0 : Nat) (σ : gb_M) : f_X5_readLine [gR 3 j0, gR 1 0] σ =
  gb_b1 (f_X8_takes [gR 1 0, gI 103] σ) (fun x2 s1 => if x2 = 0 then
    gb_b1 (f_X8_takes [gR 1 0, gI 98] s1) (fun x4 s3 => if x4 = 0 then
      gb_b1 (f_X8_takes [gR 1 0, gI 108] s3) (fun x6 s5 => if x6 = 0 then
        gb_b1 (f_X8_takes [gR 1 0, gI 120] s5) (fun x8 s7 => if x8 = 0 then
          some (some (gI 0), s7)
        else
          gb_b1 (f_X5_readPair [gR 3 j0, gR 1 0, gI 0] s7) (fun x10 s9 => if x10 = 0 then some (some (gI 0), s9) else some (some (gI 1), s9)))
      else
        gb_b1 (f_X5_readPair [gR 3 j0, gR 1 0, gI 1] s5) (fun x12 s11 => gb_gd (decide (x12 &&& 1 = x12)) (some (some (gI x12), s11))))
    else
      gb_b1 (f_X5_readBin [gR 3 j0, gR 1 0] s3) (fun x14 s13 => gb_gd (decide (x14 &&& 1 = x14)) (some (some (gI x14), s13))))
  else
    gb_b1 (f_X5_readGrade [gR 3 j0, gR 1 0] s1) (fun x16 s15 => gb_gd (decide (x16 &&& 1 = x16)) (some (some (gI x16), s15)))) := (gb_hide_at _ _ _).trans rfl
noncomputable def j_X5_read_15 (j0 : Nat) (v2 : Int32) (σ : gb_M) : gb_R := K_X5_read 15 [(0, gR 3 j0), (1, gR 1 0), (2, gI v2)] [] σ
set_option maxRecDepth 20000 in
theorem e_X5_read_15 (j0 : Nat) (v2 : Int32) (σ : gb_M) : j_X5_read_15 j0 v2 σ =
  if 200 < v2 then
    gb_b1 (f_X8_fault [gR 1 0] σ) (fun x5 s4 => some (some (gI x5), s4))
  else
    gb_b1 (f_X5_readLine [gR 3 j0, gR 1 0] σ) (fun x7 s6 => if x7 = 0 then
      gb_b1 (f_X8_fault [gR 1 0] s6) (fun x9 s8 => some (some (gI x9), s8))
    else
      gb_b1 (f_X8_ended [gR 1 0] s6) (fun x11 s10 => if x11 = 0 then
        gb_b1 (f_X8_takes [gR 1 0, gI 59] s10) (fun x13 s12 => if x13 = 0 then gb_b1 (f_X8_fault [gR 1 0] s12) (fun x15 s14 => some (some (gI x15), s14)) else j_X5_read_15 j0 (v2 + 1) s12)
      else
        some (some (gI v2), s10))) := (gb_fx_eq (L_X5_read) 15 _ _ _).trans rfl
set_option maxRecDepth 20000 in
theorem e_X5_read (j0 : Nat) (σ : gb_M) : f_X5_read [gR 3 j0, gR 1 0] σ =
  gb_b0 (f_X5_clear [gR 3 j0] σ) (fun s1 => gb_b1 (f_X8_ended [gR 1 0] s1) (fun x3 s2 => if x3 = 0 then j_X5_read_15 j0 1 s2 else some (some (gI 0), s2))) := (gb_hide_at _ _ _).trans rfl
set_option maxRecDepth 20000 in
theorem e_X6_signAt (a1 : Int32) (σ : gb_M) : f_X6_signAt [gR 34 0, gI a1] σ =
  if a1 < 0 then
    some (some (gI (-1)), σ)
  else
    if σ.1 34 0 1 ≤ a1 then some (some (gI (-1)), σ) else gb_gd (gb_in a1 200) (some (some (gI (σ.1 35 0 a1.toNatClampNeg)), σ)) := (gb_hide_at _ _ _).trans rfl
set_option maxRecDepth 20000 in
theorem e_X6_add (a1 : Int32) (σ : gb_M) : f_X6_add [gR 34 0, gI a1] σ =
  if 200 ≤ σ.1 34 0 1 then
    some (none, σ)
  else
    gb_gd (gb_in (σ.1 34 0 1) 200) (some (none, gb_si (gb_si σ 35 0 (σ.1 34 0 1).toNatClampNeg a1) 34 0 1 (((gb_si σ 35 0 (σ.1 34 0 1).toNatClampNeg a1).1 34 0 1) + 1))) := (gb_hide_at _ _ _).trans rfl
set_option maxRecDepth 20000 in
theorem e_X6_writeTons (a1 : Int32) (σ : gb_M) : f_X6_writeTons [gR 34 0, gI a1] σ =
  if a1 < 10 then
    gb_b0 (f_X6_add [gR 34 0, gI (48 + (a1 - a1 / 10 * 10))] σ) (fun s1 => some (none, s1))
  else
    gb_b0 (f_X6_add [gR 34 0, gI (48 + (a1 / 10))] σ) (fun s2 => gb_b0 (f_X6_add [gR 34 0, gI (48 + (a1 - a1 / 10 * 10))] s2) (fun s3 => some (none, s3))) := (gb_hide_at _ _ _).trans rfl
noncomputable def j_X6_writeBin_29 (j1 : Nat) (v2 : Int32) (v3 : Int32) (σ : gb_M) : gb_R := K_X6_writeBin 29 [(0, gR 34 0), (1, gR 10 j1), (2, gI v2), (3, gI v3)] [] σ
set_option maxRecDepth 20000 in
theorem e_X6_writeBin_29 (j1 : Nat) (v2 : Int32) (v3 : Int32) (σ : gb_M) : j_X6_writeBin_29 j1 v2 v3 σ =
  gb_gd (gb_in v2 6) (if σ.1 13 j1 v2.toNatClampNeg ≤ v3 then
    some (none, σ)
  else
    if v3 ≤ 0 then
      gb_b1 (f_X7_place [gI v2, gI v3] σ) (fun x7 s6 => gb_gd (gb_in x7 36) (gb_b0 (f_X6_add [gR 34 0, gI (48 + (s6.1 15 j1 x7.toNatClampNeg))] s6) (fun s8 => gb_b0 (f_X6_add [gR 34 0, gI 120] s8) (fun s9 => gb_gd (gb_in x7 36) (gb_b0 (f_X6_writeTons [gR 34 0, gI (s9.1 16 j1 x7.toNatClampNeg)] s9) (fun s10 => j_X6_writeBin_29 j1 v2 (v3 + 1) s10))))))
    else
      gb_b0 (f_X6_add [gR 34 0, gI 44] σ) (fun s11 => gb_b1 (f_X7_place [gI v2, gI v3] s11) (fun x13 s12 => gb_gd (gb_in x13 36) (gb_b0 (f_X6_add [gR 34 0, gI (48 + (s12.1 15 j1 x13.toNatClampNeg))] s12) (fun s14 => gb_b0 (f_X6_add [gR 34 0, gI 120] s14) (fun s15 => gb_gd (gb_in x13 36) (gb_b0 (f_X6_writeTons [gR 34 0, gI (s15.1 16 j1 x13.toNatClampNeg)] s15) (fun s16 => j_X6_writeBin_29 j1 v2 (v3 + 1) s16)))))))) := (gb_fx_eq (L_X6_writeBin) 29 _ _ _).trans rfl
set_option maxRecDepth 20000 in
theorem e_X6_writeBin (j1 : Nat) (a2 : Int32) (σ : gb_M) : f_X6_writeBin [gR 34 0, gR 10 j1, gI a2] σ =
  if σ.1 34 0 1 ≤ 0 then
    gb_b0 (f_X6_add [gR 34 0, gI (48 + a2)] σ) (fun s1 => gb_b0 (f_X6_add [gR 34 0, gI 58] s1) (fun s2 => j_X6_writeBin_29 j1 a2 0 s2))
  else
    gb_b0 (f_X6_add [gR 34 0, gI 59] σ) (fun s3 => gb_b0 (f_X6_add [gR 34 0, gI (48 + a2)] s3) (fun s4 => gb_b0 (f_X6_add [gR 34 0, gI 58] s4) (fun s5 => j_X6_writeBin_29 j1 a2 0 s5))) := (gb_hide_at _ _ _).trans rfl
noncomputable def j_X6_write_7 (j1 : Nat) (v2 : Int32) (σ : gb_M) : gb_R := K_X6_write 7 [(0, gR 34 0), (1, gR 10 j1), (2, gI v2)] [] σ
set_option maxRecDepth 20000 in
theorem e_X6_write_7 (j1 : Nat) (v2 : Int32) (σ : gb_M) : j_X6_write_7 j1 v2 σ =
  if 6 ≤ v2 then
    some (none, σ)
  else
    gb_gd (gb_in v2 6) (if σ.1 13 j1 v2.toNatClampNeg ≤ 0 then j_X6_write_7 j1 (v2 + 1) σ else gb_b0 (f_X6_writeBin [gR 34 0, gR 10 j1, gI v2] σ) (fun s1 => j_X6_write_7 j1 (v2 + 1) s1)) := (gb_fx_eq (L_X6_write) 7 _ _ _).trans rfl
set_option maxRecDepth 20000 in
theorem e_X6_write (j1 : Nat) (σ : gb_M) : f_X6_write [gR 34 0, gR 10 j1] σ =
  j_X6_write_7 j1 0 (gb_si σ 34 0 1 0) := (gb_hide_at _ _ _).trans rfl
noncomputable def j_X7_clear_2 (j0 : Nat) (v1 : Int32) (σ : gb_M) : gb_R := K_X7_clear 2 [(0, gR 10 j0), (1, gI v1)] [] σ
noncomputable def j_X7_clear_31 (j0 : Nat) (v1 : Int32) (σ : gb_M) : gb_R := K_X7_clear 31 [(0, gR 10 j0), (1, gI v1)] [] σ
noncomputable def j_X7_clear_66 (j0 : Nat) (v1 : Int32) (σ : gb_M) : gb_R := K_X7_clear 66 [(0, gR 10 j0), (1, gI v1)] [] σ
set_option maxRecDepth 20000 in
theorem e_X7_clear_2 (j0 : Nat) (v1 : Int32) (σ : gb_M) : j_X7_clear_2 j0 v1 σ =
  if 6 ≤ v1 then
    j_X7_clear_31 j0 0 σ
  else
    gb_gd (gb_in v1 6) (gb_gd (gb_in v1 6) (j_X7_clear_2 j0 (v1 + 1) (gb_si σ 11 j0 v1.toNatClampNeg (σ.1 4 0 v1.toNatClampNeg)))) := (gb_fx_eq (L_X7_clear) 2 _ _ _).trans rfl
set_option maxRecDepth 20000 in
theorem e_X7_clear_31 (j0 : Nat) (v1 : Int32) (σ : gb_M) : j_X7_clear_31 j0 v1 σ =
  if 6 ≤ v1 then
    j_X7_clear_66 j0 0 σ
  else
    gb_gd (gb_in v1 6) (gb_gd (gb_in v1 6) (gb_gd (gb_in v1 6) (j_X7_clear_31 j0 (v1 + 1) (gb_si (gb_si (gb_si σ 12 j0 v1.toNatClampNeg 0) 13 j0 v1.toNatClampNeg 0) 14 j0 v1.toNatClampNeg 0)))) := (gb_fx_eq (L_X7_clear) 31 _ _ _).trans rfl
set_option maxRecDepth 20000 in
theorem e_X7_clear_66 (j0 : Nat) (v1 : Int32) (σ : gb_M) : j_X7_clear_66 j0 v1 σ =
  if 36 ≤ v1 then
    some (none, gb_si (gb_si σ 10 j0 9 0) 10 j0 10 0)
  else
    gb_gd (gb_in v1 36) (j_X7_clear_66 j0 (v1 + 1) (gb_si σ 18 j0 v1.toNatClampNeg 0)) := (gb_fx_eq (L_X7_clear) 66 _ _ _).trans rfl
set_option maxRecDepth 20000 in
theorem e_X7_clear (j0 : Nat) (σ : gb_M) : f_X7_clear [gR 10 j0] σ =
  j_X7_clear_2 j0 0 σ := (gb_hide_at _ _ _).trans rfl
noncomputable def j_X7_tonsOf_4 (j0 : Nat) (v1 : Int32) (v2 : Int32) (v3 : Int32) (σ : gb_M) : gb_R := K_X7_tonsOf 4 [(0, gR 10 j0), (1, gI v1), (2, gI v2), (3, gI v3)] [] σ
set_option maxRecDepth 20000 in
theorem e_X7_tonsOf_4 (j0 : Nat) (v1 : Int32) (v2 : Int32) (v3 : Int32) (σ : gb_M) : j_X7_tonsOf_4 j0 v1 v2 v3 σ =
  if 6 ≤ v3 then
    some (some (gI v2), σ)
  else
    gb_gd (gb_in ((v3 * 6) + v1) 36) (j_X7_tonsOf_4 j0 v1 (v2 + (σ.1 18 j0 ((v3 * 6) + v1).toNatClampNeg)) (v3 + 1) σ) := (gb_fx_eq (L_X7_tonsOf) 4 _ _ _).trans rfl
set_option maxRecDepth 20000 in
theorem e_X7_tonsOf (j0 : Nat) (a1 : Int32) (σ : gb_M) : f_X7_tonsOf [gR 10 j0, gI a1] σ =
  j_X7_tonsOf_4 j0 a1 0 0 σ := (gb_hide_at _ _ _).trans rfl
noncomputable def j_X7_tonsInAll_4 (j0 : Nat) (v1 : Int32) (v2 : Int32) (σ : gb_M) : gb_R := K_X7_tonsInAll 4 [(0, gR 10 j0), (1, gI v1), (2, gI v2)] [] σ
set_option maxRecDepth 20000 in
theorem e_X7_tonsInAll_4 (j0 : Nat) (v1 : Int32) (v2 : Int32) (σ : gb_M) : j_X7_tonsInAll_4 j0 v1 v2 σ =
  if 6 ≤ v2 then some (some (gI v1), σ) else gb_gd (gb_in v2 6) (j_X7_tonsInAll_4 j0 (v1 + (σ.1 14 j0 v2.toNatClampNeg)) (v2 + 1) σ) := (gb_fx_eq (L_X7_tonsInAll) 4 _ _ _).trans rfl
set_option maxRecDepth 20000 in
theorem e_X7_tonsInAll (j0 : Nat) (σ : gb_M) : f_X7_tonsInAll [gR 10 j0] σ =
  j_X7_tonsInAll_4 j0 0 0 σ := (gb_hide_at _ _ _).trans rfl
noncomputable def j_X7_layersInAll_4 (j0 : Nat) (v1 : Int32) (v2 : Int32) (σ : gb_M) : gb_R := K_X7_layersInAll 4 [(0, gR 10 j0), (1, gI v1), (2, gI v2)] [] σ
set_option maxRecDepth 20000 in
theorem e_X7_layersInAll_4 (j0 : Nat) (v1 : Int32) (v2 : Int32) (σ : gb_M) : j_X7_layersInAll_4 j0 v1 v2 σ =
  if 6 ≤ v2 then some (some (gI v1), σ) else gb_gd (gb_in v2 6) (j_X7_layersInAll_4 j0 (v1 + (σ.1 13 j0 v2.toNatClampNeg)) (v2 + 1) σ) := (gb_fx_eq (L_X7_layersInAll) 4 _ _ _).trans rfl
set_option maxRecDepth 20000 in
theorem e_X7_layersInAll (j0 : Nat) (σ : gb_M) : f_X7_layersInAll [gR 10 j0] σ =
  j_X7_layersInAll_4 j0 0 0 σ := (gb_hide_at _ _ _).trans rfl
noncomputable def j_X7_closedBins_4 (j0 : Nat) (v1 : Int32) (v2 : Int32) (σ : gb_M) : gb_R := K_X7_closedBins 4 [(0, gR 10 j0), (1, gI v1), (2, gI v2)] [] σ
set_option maxRecDepth 20000 in
theorem e_X7_closedBins_4 (j0 : Nat) (v1 : Int32) (v2 : Int32) (σ : gb_M) : j_X7_closedBins_4 j0 v1 v2 σ =
  if 6 ≤ v2 then
    some (some (gI v1), σ)
  else
    gb_b1 (f_X7_closed [gR 10 j0, gI v2] σ) (fun x2 s1 => if x2 = 0 then j_X7_closedBins_4 j0 v1 (v2 + 1) s1 else j_X7_closedBins_4 j0 (v1 ||| (1 <<< (v2 &&& 31))) (v2 + 1) s1) := (gb_fx_eq (L_X7_closedBins) 4 _ _ _).trans rfl
set_option maxRecDepth 20000 in
theorem e_X7_closedBins (j0 : Nat) (σ : gb_M) : f_X7_closedBins [gR 10 j0] σ =
  j_X7_closedBins_4 j0 0 0 σ := (gb_hide_at _ _ _).trans rfl
noncomputable def j_X7_emptyBins_4 (j0 : Nat) (v1 : Int32) (v2 : Int32) (σ : gb_M) : gb_R := K_X7_emptyBins 4 [(0, gR 10 j0), (1, gI v1), (2, gI v2)] [] σ
set_option maxRecDepth 20000 in
theorem e_X7_emptyBins_4 (j0 : Nat) (v1 : Int32) (v2 : Int32) (σ : gb_M) : j_X7_emptyBins_4 j0 v1 v2 σ =
  if 6 ≤ v2 then
    some (some (gI v1), σ)
  else
    gb_gd (gb_in v2 6) (if σ.1 13 j0 v2.toNatClampNeg = 0 then j_X7_emptyBins_4 j0 (v1 ||| (1 <<< (v2 &&& 31))) (v2 + 1) σ else j_X7_emptyBins_4 j0 v1 (v2 + 1) σ) := (gb_fx_eq (L_X7_emptyBins) 4 _ _ _).trans rfl
set_option maxRecDepth 20000 in
theorem e_X7_emptyBins (j0 : Nat) (σ : gb_M) : f_X7_emptyBins [gR 10 j0] σ =
  j_X7_emptyBins_4 j0 0 0 σ := (gb_hide_at _ _ _).trans rfl
noncomputable def j_X7_tonsUnder_5 (j0 : Nat) (v1 : Int32) (v2 : Int32) (v3 : Int32) (v4 : Int32) (σ : gb_M) : gb_R := K_X7_tonsUnder 5 [(0, gR 10 j0), (1, gI v1), (2, gI v2), (3, gI v3), (4, gI v4)] [] σ
set_option maxRecDepth 20000 in
theorem e_X7_tonsUnder_5 (j0 : Nat) (v1 : Int32) (v2 : Int32) (v3 : Int32) (v4 : Int32) (σ : gb_M) : j_X7_tonsUnder_5 j0 v1 v2 v3 v4 σ =
  if v2 ≤ v4 then
    some (some (gI v3), σ)
  else
    gb_gd (gb_in v1 6) (if σ.1 13 j0 v1.toNatClampNeg ≤ v4 then
      some (some (gI v3), σ)
    else
      gb_b1 (f_X7_place [gI v1, gI v4] σ) (fun x2 s1 => gb_gd (gb_in x2 36) (j_X7_tonsUnder_5 j0 v1 v2 (v3 + (s1.1 16 j0 x2.toNatClampNeg)) (v4 + 1) s1))) := (gb_fx_eq (L_X7_tonsUnder) 5 _ _ _).trans rfl
set_option maxRecDepth 20000 in
theorem e_X7_tonsUnder (j0 : Nat) (a1 : Int32) (a2 : Int32) (σ : gb_M) : f_X7_tonsUnder [gR 10 j0, gI a1, gI a2] σ =
  j_X7_tonsUnder_5 j0 a1 a2 0 0 σ := (gb_hide_at _ _ _).trans rfl
set_option maxRecDepth 20000 in
theorem e_X7_partBelow (j0 : Nat) (a1 : Int32) (a2 : Int32) (a3 : Int32) (σ : gb_M) : f_X7_partBelow [gR 10 j0, gI a1, gI a2, gI a3] σ =
  gb_b1 (f_X7_tonsUnder [gR 10 j0, gI a1, gI a2] σ) (fun x2 s1 => gb_b1 (f_X7_place [gI a1, gI a2] s1) (fun x4 s3 => gb_gd (gb_in x4 36) (some (some (gI (if 0 < (if a3 - x2 < s3.1 16 j0 x4.toNatClampNeg then a3 - x2 else s3.1 16 j0 x4.toNatClampNeg) then (if a3 - x2 < s3.1 16 j0 x4.toNatClampNeg then a3 - x2 else s3.1 16 j0 x4.toNatClampNeg) else 0)), s3)))) := (gb_hide_at _ _ _).trans rfl
noncomputable def j_X7_tonsBelow_6 (j0 : Nat) (v1 : Int32) (v2 : Int32) (v3 : Int32) (v4 : Int32) (v5 : Int32) (σ : gb_M) : gb_R := K_X7_tonsBelow 6 [(0, gR 10 j0), (1, gI v1), (2, gI v2), (3, gI v3), (4, gI v4), (5, gI v5)] [] σ
set_option maxRecDepth 20000 in
theorem e_X7_tonsBelow_6 (j0 : Nat) (v1 : Int32) (v2 : Int32) (v3 : Int32) (v4 : Int32) (v5 : Int32) (σ : gb_M) : j_X7_tonsBelow_6 j0 v1 v2 v3 v4 v5 σ =
  gb_gd (gb_in v1 6) (if σ.1 13 j0 v1.toNatClampNeg ≤ v5 then
    some (some (gI v4), σ)
  else
    gb_b1 (f_X7_place [gI v1, gI v5] σ) (fun x2 s1 => gb_gd (gb_in x2 36) (if s1.1 15 j0 x2.toNatClampNeg = v3 then
      gb_b1 (f_X7_partBelow [gR 10 j0, gI v1, gI v5, gI v2] s1) (fun x4 s3 => j_X7_tonsBelow_6 j0 v1 v2 v3 (v4 + x4) (v5 + 1) s3)
    else
      j_X7_tonsBelow_6 j0 v1 v2 v3 v4 (v5 + 1) s1))) := (gb_fx_eq (L_X7_tonsBelow) 6 _ _ _).trans rfl
set_option maxRecDepth 20000 in
theorem e_X7_tonsBelow (j0 : Nat) (a1 : Int32) (a2 : Int32) (a3 : Int32) (σ : gb_M) : f_X7_tonsBelow [gR 10 j0, gI a1, gI a2, gI a3] σ =
  j_X7_tonsBelow_6 j0 a1 a2 a3 0 0 σ := (gb_hide_at _ _ _).trans rfl
set_option maxRecDepth 20000 in
theorem e_X7_unit (j0 : Nat) (a1 : Int32) (a2 : Int32) (σ : gb_M) : f_X7_unit [gR 10 j0, gI a1, gI a2] σ =
  gb_gd (gb_in a1 36) (gb_gd (gb_in a1 36) (gb_gd (gb_in (σ.1 15 j0 a1.toNatClampNeg) 6) (gb_gd (gb_in (σ.1 15 j0 a1.toNatClampNeg) 6) (some (some (gI (if 0 < (σ.1 11 j0 (σ.1 15 j0 a1.toNatClampNeg).toNatClampNeg) - (if 0 < (a2 - (σ.1 17 j0 a1.toNatClampNeg)) - (σ.1 5 0 (σ.1 15 j0 a1.toNatClampNeg).toNatClampNeg) then (a2 - (σ.1 17 j0 a1.toNatClampNeg)) - (σ.1 5 0 (σ.1 15 j0 a1.toNatClampNeg).toNatClampNeg) else 0) then (σ.1 11 j0 (σ.1 15 j0 a1.toNatClampNeg).toNatClampNeg) - (if 0 < (a2 - (σ.1 17 j0 a1.toNatClampNeg)) - (σ.1 5 0 (σ.1 15 j0 a1.toNatClampNeg).toNatClampNeg) then (a2 - (σ.1 17 j0 a1.toNatClampNeg)) - (σ.1 5 0 (σ.1 15 j0 a1.toNatClampNeg).toNatClampNeg) else 0) else 0)), σ))))) := (gb_hide_at _ _ _).trans rfl
