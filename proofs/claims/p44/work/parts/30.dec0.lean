/-! DEC: the blocks as equations, printed by wip/p44/dec.py -/
noncomputable def j_X0_takeWay_7 (v2 : Int32) (σ : gb_M) : gb_R := K_X0_takeWay 7 [(0, gR 30 0), (2, gI v2)] [] σ
set_option maxRecDepth 20000 in
theorem e_X0_takeWay_7 (v2 : Int32) (σ : gb_M) : j_X0_takeWay_7 v2 σ =
  if σ.1 23 0 3 ≤ v2 then
    some (none, σ)
  else
    gb_gd (gb_in v2 6) (gb_gd (gb_in v2 6) (j_X0_takeWay_7 (v2 + 1) (gb_si σ 33 0 v2.toNatClampNeg (σ.1 32 0 v2.toNatClampNeg)))) := (gb_fx_eq (L_X0_takeWay) 7 _ _ _).trans rfl
set_option maxRecDepth 20000 in
theorem e_X0_takeWay (a1 : Int32) (σ : gb_M) : f_X0_takeWay [gR 30 0, gI a1] σ =
  j_X0_takeWay_7 0 (gb_si σ 30 0 5 a1) := (gb_hide_at _ _ _).trans rfl
set_option maxRecDepth 20000 in
theorem e_X7_closed (j0 : Nat) (a1 : Int32) (σ : gb_M) : f_X7_closed [gR 10 j0, gI a1] σ =
  gb_gd (gb_in a1 6) (if σ.1 12 j0 a1.toNatClampNeg ≤ σ.1 10 j0 9 then some (some (gI 0), σ) else some (some (gI 1), σ)) := (gb_hide_at _ _ _).trans rfl
set_option maxRecDepth 20000 in
theorem e_X7_place (a0 : Int32) (a1 : Int32) (σ : gb_M) : f_X7_place [gI a0, gI a1] σ =
  some (some (gI ((a0 * 6) + a1)), σ) := (gb_hide_at _ _ _).trans rfl
noncomputable def j_X0_canDraw_34 (v1 : Int32) (v2 : Int32) (v3 : Int32) (v4 : Int32) (v5 : Int32) (σ : gb_M) : gb_R := K_X0_canDraw 34 [(0, gR 30 0), (1, gI v1), (2, gI v2), (3, gI v3), (4, gI v4), (5, gI v5)] [] σ
set_option maxRecDepth 20000 in
theorem e_X0_canDraw_34 (v1 : Int32) (v2 : Int32) (v3 : Int32) (v4 : Int32) (v5 : Int32) (σ : gb_M) : j_X0_canDraw_34 v1 v2 v3 v4 v5 σ =
  gb_gd (gb_in v1 6) (if σ.1 13 0 v1.toNatClampNeg ≤ v5 then
    if 0 < v3 then some (some (gI 0), σ) else some (some (gI 1), σ)
  else
    if v3 ≤ 0 then
      if 0 < v3 then some (some (gI 0), σ) else some (some (gI 1), σ)
    else
      gb_b1 (f_X7_place [gI v1, gI v5] σ) (fun x4 s3 => gb_gd (gb_in x4 36) (gb_gd (gb_in x4 36) (if (if 0 < (s3.1 16 0 x4.toNatClampNeg) - v4 then (s3.1 16 0 x4.toNatClampNeg) - v4 else 0) ≤ 0 then
        j_X0_canDraw_34 v1 v2 (v3 - (if 0 < (s3.1 16 0 x4.toNatClampNeg) - v4 then (s3.1 16 0 x4.toNatClampNeg) - v4 else 0)) (if 0 < v4 - (s3.1 16 0 x4.toNatClampNeg) then v4 - (s3.1 16 0 x4.toNatClampNeg) else 0) (v5 + 1) s3
      else
        gb_gd (gb_in x4 36) (gb_gd (gb_in v2 6) (if s3.1 15 0 x4.toNatClampNeg = s3.1 24 0 v2.toNatClampNeg then
          j_X0_canDraw_34 v1 v2 (v3 - (if 0 < (s3.1 16 0 x4.toNatClampNeg) - v4 then (s3.1 16 0 x4.toNatClampNeg) - v4 else 0)) (if 0 < v4 - (s3.1 16 0 x4.toNatClampNeg) then v4 - (s3.1 16 0 x4.toNatClampNeg) else 0) (v5 + 1) s3
        else
          some (some (gI 0), s3))))))) := (gb_fx_eq (L_X0_canDraw) 34 _ _ _).trans rfl
set_option maxRecDepth 20000 in
theorem e_X0_canDraw (a1 : Int32) (a2 : Int32) (σ : gb_M) : f_X0_canDraw [gR 30 0, gI a1, gI a2] σ =
  gb_b1 (f_X7_closed [gR 10 0, gI a1] σ) (fun x2 s1 => if x2 = 0 then
    gb_gd (gb_in a2 6) (gb_gd (gb_in a1 6) (j_X0_canDraw_34 a1 a2 (s1.1 25 0 a2.toNatClampNeg) (s1.1 31 0 a1.toNatClampNeg) 0 s1))
  else
    some (some (gI 0), s1)) := (gb_hide_at _ _ _).trans rfl
noncomputable def j_X0_serveFrom_27 (r : gb_F) (v1 : Int32) (v2 : Int32) (σ : gb_M) : gb_R := K_X0_serveFrom r 27 [(0, gR 30 0), (1, gI v1), (2, gI v2)] [] σ
set_option maxRecDepth 20000 in
theorem e_X0_serveFrom_27 (r : gb_F) (v1 : Int32) (v2 : Int32) (σ : gb_M) : j_X0_serveFrom_27 r v1 v2 σ =
  if 6 ≤ v2 then
    some (none, σ)
  else
    if σ.1 23 0 3 ≤ σ.1 30 0 5 then
      some (none, σ)
    else
      gb_b1 (f_X0_canDraw [gR 30 0, gI v2, gI v1] σ) (fun x3 s2 => if x3 = 0 then
        j_X0_serveFrom_27 r v1 (v2 + 1) s2
      else
        gb_gd (gb_in v1 6) (gb_gd (gb_in v2 6) (gb_gd (gb_in v1 6) (gb_gd (gb_in v2 6) (gb_b0 (r [gR 30 0, gI (v1 + 1)] (gb_si (gb_si s2 32 0 v1.toNatClampNeg v2) 31 0 v2.toNatClampNeg (((gb_si s2 32 0 v1.toNatClampNeg v2).1 31 0 v2.toNatClampNeg) + ((gb_si s2 32 0 v1.toNatClampNeg v2).1 25 0 v1.toNatClampNeg)))) (fun s4 => gb_gd (gb_in v2 6) (gb_gd (gb_in v1 6) (gb_gd (gb_in v2 6) (j_X0_serveFrom_27 r v1 (v2 + 1) (gb_si s4 31 0 v2.toNatClampNeg ((s4.1 31 0 v2.toNatClampNeg) - (s4.1 25 0 v1.toNatClampNeg)))))))))))) := (gb_fx_eq (L_X0_serveFrom r) 27 _ _ _).trans rfl
set_option maxRecDepth 20000 in
theorem e_X0_serveFrom (n : Nat) (a1 : Int32) (σ : gb_M) : g_X0_serveFrom (n + 1) [gR 30 0, gI a1] σ =
  if a1 ≤ σ.1 30 0 5 then
    if a1 < σ.1 23 0 3 then j_X0_serveFrom_27 (g_X0_serveFrom n) a1 0 σ else some (none, σ)
  else
    gb_b0 (f_X0_takeWay [gR 30 0, gI a1] σ) (fun s1 => if a1 < s1.1 23 0 3 then j_X0_serveFrom_27 (g_X0_serveFrom n) a1 0 s1 else some (none, s1)) := rfl
set_option maxRecDepth 20000 in
theorem e_X0_serve  (σ : gb_M) : f_X0_serve [gR 30 0] σ =
  gb_b0 (f_X0_serveFrom [gR 30 0, gI 0] (gb_si σ 30 0 5 0)) (fun s1 => some (some (gI (s1.1 30 0 5)), s1)) := (gb_hide_at _ _ _).trans rfl
noncomputable def j_X0_pickFrom_49 (r : gb_F) (v1 : Int32) (v2 : Int32) (v3 : Int32) (σ : gb_M) : gb_R := K_X0_pickFrom r 49 [(0, gR 30 0), (1, gI v1), (2, gI v2), (3, gI v3)] [] σ
set_option maxRecDepth 20000 in
theorem e_X0_pickFrom_49 (r : gb_F) (v1 : Int32) (v2 : Int32) (v3 : Int32) (σ : gb_M) : j_X0_pickFrom_49 r v1 v2 v3 σ =
  if 6 ≤ v3 then
    gb_gd (gb_in v1 6) (gb_b0 (r [gR 30 0, gI (v1 + 1), gI v2] (gb_si σ 32 0 v1.toNatClampNeg 6)) (fun s2 => some (none, s2)))
  else
    gb_b1 (f_X0_canDraw [gR 30 0, gI v3, gI v1] σ) (fun x4 s3 => if x4 = 0 then
      j_X0_pickFrom_49 r v1 v2 (v3 + 1) s3
    else
      gb_gd (gb_in v1 6) (gb_gd (gb_in v3 6) (gb_gd (gb_in v1 6) (gb_gd (gb_in v3 6) (gb_b0 (r [gR 30 0, gI (v1 + 1), gI (v2 + 1)] (gb_si (gb_si s3 32 0 v1.toNatClampNeg v3) 31 0 v3.toNatClampNeg (((gb_si s3 32 0 v1.toNatClampNeg v3).1 31 0 v3.toNatClampNeg) + ((gb_si s3 32 0 v1.toNatClampNeg v3).1 25 0 v1.toNatClampNeg)))) (fun s5 => gb_gd (gb_in v3 6) (gb_gd (gb_in v1 6) (gb_gd (gb_in v3 6) (j_X0_pickFrom_49 r v1 v2 (v3 + 1) (gb_si s5 31 0 v3.toNatClampNeg ((s5.1 31 0 v3.toNatClampNeg) - (s5.1 25 0 v1.toNatClampNeg)))))))))))) := (gb_fx_eq (L_X0_pickFrom r) 49 _ _ _).trans rfl
set_option maxRecDepth 20000 in
theorem e_X0_pickFrom (n : Nat) (a1 : Int32) (a2 : Int32) (σ : gb_M) : g_X0_pickFrom (n + 1) [gR 30 0, gI a1, gI a2] σ =
  if (a2 + (σ.1 23 0 3)) - a1 ≤ σ.1 30 0 5 then
    some (none, σ)
  else
    if a1 ≤ σ.1 23 0 3 then
      if a1 = σ.1 23 0 3 then gb_b0 (f_X0_takeWay [gR 30 0, gI a2] σ) (fun s1 => some (none, s1)) else j_X0_pickFrom_49 (g_X0_pickFrom n) a1 a2 0 σ
    else
      some (none, σ) := rfl
set_option maxRecDepth 20000 in
theorem e_X0_pick  (σ : gb_M) : f_X0_pick [gR 30 0] σ =
  gb_b0 (f_X0_pickFrom [gR 30 0, gI 0, gI 0] (gb_si σ 30 0 5 (-1))) (fun s1 => some (some (gI (s1.1 30 0 5)), s1)) := (gb_hide_at _ _ _).trans rfl
set_option maxRecDepth 20000 in
theorem e_X8_ended  (σ : gb_M) : f_X8_ended [gR 1 0] σ =
  if σ.1 1 0 2 < σ.1 1 0 1 then some (some (gI 0), σ) else some (some (gI 1), σ) := (gb_hide_at _ _ _).trans rfl
set_option maxRecDepth 20000 in
theorem e_X8_newNumber (a1 : Int32) (σ : gb_M) : f_X8_newNumber [gR 1 0, gI a1] σ =
  gb_b1 (f_X8_ended [gR 1 0] σ) (fun x2 s1 => if x2 = 0 then
    gb_gd (gb_in (s1.1 1 0 2) 200) (if s1.1 2 0 (s1.1 1 0 2).toNatClampNeg < 48 then
      some (some (gI (-1)), s1)
    else
      gb_gd (gb_in (s1.1 1 0 2) 200) (if s1.1 2 0 (s1.1 1 0 2).toNatClampNeg < 54 then
        gb_gd (gb_in (s1.1 1 0 2) 200) (if a1 &&& (1 <<< (((s1.1 2 0 (s1.1 1 0 2).toNatClampNeg) - 48) &&& 31)) = 0 then
          some (some (gI ((s1.1 2 0 (s1.1 1 0 2).toNatClampNeg) - 48)), gb_si s1 1 0 2 ((s1.1 1 0 2) + 1))
        else
          some (some (gI (-1)), s1))
      else
        some (some (gI (-1)), s1)))
  else
    some (some (gI (-1)), s1)) := (gb_hide_at _ _ _).trans rfl
set_option maxRecDepth 20000 in
theorem e_X8_takes (a1 : Int32) (σ : gb_M) : f_X8_takes [gR 1 0, gI a1] σ =
  gb_b1 (f_X8_ended [gR 1 0] σ) (fun x2 s1 => if x2 = 0 then
    gb_gd (gb_in (s1.1 1 0 2) 200) (if s1.1 2 0 (s1.1 1 0 2).toNatClampNeg = a1 then some (some (gI 1), gb_si s1 1 0 2 ((s1.1 1 0 2) + 1)) else some (some (gI 0), s1))
  else
    some (some (gI 0), s1)) := (gb_hide_at _ _ _).trans rfl
set_option maxRecDepth 20000 in
theorem e_X8_digitFits (a1 : Int32) (a2 : Int32) (σ : gb_M) : f_X8_digitFits [gR 1 0, gI a1, gI a2] σ =
  if a2 ≤ 0 then
    gb_b1 (f_X8_ended [gR 1 0] σ) (fun x2 s1 => if x2 = 0 then
      if 0 = 0 then
        gb_gd (gb_in (s1.1 1 0 2) 200) (if s1.1 2 0 (s1.1 1 0 2).toNatClampNeg < 48 then
          some (some (gI 0), s1)
        else
          gb_gd (gb_in (s1.1 1 0 2) 200) (if 57 < s1.1 2 0 (s1.1 1 0 2).toNatClampNeg then some (some (gI 0), s1) else some (some (gI 1), s1)))
      else
        some (some (gI 0), s1)
    else
      some (some (gI 0), s1))
  else
    if a1 = 0 then
      gb_b1 (f_X8_ended [gR 1 0] σ) (fun x4 s3 => if x4 = 0 then
        if 1 = 0 then
          gb_gd (gb_in (s3.1 1 0 2) 200) (if s3.1 2 0 (s3.1 1 0 2).toNatClampNeg < 48 then
            some (some (gI 0), s3)
          else
            gb_gd (gb_in (s3.1 1 0 2) 200) (if 57 < s3.1 2 0 (s3.1 1 0 2).toNatClampNeg then some (some (gI 0), s3) else some (some (gI 1), s3)))
        else
          some (some (gI 0), s3)
      else
        some (some (gI 0), s3))
    else
      gb_b1 (f_X8_ended [gR 1 0] σ) (fun x6 s5 => if x6 = 0 then
        if 0 = 0 then
          gb_gd (gb_in (s5.1 1 0 2) 200) (if s5.1 2 0 (s5.1 1 0 2).toNatClampNeg < 48 then
            some (some (gI 0), s5)
          else
            gb_gd (gb_in (s5.1 1 0 2) 200) (if 57 < s5.1 2 0 (s5.1 1 0 2).toNatClampNeg then some (some (gI 0), s5) else some (some (gI 1), s5)))
        else
          some (some (gI 0), s5)
      else
        some (some (gI 0), s5)) := (gb_hide_at _ _ _).trans rfl
noncomputable def j_X8_number_8 (v1 : Int32) (v2 : Int32) (v3 : Int32) (v4 : Int32) (v5 : Int32) (σ : gb_M) : gb_R := K_X8_number 8 [(0, gR 1 0), (1, gI v1), (2, gI v2), (3, gI v3), (4, gI v4), (5, gI v5)] [] σ
set_option maxRecDepth 20000 in
theorem e_X8_number_8 (v1 : Int32) (v2 : Int32) (v3 : Int32) (v4 : Int32) (v5 : Int32) (σ : gb_M) : j_X8_number_8 v1 v2 v3 v4 v5 σ =
  if v5 ≤ 0 then
    if v4 = 0 then
      some (some (gI (-1)), σ)
    else
      if v3 < v1 then
        some (some (gI (-1)), gb_si σ 1 0 2 ((σ.1 1 0 2) - 1))
      else
        if v3 ≤ v2 then some (some (gI v3), σ) else some (some (gI (-1)), gb_si σ 1 0 2 ((σ.1 1 0 2) - 1))
  else
    gb_b1 (f_X8_digitFits [gR 1 0, gI v3, gI v4] σ) (fun x2 s1 => if x2 = 0 then
      if v4 = 0 then
        some (some (gI (-1)), s1)
      else
        if v3 < v1 then
          some (some (gI (-1)), gb_si s1 1 0 2 ((s1.1 1 0 2) - 1))
        else
          if v3 ≤ v2 then some (some (gI v3), s1) else some (some (gI (-1)), gb_si s1 1 0 2 ((s1.1 1 0 2) - 1))
    else
      gb_gd (gb_in (s1.1 1 0 2) 200) (j_X8_number_8 v1 v2 (((10 * v3) + (s1.1 2 0 (s1.1 1 0 2).toNatClampNeg)) - 48) (v4 + 1) (v5 / 10) (gb_si s1 1 0 2 ((s1.1 1 0 2) + 1)))) := (gb_fx_eq (L_X8_number) 8 _ _ _).trans rfl
set_option maxRecDepth 20000 in
theorem e_X8_number (a1 : Int32) (a2 : Int32) (σ : gb_M) : f_X8_number [gR 1 0, gI a1, gI a2] σ =
  j_X8_number_8 a1 a2 0 0 a2 σ := (gb_hide_at _ _ _).trans rfl
set_option maxRecDepth 20000 in
theorem e_X2_readOne (a2 : Int32) (σ : gb_M) : f_X2_readOne [gR 23 0, gR 1 0, gI a2] σ =
  gb_b1 (f_X8_newNumber [gR 1 0, gI 0] σ) (fun x2 s1 => if x2 < 0 then
    some (some (gI 0), s1)
  else
    gb_b1 (f_X8_takes [gR 1 0, gI 58] s1) (fun x4 s3 => if x4 = 0 then
      some (some (gI 0), s3)
    else
      gb_b1 (f_X8_number [gR 1 0, gI 1, gI 99] s3) (fun x6 s5 => if 0 ≤ x6 then
        gb_gd (gb_in a2 6) (gb_gd (gb_in a2 6) (some (some (gI 1), gb_si (gb_si s5 24 0 a2.toNatClampNeg x2) 25 0 a2.toNatClampNeg x6)))
      else
        some (some (gI 0), s5)))) := (gb_hide_at _ _ _).trans rfl
set_option maxRecDepth 20000 in
theorem e_X8_fault  (σ : gb_M) : f_X8_fault [gR 1 0] σ =
  some (some (gI ((-21) - (σ.1 1 0 2))), σ) := (gb_hide_at _ _ _).trans rfl
noncomputable def j_X2_read_16 (v2 : Int32) (σ : gb_M) : gb_R := K_X2_read 16 [(0, gR 23 0), (1, gR 1 0), (2, gI v2)] [] σ
set_option maxRecDepth 20000 in
theorem e_X2_read_16 (v2 : Int32) (σ : gb_M) : j_X2_read_16 v2 σ =
  if 6 ≤ v2 then
    gb_b1 (f_X8_fault [gR 1 0] σ) (fun x4 s3 => some (some (gI x4), s3))
  else
    gb_b1 (f_X2_readOne [gR 23 0, gR 1 0, gI v2] σ) (fun x6 s5 => if x6 = 0 then
      gb_b1 (f_X8_fault [gR 1 0] s5) (fun x8 s7 => some (some (gI x8), s7))
    else
      gb_b1 (f_X8_ended [gR 1 0] s5) (fun x10 s9 => if x10 = 0 then
        if v2 = 5 then
          gb_b1 (f_X8_fault [gR 1 0] s9) (fun x12 s11 => some (some (gI x12), s11))
        else
          gb_b1 (f_X8_takes [gR 1 0, gI 44] s9) (fun x14 s13 => if x14 = 0 then gb_b1 (f_X8_fault [gR 1 0] s13) (fun x16 s15 => some (some (gI x16), s15)) else j_X2_read_16 (v2 + 1) s13)
      else
        some (some (gI ((gb_si s9 23 0 3 (v2 + 1)).1 23 0 3)), gb_si s9 23 0 3 (v2 + 1)))) := (gb_fx_eq (L_X2_read) 16 _ _ _).trans rfl
set_option maxRecDepth 20000 in
theorem e_X2_read  (σ : gb_M) : f_X2_read [gR 23 0, gR 1 0] σ =
  gb_b1 (f_X8_ended [gR 1 0] (gb_si σ 23 0 3 0)) (fun x2 s1 => if x2 = 0 then j_X2_read_16 0 s1 else some (some (gI 0), s1)) := (gb_hide_at _ _ _).trans rfl
set_option maxRecDepth 20000 in
theorem e_X3_clear  (σ : gb_M) : f_X3_clear [gR 19 0] σ =
  some (none, gb_si σ 19 0 2 0) := (gb_hide_at _ _ _).trans rfl
noncomputable def j_X7_copyBin_26 (j0 : Nat) (j1 : Nat) (v2 : Int32) (v3 : Int32) (σ : gb_M) : gb_R := K_X7_copyBin 26 [(0, gR 10 j0), (1, gR 10 j1), (2, gI v2), (3, gI v3)] [] σ
noncomputable def j_X7_copyBin_62 (j0 : Nat) (j1 : Nat) (v2 : Int32) (v3 : Int32) (σ : gb_M) : gb_R := K_X7_copyBin 62 [(0, gR 10 j0), (1, gR 10 j1), (2, gI v2), (3, gI v3)] [] σ
set_option maxRecDepth 20000 in
theorem e_X7_copyBin_26 (j0 : Nat) (j1 : Nat) (v2 : Int32) (v3 : Int32) (σ : gb_M) : j_X7_copyBin_26 j0 j1 v2 v3 σ =
  if 6 ≤ v3 then
    j_X7_copyBin_62 j0 j1 v2 0 σ
  else
    gb_gd (gb_in ((v2 * 6) + v3) 36) (gb_gd (gb_in ((v2 * 6) + v3) 36) (j_X7_copyBin_26 j0 j1 v2 (v3 + 1) (gb_si σ 18 j0 ((v2 * 6) + v3).toNatClampNeg (σ.1 18 j1 ((v2 * 6) + v3).toNatClampNeg)))) := (gb_fx_eq (L_X7_copyBin) 26 _ _ _).trans rfl
set_option maxRecDepth 20000 in
theorem e_X7_copyBin_62 (j0 : Nat) (j1 : Nat) (v2 : Int32) (v3 : Int32) (σ : gb_M) : j_X7_copyBin_62 j0 j1 v2 v3 σ =
  gb_gd (gb_in v2 6) (if σ.1 13 j1 v2.toNatClampNeg ≤ v3 then
    some (none, σ)
  else
    gb_b1 (f_X7_place [gI v2, gI v3] σ) (fun x2 s1 => gb_gd (gb_in x2 36) (gb_gd (gb_in x2 36) (gb_gd (gb_in x2 36) (gb_gd (gb_in x2 36) (gb_gd (gb_in x2 36) (gb_gd (gb_in x2 36) (j_X7_copyBin_62 j0 j1 v2 (v3 + 1) (gb_si (gb_si (gb_si s1 15 j0 x2.toNatClampNeg (s1.1 15 j1 x2.toNatClampNeg)) 16 j0 x2.toNatClampNeg ((gb_si s1 15 j0 x2.toNatClampNeg (s1.1 15 j1 x2.toNatClampNeg)).1 16 j1 x2.toNatClampNeg)) 17 j0 x2.toNatClampNeg ((gb_si (gb_si s1 15 j0 x2.toNatClampNeg (s1.1 15 j1 x2.toNatClampNeg)) 16 j0 x2.toNatClampNeg ((gb_si s1 15 j0 x2.toNatClampNeg (s1.1 15 j1 x2.toNatClampNeg)).1 16 j1 x2.toNatClampNeg)).1 17 j1 x2.toNatClampNeg)))))))))) := (gb_fx_eq (L_X7_copyBin) 62 _ _ _).trans rfl
set_option maxRecDepth 20000 in
theorem e_X7_copyBin (j0 : Nat) (j1 : Nat) (a2 : Int32) (σ : gb_M) : f_X7_copyBin [gR 10 j0, gR 10 j1, gI a2] σ =
  gb_gd (gb_in a2 6) (gb_gd (gb_in a2 6) (gb_gd (gb_in a2 6) (gb_gd (gb_in a2 6) (j_X7_copyBin_26 j0 j1 a2 0 (gb_si (gb_si σ 13 j0 a2.toNatClampNeg (σ.1 13 j1 a2.toNatClampNeg)) 14 j0 a2.toNatClampNeg ((gb_si σ 13 j0 a2.toNatClampNeg (σ.1 13 j1 a2.toNatClampNeg)).1 14 j1 a2.toNatClampNeg)))))) := (gb_hide_at _ _ _).trans rfl
noncomputable def j_X7_copy_2 (j0 : Nat) (j1 : Nat) (v2 : Int32) (σ : gb_M) : gb_R := K_X7_copy 2 [(0, gR 10 j0), (1, gR 10 j1), (2, gI v2)] [] σ
noncomputable def j_X7_copy_28 (j0 : Nat) (j1 : Nat) (v2 : Int32) (σ : gb_M) : gb_R := K_X7_copy 28 [(0, gR 10 j0), (1, gR 10 j1), (2, gI v2)] [] σ
set_option maxRecDepth 20000 in
theorem e_X7_copy_2 (j0 : Nat) (j1 : Nat) (v2 : Int32) (σ : gb_M) : j_X7_copy_2 j0 j1 v2 σ =
  if 6 ≤ v2 then
    j_X7_copy_28 j0 j1 0 σ
  else
    gb_gd (gb_in v2 6) (gb_gd (gb_in v2 6) (j_X7_copy_2 j0 j1 (v2 + 1) (gb_si σ 11 j0 v2.toNatClampNeg (σ.1 11 j1 v2.toNatClampNeg)))) := (gb_fx_eq (L_X7_copy) 2 _ _ _).trans rfl
set_option maxRecDepth 20000 in
theorem e_X7_copy_28 (j0 : Nat) (j1 : Nat) (v2 : Int32) (σ : gb_M) : j_X7_copy_28 j0 j1 v2 σ =
  if 6 ≤ v2 then
    some (none, gb_si (gb_si σ 10 j0 9 (σ.1 10 j1 9)) 10 j0 10 ((gb_si σ 10 j0 9 (σ.1 10 j1 9)).1 10 j1 10))
  else
    gb_gd (gb_in v2 6) (gb_gd (gb_in v2 6) (gb_b0 (f_X7_copyBin [gR 10 j0, gR 10 j1, gI v2] (gb_si σ 12 j0 v2.toNatClampNeg (σ.1 12 j1 v2.toNatClampNeg))) (fun s1 => j_X7_copy_28 j0 j1 (v2 + 1) s1))) := (gb_fx_eq (L_X7_copy) 28 _ _ _).trans rfl
set_option maxRecDepth 20000 in
theorem e_X7_copy (j0 : Nat) (j1 : Nat) (σ : gb_M) : f_X7_copy [gR 10 j0, gR 10 j1] σ =
  j_X7_copy_2 j0 j1 0 σ := (gb_hide_at _ _ _).trans rfl
set_option maxRecDepth 20000 in
theorem e_X3_add (j1 : Nat) (σ : gb_M) : f_X3_add [gR 19 0, gR 10 j1] σ =
  gb_gd (gb_in (σ.1 19 0 1) 8) (gb_b0 (f_X7_copy [gR 10 (2 + (σ.1 19 0 1).toNatClampNeg), gR 10 j1] σ) (fun s1 => some (none, gb_si (gb_si s1 19 0 1 (((s1.1 19 0 1) + 1) - ((s1.1 19 0 1) + 1) / 8 * 8)) 19 0 2 (if ((gb_si s1 19 0 1 (((s1.1 19 0 1) + 1) - ((s1.1 19 0 1) + 1) / 8 * 8)).1 19 0 2) + 1 < 8 then ((gb_si s1 19 0 1 (((s1.1 19 0 1) + 1) - ((s1.1 19 0 1) + 1) / 8 * 8)).1 19 0 2) + 1 else 8)))) := (gb_hide_at _ _ _).trans rfl
set_option maxRecDepth 20000 in
theorem e_X3_takeBack (j1 : Nat) (σ : gb_M) : f_X3_takeBack [gR 19 0, gR 10 j1] σ =
  if σ.1 19 0 2 = 0 then
    some (some (gI 0), σ)
  else
    gb_gd (gb_in ((gb_si σ 19 0 1 ((((σ.1 19 0 1) + 8) - 1) - (((σ.1 19 0 1) + 8) - 1) / 8 * 8)).1 19 0 1) 8) (gb_b0 (f_X7_copy [gR 10 j1, gR 10 (2 + ((gb_si σ 19 0 1 ((((σ.1 19 0 1) + 8) - 1) - (((σ.1 19 0 1) + 8) - 1) / 8 * 8)).1 19 0 1).toNatClampNeg)] (gb_si σ 19 0 1 ((((σ.1 19 0 1) + 8) - 1) - (((σ.1 19 0 1) + 8) - 1) / 8 * 8))) (fun s1 => some (some (gI 1), gb_si s1 19 0 2 ((s1.1 19 0 2) - 1)))) := (gb_hide_at _ _ _).trans rfl
set_option maxRecDepth 20000 in
theorem e_X4_start  (σ : gb_M) : f_X4_start [gR 21 0] σ =
  some (none, gb_si σ 21 0 1 0) := (gb_hide_at _ _ _).trans rfl
set_option maxRecDepth 20000 in
theorem e_X4_add (a1 : Int64) (σ : gb_M) : f_X4_add [gR 21 0, gL a1] σ =
  if 8 ≤ σ.1 21 0 1 then
    some (none, σ)
  else
    gb_gd (gb_in (σ.1 21 0 1) 8) (some (none, gb_si (gb_sl σ 22 0 (σ.1 21 0 1).toNatClampNeg a1) 21 0 1 (((gb_sl σ 22 0 (σ.1 21 0 1).toNatClampNeg a1).1 21 0 1) + 1))) := (gb_hide_at _ _ _).trans rfl
noncomputable def j_X5_copy_2 (j0 : Nat) (j1 : Nat) (v2 : Int32) (σ : gb_M) : gb_R := K_X5_copy 2 [(0, gR 3 j0), (1, gR 3 j1), (2, gI v2)] [] σ
noncomputable def j_X5_copy_52 (j0 : Nat) (j1 : Nat) (v2 : Int32) (σ : gb_M) : gb_R := K_X5_copy 52 [(0, gR 3 j0), (1, gR 3 j1), (2, gI v2)] [] σ
noncomputable def j_X5_copy_78 (j0 : Nat) (j1 : Nat) (v2 : Int32) (σ : gb_M) : gb_R := K_X5_copy 78 [(0, gR 3 j0), (1, gR 3 j1), (2, gI v2)] [] σ
set_option maxRecDepth 20000 in
theorem e_X5_copy_2 (j0 : Nat) (j1 : Nat) (v2 : Int32) (σ : gb_M) : j_X5_copy_2 j0 j1 v2 σ =
  if 6 ≤ v2 then
    j_X5_copy_52 j0 j1 0 σ
  else
    gb_gd (gb_in v2 6) (gb_gd (gb_in v2 6) (gb_gd (gb_in v2 6) (gb_gd (gb_in v2 6) (gb_gd (gb_in v2 6) (gb_gd (gb_in v2 6) (j_X5_copy_2 j0 j1 (v2 + 1) (gb_si (gb_si (gb_si σ 4 j0 v2.toNatClampNeg (σ.1 4 j1 v2.toNatClampNeg)) 5 j0 v2.toNatClampNeg ((gb_si σ 4 j0 v2.toNatClampNeg (σ.1 4 j1 v2.toNatClampNeg)).1 5 j1 v2.toNatClampNeg)) 8 j0 v2.toNatClampNeg ((gb_si (gb_si σ 4 j0 v2.toNatClampNeg (σ.1 4 j1 v2.toNatClampNeg)) 5 j0 v2.toNatClampNeg ((gb_si σ 4 j0 v2.toNatClampNeg (σ.1 4 j1 v2.toNatClampNeg)).1 5 j1 v2.toNatClampNeg)).1 8 j1 v2.toNatClampNeg)))))))) := (gb_fx_eq (L_X5_copy) 2 _ _ _).trans rfl
set_option maxRecDepth 20000 in
theorem e_X5_copy_52 (j0 : Nat) (j1 : Nat) (v2 : Int32) (σ : gb_M) : j_X5_copy_52 j0 j1 v2 σ =
  if 6 ≤ v2 then
    j_X5_copy_78 j0 j1 0 σ
  else
    gb_gd (gb_in v2 6) (gb_gd (gb_in v2 6) (j_X5_copy_52 j0 j1 (v2 + 1) (gb_si σ 6 j0 v2.toNatClampNeg (σ.1 6 j1 v2.toNatClampNeg)))) := (gb_fx_eq (L_X5_copy) 52 _ _ _).trans rfl
set_option maxRecDepth 20000 in
theorem e_X5_copy_78 (j0 : Nat) (j1 : Nat) (v2 : Int32) (σ : gb_M) : j_X5_copy_78 j0 j1 v2 σ =
  if 36 ≤ v2 then
    some (none, σ)
  else
    gb_gd (gb_in v2 36) (gb_gd (gb_in v2 36) (j_X5_copy_78 j0 j1 (v2 + 1) (gb_si σ 7 j0 v2.toNatClampNeg (σ.1 7 j1 v2.toNatClampNeg)))) := (gb_fx_eq (L_X5_copy) 78 _ _ _).trans rfl
set_option maxRecDepth 20000 in
theorem e_X5_copy (j0 : Nat) (j1 : Nat) (σ : gb_M) : f_X5_copy [gR 3 j0, gR 3 j1] σ =
  j_X5_copy_2 j0 j1 0 σ := (gb_hide_at _ _ _).trans rfl
set_option maxRecDepth 20000 in
theorem e_X5_may (j0 : Nat) (a1 : Int32) (a2 : Int32) (σ : gb_M) : f_X5_may [gR 3 j0, gI a1, gI a2] σ =
  gb_gd (gb_in a1 6) (if (σ.1 8 j0 a1.toNatClampNeg) &&& (1 <<< (a2 &&& 31)) = 0 then some (some (gI 1), σ) else some (some (gI 0), σ)) := (gb_hide_at _ _ _).trans rfl
set_option maxRecDepth 20000 in
theorem e_X5_lossOf (j0 : Nat) (a1 : Int32) (a2 : Int32) (σ : gb_M) : f_X5_lossOf [gR 3 j0, gI a1, gI a2] σ =
  gb_gd (gb_in ((a1 * 6) + a2) 36) (some (some (gI (σ.1 7 j0 ((a1 * 6) + a2).toNatClampNeg)), σ)) := (gb_hide_at _ _ _).trans rfl
noncomputable def j_X5_clear_2 (j0 : Nat) (v1 : Int32) (σ : gb_M) : gb_R := K_X5_clear 2 [(0, gR 3 j0), (1, gI v1)] [] σ
noncomputable def j_X5_clear_45 (j0 : Nat) (v1 : Int32) (σ : gb_M) : gb_R := K_X5_clear 45 [(0, gR 3 j0), (1, gI v1)] [] σ
noncomputable def j_X5_clear_66 (j0 : Nat) (v1 : Int32) (σ : gb_M) : gb_R := K_X5_clear 66 [(0, gR 3 j0), (1, gI v1)] [] σ
set_option maxRecDepth 20000 in
theorem e_X5_clear_2 (j0 : Nat) (v1 : Int32) (σ : gb_M) : j_X5_clear_2 j0 v1 σ =
  if 6 ≤ v1 then
    j_X5_clear_45 j0 0 σ
  else
    gb_gd (gb_in v1 6) (gb_gd (gb_in v1 6) (gb_gd (gb_in v1 6) (gb_gd (gb_in v1 6) (j_X5_clear_2 j0 (v1 + 1) (gb_si (gb_si (gb_si (gb_si σ 4 j0 v1.toNatClampNeg 0) 5 j0 v1.toNatClampNeg 99) 8 j0 v1.toNatClampNeg 0) 9 j0 v1.toNatClampNeg 0))))) := (gb_fx_eq (L_X5_clear) 2 _ _ _).trans rfl
set_option maxRecDepth 20000 in
theorem e_X5_clear_45 (j0 : Nat) (v1 : Int32) (σ : gb_M) : j_X5_clear_45 j0 v1 σ =
  if 6 ≤ v1 then j_X5_clear_66 j0 0 σ else gb_gd (gb_in v1 6) (j_X5_clear_45 j0 (v1 + 1) (gb_si σ 6 j0 v1.toNatClampNeg 0)) := (gb_fx_eq (L_X5_clear) 45 _ _ _).trans rfl
set_option maxRecDepth 20000 in
theorem e_X5_clear_66 (j0 : Nat) (v1 : Int32) (σ : gb_M) : j_X5_clear_66 j0 v1 σ =
  if 36 ≤ v1 then
    some (none, gb_si (gb_si σ 3 j0 6 0) 3 j0 7 0)
  else
    gb_gd (gb_in v1 36) (j_X5_clear_66 j0 (v1 + 1) (gb_si σ 7 j0 v1.toNatClampNeg 0)) := (gb_fx_eq (L_X5_clear) 66 _ _ _).trans rfl
set_option maxRecDepth 20000 in
theorem e_X5_clear (j0 : Nat) (σ : gb_M) : f_X5_clear [gR 3 j0] σ =
  j_X5_clear_2 j0 0 σ := (gb_hide_at _ _ _).trans rfl
set_option maxRecDepth 20000 in
theorem e_X5_readGrade (j0 : Nat) (σ : gb_M) : f_X5_readGrade [gR 3 j0, gR 1 0] σ =
  gb_b1 (f_X8_newNumber [gR 1 0, gI (σ.1 3 j0 6)] σ) (fun x2 s1 => if x2 < 0 then
    some (some (gI 0), s1)
  else
    gb_b1 (f_X8_takes [gR 1 0, gI 119] s1) (fun x4 s3 => if x4 = 0 then
      some (some (gI 0), s3)
    else
      gb_b1 (f_X8_number [gR 1 0, gI 0, gI 999] s3) (fun x6 s5 => if x6 < 0 then
        some (some (gI 0), s5)
      else
        gb_b1 (f_X8_takes [gR 1 0, gI 107] s5) (fun x8 s7 => if x8 = 0 then
          some (some (gI 0), s7)
        else
          gb_b1 (f_X8_number [gR 1 0, gI 0, gI 99] s7) (fun x10 s9 => if 0 ≤ x10 then
            gb_gd (gb_in x2 6) (gb_gd (gb_in x2 6) (some (some (gI 1), gb_si (gb_si (gb_si s9 4 j0 x2.toNatClampNeg x6) 5 j0 x2.toNatClampNeg x10) 3 j0 6 (((gb_si (gb_si s9 4 j0 x2.toNatClampNeg x6) 5 j0 x2.toNatClampNeg x10).1 3 j0 6) ||| (1 <<< (x2 &&& 31))))))
          else
            some (some (gI 0), s9)))))) := (gb_hide_at _ _ _).trans rfl
set_option maxRecDepth 20000 in
theorem e_X5_readBin (j0 : Nat) (σ : gb_M) : f_X5_readBin [gR 3 j0, gR 1 0] σ =
  gb_b1 (f_X8_newNumber [gR 1 0, gI (σ.1 3 j0 7)] σ) (fun x2 s1 => if x2 < 0 then
    some (some (gI 0), s1)
  else
    gb_b1 (f_X8_takes [gR 1 0, gI 99] s1) (fun x4 s3 => if x4 = 0 then
      some (some (gI 0), s3)
    else
      gb_b1 (f_X8_number [gR 1 0, gI 0, gI 99] s3) (fun x6 s5 => if 0 ≤ x6 then
        gb_gd (gb_in x2 6) (some (some (gI 1), gb_si (gb_si s5 6 j0 x2.toNatClampNeg x6) 3 j0 7 (((gb_si s5 6 j0 x2.toNatClampNeg x6).1 3 j0 7) ||| (1 <<< (x2 &&& 31)))))
      else
        some (some (gI 0), s5)))) := (gb_hide_at _ _ _).trans rfl
set_option maxRecDepth 20000 in
theorem e_X5_readPair (j0 : Nat) (a2 : Int32) (σ : gb_M) : f_X5_readPair [gR 3 j0, gR 1 0, gI a2] σ =
  gb_b1 (f_X8_newNumber [gR 1 0, gI 0] σ) (fun x2 s1 => if 0 ≤ x2 then
    gb_gd (gb_in x2 6) (gb_b1 (f_X8_newNumber [gR 1 0, gI ((s1.1 9 j0 x2.toNatClampNeg) ||| (1 <<< (x2 &&& 31)))] s1) (fun x4 s3 => if 0 ≤ x4 then
      if a2 = 0 then
        if 0 ≤ 0 then
          gb_gd (gb_in ((x2 * 6) + x4) 36) (gb_gd (gb_in ((x4 * 6) + x2) 36) (gb_gd (gb_in x2 6) (gb_gd (gb_in x2 6) (gb_gd (gb_in x4 6) (gb_gd (gb_in x4 6) (if a2 = 0 then
            gb_gd (gb_in x2 6) (gb_gd (gb_in x2 6) (gb_gd (gb_in x4 6) (gb_gd (gb_in x4 6) (some (some (gI 1), gb_si (gb_si (gb_si (gb_si (gb_si (gb_si s3 7 j0 ((x2 * 6) + x4).toNatClampNeg 0) 7 j0 ((x4 * 6) + x2).toNatClampNeg 0) 9 j0 x2.toNatClampNeg (((gb_si (gb_si s3 7 j0 ((x2 * 6) + x4).toNatClampNeg 0) 7 j0 ((x4 * 6) + x2).toNatClampNeg 0).1 9 j0 x2.toNatClampNeg) ||| (1 <<< (x4 &&& 31)))) 9 j0 x4.toNatClampNeg (((gb_si (gb_si (gb_si s3 7 j0 ((x2 * 6) + x4).toNatClampNeg 0) 7 j0 ((x4 * 6) + x2).toNatClampNeg 0) 9 j0 x2.toNatClampNeg (((gb_si (gb_si s3 7 j0 ((x2 * 6) + x4).toNatClampNeg 0) 7 j0 ((x4 * 6) + x2).toNatClampNeg 0).1 9 j0 x2.toNatClampNeg) ||| (1 <<< (x4 &&& 31)))).1 9 j0 x4.toNatClampNeg) ||| (1 <<< (x2 &&& 31)))) 8 j0 x2.toNatClampNeg (((gb_si (gb_si (gb_si (gb_si s3 7 j0 ((x2 * 6) + x4).toNatClampNeg 0) 7 j0 ((x4 * 6) + x2).toNatClampNeg 0) 9 j0 x2.toNatClampNeg (((gb_si (gb_si s3 7 j0 ((x2 * 6) + x4).toNatClampNeg 0) 7 j0 ((x4 * 6) + x2).toNatClampNeg 0).1 9 j0 x2.toNatClampNeg) ||| (1 <<< (x4 &&& 31)))) 9 j0 x4.toNatClampNeg (((gb_si (gb_si (gb_si s3 7 j0 ((x2 * 6) + x4).toNatClampNeg 0) 7 j0 ((x4 * 6) + x2).toNatClampNeg 0) 9 j0 x2.toNatClampNeg (((gb_si (gb_si s3 7 j0 ((x2 * 6) + x4).toNatClampNeg 0) 7 j0 ((x4 * 6) + x2).toNatClampNeg 0).1 9 j0 x2.toNatClampNeg) ||| (1 <<< (x4 &&& 31)))).1 9 j0 x4.toNatClampNeg) ||| (1 <<< (x2 &&& 31)))).1 8 j0 x2.toNatClampNeg) ||| (1 <<< (x4 &&& 31)))) 8 j0 x4.toNatClampNeg (((gb_si (gb_si (gb_si (gb_si (gb_si s3 7 j0 ((x2 * 6) + x4).toNatClampNeg 0) 7 j0 ((x4 * 6) + x2).toNatClampNeg 0) 9 j0 x2.toNatClampNeg (((gb_si (gb_si s3 7 j0 ((x2 * 6) + x4).toNatClampNeg 0) 7 j0 ((x4 * 6) + x2).toNatClampNeg 0).1 9 j0 x2.toNatClampNeg) ||| (1 <<< (x4 &&& 31)))) 9 j0 x4.toNatClampNeg (((gb_si (gb_si (gb_si s3 7 j0 ((x2 * 6) + x4).toNatClampNeg 0) 7 j0 ((x4 * 6) + x2).toNatClampNeg 0) 9 j0 x2.toNatClampNeg (((gb_si (gb_si s3 7 j0 ((x2 * 6) + x4).toNatClampNeg 0) 7 j0 ((x4 * 6) + x2).toNatClampNeg 0).1 9 j0 x2.toNatClampNeg) ||| (1 <<< (x4 &&& 31)))).1 9 j0 x4.toNatClampNeg) ||| (1 <<< (x2 &&& 31)))) 8 j0 x2.toNatClampNeg (((gb_si (gb_si (gb_si (gb_si s3 7 j0 ((x2 * 6) + x4).toNatClampNeg 0) 7 j0 ((x4 * 6) + x2).toNatClampNeg 0) 9 j0 x2.toNatClampNeg (((gb_si (gb_si s3 7 j0 ((x2 * 6) + x4).toNatClampNeg 0) 7 j0 ((x4 * 6) + x2).toNatClampNeg 0).1 9 j0 x2.toNatClampNeg) ||| (1 <<< (x4 &&& 31)))) 9 j0 x4.toNatClampNeg (((gb_si (gb_si (gb_si s3 7 j0 ((x2 * 6) + x4).toNatClampNeg 0) 7 j0 ((x4 * 6) + x2).toNatClampNeg 0) 9 j0 x2.toNatClampNeg (((gb_si (gb_si s3 7 j0 ((x2 * 6) + x4).toNatClampNeg 0) 7 j0 ((x4 * 6) + x2).toNatClampNeg 0).1 9 j0 x2.toNatClampNeg) ||| (1 <<< (x4 &&& 31)))).1 9 j0 x4.toNatClampNeg) ||| (1 <<< (x2 &&& 31)))).1 8 j0 x2.toNatClampNeg) ||| (1 <<< (x4 &&& 31)))).1 8 j0 x4.toNatClampNeg) ||| (1 <<< (x2 &&& 31))))))))
          else
            some (some (gI 1), gb_si (gb_si (gb_si (gb_si s3 7 j0 ((x2 * 6) + x4).toNatClampNeg 0) 7 j0 ((x4 * 6) + x2).toNatClampNeg 0) 9 j0 x2.toNatClampNeg (((gb_si (gb_si s3 7 j0 ((x2 * 6) + x4).toNatClampNeg 0) 7 j0 ((x4 * 6) + x2).toNatClampNeg 0).1 9 j0 x2.toNatClampNeg) ||| (1 <<< (x4 &&& 31)))) 9 j0 x4.toNatClampNeg (((gb_si (gb_si (gb_si s3 7 j0 ((x2 * 6) + x4).toNatClampNeg 0) 7 j0 ((x4 * 6) + x2).toNatClampNeg 0) 9 j0 x2.toNatClampNeg (((gb_si (gb_si s3 7 j0 ((x2 * 6) + x4).toNatClampNeg 0) 7 j0 ((x4 * 6) + x2).toNatClampNeg 0).1 9 j0 x2.toNatClampNeg) ||| (1 <<< (x4 &&& 31)))).1 9 j0 x4.toNatClampNeg) ||| (1 <<< (x2 &&& 31))))))))))
        else
          some (some (gI 0), s3)
      else
        gb_b1 (f_X8_number [gR 1 0, gI 1, gI 99] s3) (fun x6 s5 => if 0 ≤ x6 then
          gb_gd (gb_in ((x2 * 6) + x4) 36) (gb_gd (gb_in ((x4 * 6) + x2) 36) (gb_gd (gb_in x2 6) (gb_gd (gb_in x2 6) (gb_gd (gb_in x4 6) (gb_gd (gb_in x4 6) (if a2 = 0 then
            gb_gd (gb_in x2 6) (gb_gd (gb_in x2 6) (gb_gd (gb_in x4 6) (gb_gd (gb_in x4 6) (some (some (gI 1), gb_si (gb_si (gb_si (gb_si (gb_si (gb_si s5 7 j0 ((x2 * 6) + x4).toNatClampNeg x6) 7 j0 ((x4 * 6) + x2).toNatClampNeg x6) 9 j0 x2.toNatClampNeg (((gb_si (gb_si s5 7 j0 ((x2 * 6) + x4).toNatClampNeg x6) 7 j0 ((x4 * 6) + x2).toNatClampNeg x6).1 9 j0 x2.toNatClampNeg) ||| (1 <<< (x4 &&& 31)))) 9 j0 x4.toNatClampNeg (((gb_si (gb_si (gb_si s5 7 j0 ((x2 * 6) + x4).toNatClampNeg x6) 7 j0 ((x4 * 6) + x2).toNatClampNeg x6) 9 j0 x2.toNatClampNeg (((gb_si (gb_si s5 7 j0 ((x2 * 6) + x4).toNatClampNeg x6) 7 j0 ((x4 * 6) + x2).toNatClampNeg x6).1 9 j0 x2.toNatClampNeg) ||| (1 <<< (x4 &&& 31)))).1 9 j0 x4.toNatClampNeg) ||| (1 <<< (x2 &&& 31)))) 8 j0 x2.toNatClampNeg (((gb_si (gb_si (gb_si (gb_si s5 7 j0 ((x2 * 6) + x4).toNatClampNeg x6) 7 j0 ((x4 * 6) + x2).toNatClampNeg x6) 9 j0 x2.toNatClampNeg (((gb_si (gb_si s5 7 j0 ((x2 * 6) + x4).toNatClampNeg x6) 7 j0 ((x4 * 6) + x2).toNatClampNeg x6).1 9 j0 x2.toNatClampNeg) ||| (1 <<< (x4 &&& 31)))) 9 j0 x4.toNatClampNeg (((gb_si (gb_si (gb_si s5 7 j0 ((x2 * 6) + x4).toNatClampNeg x6) 7 j0 ((x4 * 6) + x2).toNatClampNeg x6) 9 j0 x2.toNatClampNeg (((gb_si (gb_si s5 7 j0 ((x2 * 6) + x4).toNatClampNeg x6) 7 j0 ((x4 * 6) + x2).toNatClampNeg x6).1 9 j0 x2.toNatClampNeg) ||| (1 <<< (x4 &&& 31)))).1 9 j0 x4.toNatClampNeg) ||| (1 <<< (x2 &&& 31)))).1 8 j0 x2.toNatClampNeg) ||| (1 <<< (x4 &&& 31)))) 8 j0 x4.toNatClampNeg (((gb_si (gb_si (gb_si (gb_si (gb_si s5 7 j0 ((x2 * 6) + x4).toNatClampNeg x6) 7 j0 ((x4 * 6) + x2).toNatClampNeg x6) 9 j0 x2.toNatClampNeg (((gb_si (gb_si s5 7 j0 ((x2 * 6) + x4).toNatClampNeg x6) 7 j0 ((x4 * 6) + x2).toNatClampNeg x6).1 9 j0 x2.toNatClampNeg) ||| (1 <<< (x4 &&& 31)))) 9 j0 x4.toNatClampNeg (((gb_si (gb_si (gb_si s5 7 j0 ((x2 * 6) + x4).toNatClampNeg x6) 7 j0 ((x4 * 6) + x2).toNatClampNeg x6) 9 j0 x2.toNatClampNeg (((gb_si (gb_si s5 7 j0 ((x2 * 6) + x4).toNatClampNeg x6) 7 j0 ((x4 * 6) + x2).toNatClampNeg x6).1 9 j0 x2.toNatClampNeg) ||| (1 <<< (x4 &&& 31)))).1 9 j0 x4.toNatClampNeg) ||| (1 <<< (x2 &&& 31)))) 8 j0 x2.toNatClampNeg (((gb_si (gb_si (gb_si (gb_si s5 7 j0 ((x2 * 6) + x4).toNatClampNeg x6) 7 j0 ((x4 * 6) + x2).toNatClampNeg x6) 9 j0 x2.toNatClampNeg (((gb_si (gb_si s5 7 j0 ((x2 * 6) + x4).toNatClampNeg x6) 7 j0 ((x4 * 6) + x2).toNatClampNeg x6).1 9 j0 x2.toNatClampNeg) ||| (1 <<< (x4 &&& 31)))) 9 j0 x4.toNatClampNeg (((gb_si (gb_si (gb_si s5 7 j0 ((x2 * 6) + x4).toNatClampNeg x6) 7 j0 ((x4 * 6) + x2).toNatClampNeg x6) 9 j0 x2.toNatClampNeg (((gb_si (gb_si s5 7 j0 ((x2 * 6) + x4).toNatClampNeg x6) 7 j0 ((x4 * 6) + x2).toNatClampNeg x6).1 9 j0 x2.toNatClampNeg) ||| (1 <<< (x4 &&& 31)))).1 9 j0 x4.toNatClampNeg) ||| (1 <<< (x2 &&& 31)))).1 8 j0 x2.toNatClampNeg) ||| (1 <<< (x4 &&& 31)))).1 8 j0 x4.toNatClampNeg) ||| (1 <<< (x2 &&& 31))))))))
          else
            some (some (gI 1), gb_si (gb_si (gb_si (gb_si s5 7 j0 ((x2 * 6) + x4).toNatClampNeg x6) 7 j0 ((x4 * 6) + x2).toNatClampNeg x6) 9 j0 x2.toNatClampNeg (((gb_si (gb_si s5 7 j0 ((x2 * 6) + x4).toNatClampNeg x6) 7 j0 ((x4 * 6) + x2).toNatClampNeg x6).1 9 j0 x2.toNatClampNeg) ||| (1 <<< (x4 &&& 31)))) 9 j0 x4.toNatClampNeg (((gb_si (gb_si (gb_si s5 7 j0 ((x2 * 6) + x4).toNatClampNeg x6) 7 j0 ((x4 * 6) + x2).toNatClampNeg x6) 9 j0 x2.toNatClampNeg (((gb_si (gb_si s5 7 j0 ((x2 * 6) + x4).toNatClampNeg x6) 7 j0 ((x4 * 6) + x2).toNatClampNeg x6).1 9 j0 x2.toNatClampNeg) ||| (1 <<< (x4 &&& 31)))).1 9 j0 x4.toNatClampNeg) ||| (1 <<< (x2 &&& 31))))))))))
        else
          some (some (gI 0), s5))
    else
      some (some (gI 0), s3)))
  else
    some (some (gI 0), s1)) := (gb_hide_at _ _ _).trans rfl
set_option maxRecDepth 20000 in
theorem e_X5_readLine (j0 : Nat) (σ : gb_M) : f_X5_readLine [gR 3 j0, gR 1 0] σ =
  gb_b1 (f_X8_takes [gR 1 0, gI 103] σ) (fun x2 s1 => if x2 = 0 then
    gb_b1 (f_X8_takes [gR 1 0, gI 98] s1) (fun x4 s3 => if x4 = 0 then
      gb_b1 (f_X8_takes [gR 1 0, gI 108] s3) (fun x6 s5 => if x6 = 0 then
        gb_b1 (f_X8_takes [gR 1 0, gI 120] s5) (fun x8 s7 => if x8 = 0 then
          some (some (gI 0), s7)
        else
          gb_b1 (f_X5_readPair [gR 3 j0, gR 1 0, gI 0] s7) (fun x10 s9 => if x10 = 0 then some (some (gI 0), s9) else some (some (gI 1), s9)))
      else
        gb_b1 (f_X5_readPair [gR 3 j0, gR 1 0, gI 1] s5) (fun x12 s11 => gb_gd (decide (x12 &&& 1 = x12)) (some (some (gI x12), s11))))
    else
      gb_b1 (f_X5_readBin [gR 3 j0, gR 1 0] s3) (fun x14 s13 => gb_gd (decide (x14 &&& 1 = x14)) (some (some (gI x14), s13))))
  else
    gb_b1 (f_X5_readGrade [gR 3 j0, gR 1 0] s1) (fun x16 s15 => gb_gd (decide (x16 &&& 1 = x16)) (some (some (gI x16), s15)))) := (gb_hide_at _ _ _).trans rfl
