/-! DEC: the blocks as equations, printed by wip/whole/dec.py -/
set_option maxRecDepth 20000 in
theorem e_X10_counts (a1 : Int32) (σ : gb_M) : f_X10_counts [gR 36 0, gI a1] σ =
  gb_gd (gb_in 175 176) (gb_gd (gb_in 175 176) (some (none, gb_si σ 37 0 (175 : Int32).toNatClampNeg ((if ((σ.1 37 0 (175 : Int32).toNatClampNeg).toInt64) + a1.toInt64 < 2000000000 then ((σ.1 37 0 (175 : Int32).toNatClampNeg).toInt64) + a1.toInt64 else 2000000000).toInt32)))) := (gb_hide_at _ _ _).trans rfl
set_option maxRecDepth 20000 in
theorem e_X10_begin  (σ : gb_M) : f_X10_begin [gR 36 0] σ =
  some (none, gb_si (gb_si (gb_si (gb_si σ 36 0 16 (σ.1 36 0 7)) 36 0 7 0) 36 0 17 0) 36 0 18 (-1)) := (gb_hide_at _ _ _).trans rfl
set_option maxRecDepth 20000 in
theorem e_X10_sees  (σ : gb_M) : f_X10_sees [gR 36 0] σ =
  if σ.1 36 0 16 ≤ σ.1 36 0 17 then
    some (some (gI (-1)), σ)
  else
    gb_gd (gb_in (σ.1 36 0 17) 200) (some (some (gI ((σ.1 41 0 (σ.1 36 0 17).toNatClampNeg) &&& 255)), σ)) := (gb_hide_at _ _ _).trans rfl
set_option maxRecDepth 20000 in
theorem e_X10_fault (a1 : Int32) (σ : gb_M) : f_X10_fault [gR 36 0, gI a1] σ =
  if σ.1 36 0 18 = (-1) then some (none, gb_si σ 36 0 18 a1) else some (none, σ) := (gb_hide_at _ _ _).trans rfl
set_option maxRecDepth 20000 in
theorem e_X10_expect (a1 : Int32) (σ : gb_M) : f_X10_expect [gR 36 0, gI a1] σ =
  if σ.1 36 0 18 = (-1) then
    gb_b1 (f_X10_sees [gR 36 0] σ) (fun x2 s1 => if x2 = a1 then
      some (none, gb_si s1 36 0 17 ((s1.1 36 0 17) + 1))
    else
      gb_b0 (f_X10_fault [gR 36 0, gI (s1.1 36 0 17)] s1) (fun s3 => some (none, s3)))
  else
    some (none, σ) := (gb_hide_at _ _ _).trans rfl
set_option maxRecDepth 20000 in
theorem e_X10_gradeSign  (σ : gb_M) : f_X10_gradeSign [gR 36 0] σ =
  if σ.1 36 0 18 = (-1) then
    gb_b1 (f_X10_sees [gR 36 0] σ) (fun x2 s1 => gb_b1 (f_X10_in [gL x2.toInt64, gL 48, gL 53] s1) (fun x4 s3 => if x4 = 0 then
      gb_b0 (f_X10_fault [gR 36 0, gI (s3.1 36 0 17)] s3) (fun s5 => some (some (gI 0), s5))
    else
      gb_gd (gb_in (((gb_si s3 36 0 17 ((s3.1 36 0 17) + 1)).1 36 0 17) - 1) 200) (some (some (gI (((gb_si s3 36 0 17 ((s3.1 36 0 17) + 1)).1 41 0 (((gb_si s3 36 0 17 ((s3.1 36 0 17) + 1)).1 36 0 17) - 1).toNatClampNeg) - 48)), gb_si s3 36 0 17 ((s3.1 36 0 17) + 1)))))
  else
    some (some (gI 0), σ) := (gb_hide_at _ _ _).trans rfl
noncomputable def j_X10_number_16 (v1 : Int32) (v2 : Int32) (v3 : Int32) (v4 : Int32) (v5 : Int32) (σ : gb_M) : gb_R := K_X10_number 16 [(0, gR 36 0), (1, gI v1), (2, gI v2), (3, gI v3), (4, gI v4), (5, gI v5)] [] σ
set_option maxRecDepth 20000 in
theorem e_X10_number_16 (v1 : Int32) (v2 : Int32) (v3 : Int32) (v4 : Int32) (v5 : Int32) (σ : gb_M) : j_X10_number_16 v1 v2 v3 v4 v5 σ =
  if v3 ≤ v5 then
    if v5 = 0 then
      gb_b0 (f_X10_fault [gR 36 0, gI (σ.1 36 0 17)] σ) (fun s1 => some (some (gI v4), s1))
    else
      gb_b1 (f_X10_in [gL v4.toInt64, gL v1.toInt64, gL v2.toInt64] σ) (fun x3 s2 => if x3 = 0 then gb_b0 (f_X10_fault [gR 36 0, gI ((s2.1 36 0 17) - 1)] s2) (fun s4 => some (some (gI v4), s4)) else some (some (gI v4), s2))
  else
    if v5 = 0 then
      gb_b1 (f_X10_sees [gR 36 0] σ) (fun x6 s5 => gb_b1 (f_X10_in [gL x6.toInt64, gL 48, gL 57] s5) (fun x8 s7 => if x8 = 0 then
        if v5 = 0 then
          gb_b0 (f_X10_fault [gR 36 0, gI (s7.1 36 0 17)] s7) (fun s9 => some (some (gI v4), s9))
        else
          gb_b1 (f_X10_in [gL v4.toInt64, gL v1.toInt64, gL v2.toInt64] s7) (fun x11 s10 => if x11 = 0 then
            gb_b0 (f_X10_fault [gR 36 0, gI ((s10.1 36 0 17) - 1)] s10) (fun s12 => some (some (gI v4), s12))
          else
            some (some (gI v4), s10))
      else
        gb_b1 (f_X10_sees [gR 36 0] s7) (fun x14 s13 => j_X10_number_16 v1 v2 v3 (((10 * v4) + x14) - 48) (v5 + 1) (gb_si s13 36 0 17 ((s13.1 36 0 17) + 1)))))
    else
      if v4 ≤ 0 then
        if v5 = 0 then
          gb_b0 (f_X10_fault [gR 36 0, gI (σ.1 36 0 17)] σ) (fun s15 => some (some (gI v4), s15))
        else
          gb_b1 (f_X10_in [gL v4.toInt64, gL v1.toInt64, gL v2.toInt64] σ) (fun x17 s16 => if x17 = 0 then
            gb_b0 (f_X10_fault [gR 36 0, gI ((s16.1 36 0 17) - 1)] s16) (fun s18 => some (some (gI v4), s18))
          else
            some (some (gI v4), s16))
      else
        gb_b1 (f_X10_sees [gR 36 0] σ) (fun x20 s19 => gb_b1 (f_X10_in [gL x20.toInt64, gL 48, gL 57] s19) (fun x22 s21 => if x22 = 0 then
          if v5 = 0 then
            gb_b0 (f_X10_fault [gR 36 0, gI (s21.1 36 0 17)] s21) (fun s23 => some (some (gI v4), s23))
          else
            gb_b1 (f_X10_in [gL v4.toInt64, gL v1.toInt64, gL v2.toInt64] s21) (fun x25 s24 => if x25 = 0 then
              gb_b0 (f_X10_fault [gR 36 0, gI ((s24.1 36 0 17) - 1)] s24) (fun s26 => some (some (gI v4), s26))
            else
              some (some (gI v4), s24))
        else
          gb_b1 (f_X10_sees [gR 36 0] s21) (fun x28 s27 => j_X10_number_16 v1 v2 v3 (((10 * v4) + x28) - 48) (v5 + 1) (gb_si s27 36 0 17 ((s27.1 36 0 17) + 1))))) := (gb_fx_eq (L_X10_number) 16 _ _ _).trans rfl
set_option maxRecDepth 20000 in
theorem e_X10_number (a1 : Int32) (a2 : Int32) (a3 : Int32) (σ : gb_M) : f_X10_number [gR 36 0, gI a1, gI a2, gI a3] σ =
  if σ.1 36 0 18 = (-1) then j_X10_number_16 a1 a2 a3 0 0 σ else some (some (gI a1), σ) := (gb_hide_at _ _ _).trans rfl
set_option maxRecDepth 20000 in
theorem e_X10_readsGrade  (σ : gb_M) : f_X10_readsGrade [gR 36 0] σ =
  gb_b1 (f_X10_gradeSign [gR 36 0] σ) (fun x2 s1 => if s1.1 36 0 18 = (-1) then
    if ((s1.1 36 0 19) >>> (x2 &&& 31)) &&& 1 = 1 then
      gb_b0 (f_X10_fault [gR 36 0, gI ((s1.1 36 0 17) - 1)] s1) (fun s3 => gb_b0 (f_X10_expect [gR 36 0, gI 119] s3) (fun s4 => gb_b1 (f_X10_number [gR 36 0, gI 0, gI 999, gI 3] s4) (fun x6 s5 => gb_b0 (f_X10_expect [gR 36 0, gI 107] s5) (fun s7 => gb_b1 (f_X10_number [gR 36 0, gI 0, gI 99, gI 2] s7) (fun x9 s8 => gb_gd (gb_in (0 + x2) 54) (gb_gd (gb_in (6 + x2) 54) (some (none, gb_si (gb_si (gb_si s8 36 0 19 ((s8.1 36 0 19) ||| (1 <<< (x2 &&& 31)))) 46 0 (0 + x2).toNatClampNeg x6) 46 0 (6 + x2).toNatClampNeg x9))))))))
    else
      gb_b0 (f_X10_expect [gR 36 0, gI 119] s1) (fun s10 => gb_b1 (f_X10_number [gR 36 0, gI 0, gI 999, gI 3] s10) (fun x12 s11 => gb_b0 (f_X10_expect [gR 36 0, gI 107] s11) (fun s13 => gb_b1 (f_X10_number [gR 36 0, gI 0, gI 99, gI 2] s13) (fun x15 s14 => gb_gd (gb_in (0 + x2) 54) (gb_gd (gb_in (6 + x2) 54) (some (none, gb_si (gb_si (gb_si s14 36 0 19 ((s14.1 36 0 19) ||| (1 <<< (x2 &&& 31)))) 46 0 (0 + x2).toNatClampNeg x12) 46 0 (6 + x2).toNatClampNeg x15)))))))
  else
    gb_b0 (f_X10_expect [gR 36 0, gI 119] s1) (fun s16 => gb_b1 (f_X10_number [gR 36 0, gI 0, gI 999, gI 3] s16) (fun x18 s17 => gb_b0 (f_X10_expect [gR 36 0, gI 107] s17) (fun s19 => gb_b1 (f_X10_number [gR 36 0, gI 0, gI 99, gI 2] s19) (fun x21 s20 => gb_gd (gb_in (0 + x2) 54) (gb_gd (gb_in (6 + x2) 54) (some (none, gb_si (gb_si (gb_si s20 36 0 19 ((s20.1 36 0 19) ||| (1 <<< (x2 &&& 31)))) 46 0 (0 + x2).toNatClampNeg x18) 46 0 (6 + x2).toNatClampNeg x21)))))))) := (gb_hide_at _ _ _).trans rfl
set_option maxRecDepth 20000 in
theorem e_X10_readsBin  (σ : gb_M) : f_X10_readsBin [gR 36 0] σ =
  gb_b1 (f_X10_gradeSign [gR 36 0] σ) (fun x2 s1 => if s1.1 36 0 18 = (-1) then
    if ((s1.1 36 0 20) >>> (x2 &&& 31)) &&& 1 = 1 then
      gb_b0 (f_X10_fault [gR 36 0, gI ((s1.1 36 0 17) - 1)] s1) (fun s3 => gb_b0 (f_X10_expect [gR 36 0, gI 99] s3) (fun s4 => gb_b1 (f_X10_number [gR 36 0, gI 0, gI 99, gI 2] s4) (fun x6 s5 => gb_gd (gb_in (48 + x2) 54) (some (none, gb_si (gb_si s5 36 0 20 ((s5.1 36 0 20) ||| (1 <<< (x2 &&& 31)))) 46 0 (48 + x2).toNatClampNeg x6)))))
    else
      gb_b0 (f_X10_expect [gR 36 0, gI 99] s1) (fun s7 => gb_b1 (f_X10_number [gR 36 0, gI 0, gI 99, gI 2] s7) (fun x9 s8 => gb_gd (gb_in (48 + x2) 54) (some (none, gb_si (gb_si s8 36 0 20 ((s8.1 36 0 20) ||| (1 <<< (x2 &&& 31)))) 46 0 (48 + x2).toNatClampNeg x9))))
  else
    gb_b0 (f_X10_expect [gR 36 0, gI 99] s1) (fun s10 => gb_b1 (f_X10_number [gR 36 0, gI 0, gI 99, gI 2] s10) (fun x12 s11 => gb_gd (gb_in (48 + x2) 54) (some (none, gb_si (gb_si s11 36 0 20 ((s11.1 36 0 20) ||| (1 <<< (x2 &&& 31)))) 46 0 (48 + x2).toNatClampNeg x12))))) := (gb_hide_at _ _ _).trans rfl
set_option maxRecDepth 20000 in
theorem e_X10_readsPair (a1 : Int32) (σ : gb_M) : f_X10_readsPair [gR 36 0, gI a1] σ =
  gb_b1 (f_X10_gradeSign [gR 36 0] σ) (fun x2 s1 => gb_b1 (f_X10_gradeSign [gR 36 0] s1) (fun x4 s3 => if s3.1 36 0 18 = (-1) then
    if x2 = x4 then
      gb_b0 (f_X10_fault [gR 36 0, gI ((s3.1 36 0 17) - 1)] s3) (fun s5 => if a1 = 0 then
        gb_b1 (f_X10_number [gR 36 0, gI 1, gI 99, gI 2] s5) (fun x7 s6 => if s6.1 36 0 18 = (-1) then
          gb_gd (gb_in ((12 + (6 * x2)) + x4) 54) (gb_gd (gb_in ((12 + (6 * x4)) + x2) 54) (some (none, gb_si (gb_si (gb_sl s6 36 0 21 ((s6.2 36 0 21) ||| (1 <<< (((6 * (if x4 < x2 then x4 else x2)) + (if x2 < x4 then x4 else x2)).toInt64 &&& 63)))) 46 0 ((12 + (6 * x2)) + x4).toNatClampNeg x7) 46 0 ((12 + (6 * x4)) + x2).toNatClampNeg x7)))
        else
          some (none, s6))
      else
        if s5.1 36 0 18 = (-1) then
          gb_gd (gb_in ((12 + (6 * x2)) + x4) 54) (gb_gd (gb_in ((12 + (6 * x4)) + x2) 54) (some (none, gb_si (gb_si (gb_sl s5 36 0 21 ((s5.2 36 0 21) ||| (1 <<< (((6 * (if x4 < x2 then x4 else x2)) + (if x2 < x4 then x4 else x2)).toInt64 &&& 63)))) 46 0 ((12 + (6 * x2)) + x4).toNatClampNeg (-1)) 46 0 ((12 + (6 * x4)) + x2).toNatClampNeg (-1))))
        else
          some (none, s5))
    else
      if lg_cmp (((s3.2 36 0 21) >>> (((6 * (if x4 < x2 then x4 else x2)) + (if x2 < x4 then x4 else x2)).toInt64 &&& 63)) &&& 1) 1 = 0 then
        gb_b0 (f_X10_fault [gR 36 0, gI ((s3.1 36 0 17) - 1)] s3) (fun s8 => if a1 = 0 then
          gb_b1 (f_X10_number [gR 36 0, gI 1, gI 99, gI 2] s8) (fun x10 s9 => if s9.1 36 0 18 = (-1) then
            gb_gd (gb_in ((12 + (6 * x2)) + x4) 54) (gb_gd (gb_in ((12 + (6 * x4)) + x2) 54) (some (none, gb_si (gb_si (gb_sl s9 36 0 21 ((s9.2 36 0 21) ||| (1 <<< (((6 * (if x4 < x2 then x4 else x2)) + (if x2 < x4 then x4 else x2)).toInt64 &&& 63)))) 46 0 ((12 + (6 * x2)) + x4).toNatClampNeg x10) 46 0 ((12 + (6 * x4)) + x2).toNatClampNeg x10)))
          else
            some (none, s9))
        else
          if s8.1 36 0 18 = (-1) then
            gb_gd (gb_in ((12 + (6 * x2)) + x4) 54) (gb_gd (gb_in ((12 + (6 * x4)) + x2) 54) (some (none, gb_si (gb_si (gb_sl s8 36 0 21 ((s8.2 36 0 21) ||| (1 <<< (((6 * (if x4 < x2 then x4 else x2)) + (if x2 < x4 then x4 else x2)).toInt64 &&& 63)))) 46 0 ((12 + (6 * x2)) + x4).toNatClampNeg (-1)) 46 0 ((12 + (6 * x4)) + x2).toNatClampNeg (-1))))
          else
            some (none, s8))
      else
        if a1 = 0 then
          gb_b1 (f_X10_number [gR 36 0, gI 1, gI 99, gI 2] s3) (fun x12 s11 => if s11.1 36 0 18 = (-1) then
            gb_gd (gb_in ((12 + (6 * x2)) + x4) 54) (gb_gd (gb_in ((12 + (6 * x4)) + x2) 54) (some (none, gb_si (gb_si (gb_sl s11 36 0 21 ((s11.2 36 0 21) ||| (1 <<< (((6 * (if x4 < x2 then x4 else x2)) + (if x2 < x4 then x4 else x2)).toInt64 &&& 63)))) 46 0 ((12 + (6 * x2)) + x4).toNatClampNeg x12) 46 0 ((12 + (6 * x4)) + x2).toNatClampNeg x12)))
          else
            some (none, s11))
        else
          if s3.1 36 0 18 = (-1) then
            gb_gd (gb_in ((12 + (6 * x2)) + x4) 54) (gb_gd (gb_in ((12 + (6 * x4)) + x2) 54) (some (none, gb_si (gb_si (gb_sl s3 36 0 21 ((s3.2 36 0 21) ||| (1 <<< (((6 * (if x4 < x2 then x4 else x2)) + (if x2 < x4 then x4 else x2)).toInt64 &&& 63)))) 46 0 ((12 + (6 * x2)) + x4).toNatClampNeg (-1)) 46 0 ((12 + (6 * x4)) + x2).toNatClampNeg (-1))))
          else
            some (none, s3)
  else
    if a1 = 0 then
      gb_b1 (f_X10_number [gR 36 0, gI 1, gI 99, gI 2] s3) (fun x14 s13 => if s13.1 36 0 18 = (-1) then
        gb_gd (gb_in ((12 + (6 * x2)) + x4) 54) (gb_gd (gb_in ((12 + (6 * x4)) + x2) 54) (some (none, gb_si (gb_si (gb_sl s13 36 0 21 ((s13.2 36 0 21) ||| (1 <<< (((6 * (if x4 < x2 then x4 else x2)) + (if x2 < x4 then x4 else x2)).toInt64 &&& 63)))) 46 0 ((12 + (6 * x2)) + x4).toNatClampNeg x14) 46 0 ((12 + (6 * x4)) + x2).toNatClampNeg x14)))
      else
        some (none, s13))
    else
      if s3.1 36 0 18 = (-1) then
        gb_gd (gb_in ((12 + (6 * x2)) + x4) 54) (gb_gd (gb_in ((12 + (6 * x4)) + x2) 54) (some (none, gb_si (gb_si (gb_sl s3 36 0 21 ((s3.2 36 0 21) ||| (1 <<< (((6 * (if x4 < x2 then x4 else x2)) + (if x2 < x4 then x4 else x2)).toInt64 &&& 63)))) 46 0 ((12 + (6 * x2)) + x4).toNatClampNeg (-1)) 46 0 ((12 + (6 * x4)) + x2).toNatClampNeg (-1))))
      else
        some (none, s3))) := (gb_hide_at _ _ _).trans rfl
set_option maxRecDepth 20000 in
theorem e_X10_readsLine  (σ : gb_M) : f_X10_readsLine [gR 36 0] σ =
  gb_b1 (f_X10_sees [gR 36 0] σ) (fun x2 s1 => if x2 = 103 then
    if x2 = 103 then
      gb_b0 (f_X10_readsGrade [gR 36 0] (gb_si s1 36 0 17 ((s1.1 36 0 17) + 1))) (fun s3 => some (none, s3))
    else
      if x2 = 98 then
        gb_b0 (f_X10_readsBin [gR 36 0] (gb_si s1 36 0 17 ((s1.1 36 0 17) + 1))) (fun s4 => some (none, s4))
      else
        if x2 = 120 then
          gb_b0 (f_X10_readsPair [gR 36 0, gI 1] (gb_si s1 36 0 17 ((s1.1 36 0 17) + 1))) (fun s5 => some (none, s5))
        else
          gb_b0 (f_X10_readsPair [gR 36 0, gI 0] (gb_si s1 36 0 17 ((s1.1 36 0 17) + 1))) (fun s6 => some (none, s6))
  else
    if x2 = 98 then
      if x2 = 103 then
        gb_b0 (f_X10_readsGrade [gR 36 0] (gb_si s1 36 0 17 ((s1.1 36 0 17) + 1))) (fun s7 => some (none, s7))
      else
        if x2 = 98 then
          gb_b0 (f_X10_readsBin [gR 36 0] (gb_si s1 36 0 17 ((s1.1 36 0 17) + 1))) (fun s8 => some (none, s8))
        else
          if x2 = 120 then
            gb_b0 (f_X10_readsPair [gR 36 0, gI 1] (gb_si s1 36 0 17 ((s1.1 36 0 17) + 1))) (fun s9 => some (none, s9))
          else
            gb_b0 (f_X10_readsPair [gR 36 0, gI 0] (gb_si s1 36 0 17 ((s1.1 36 0 17) + 1))) (fun s10 => some (none, s10))
    else
      if x2 = 108 then
        if x2 = 103 then
          gb_b0 (f_X10_readsGrade [gR 36 0] (gb_si s1 36 0 17 ((s1.1 36 0 17) + 1))) (fun s11 => some (none, s11))
        else
          if x2 = 98 then
            gb_b0 (f_X10_readsBin [gR 36 0] (gb_si s1 36 0 17 ((s1.1 36 0 17) + 1))) (fun s12 => some (none, s12))
          else
            if x2 = 120 then
              gb_b0 (f_X10_readsPair [gR 36 0, gI 1] (gb_si s1 36 0 17 ((s1.1 36 0 17) + 1))) (fun s13 => some (none, s13))
            else
              gb_b0 (f_X10_readsPair [gR 36 0, gI 0] (gb_si s1 36 0 17 ((s1.1 36 0 17) + 1))) (fun s14 => some (none, s14))
      else
        if x2 = 120 then
          if x2 = 103 then
            gb_b0 (f_X10_readsGrade [gR 36 0] (gb_si s1 36 0 17 ((s1.1 36 0 17) + 1))) (fun s15 => some (none, s15))
          else
            if x2 = 98 then
              gb_b0 (f_X10_readsBin [gR 36 0] (gb_si s1 36 0 17 ((s1.1 36 0 17) + 1))) (fun s16 => some (none, s16))
            else
              if x2 = 120 then
                gb_b0 (f_X10_readsPair [gR 36 0, gI 1] (gb_si s1 36 0 17 ((s1.1 36 0 17) + 1))) (fun s17 => some (none, s17))
              else
                gb_b0 (f_X10_readsPair [gR 36 0, gI 0] (gb_si s1 36 0 17 ((s1.1 36 0 17) + 1))) (fun s18 => some (none, s18))
        else
          gb_b0 (f_X10_fault [gR 36 0, gI (s1.1 36 0 17)] s1) (fun s19 => some (none, s19))) := (gb_hide_at _ _ _).trans rfl
noncomputable def j_X10_land_11 (v1 : Int32) (σ : gb_M) : gb_R := K_X10_land 11 [(0, gR 36 0), (1, gI v1)] [] σ
noncomputable def j_X10_land_77 (v1 : Int32) (v2 : Int32) (σ : gb_M) : gb_R := K_X10_land 77 [(0, gR 36 0), (1, gI v1), (2, gI v2)] [] σ
noncomputable def j_X10_land_185 (v1 : Int32) (v3 : Int32) (σ : gb_M) : gb_R := K_X10_land 185 [(0, gR 36 0), (1, gI v1), (3, gI v3)] [] σ
set_option maxRecDepth 20000 in
theorem e_X10_land_11 (v1 : Int32) (σ : gb_M) : j_X10_land_11 v1 σ =
  if 54 ≤ v1 then
    if (gb_sl (gb_si (gb_si σ 36 0 19 0) 36 0 20 0) 36 0 21 0).1 36 0 16 ≤ 0 then
      j_X10_land_77 0 0 (gb_sl (gb_si (gb_si σ 36 0 19 0) 36 0 20 0) 36 0 21 0)
    else
      j_X10_land_77 0 1 (gb_sl (gb_si (gb_si σ 36 0 19 0) 36 0 20 0) 36 0 21 0)
  else
    if v1 < 6 then
      gb_gd (gb_in v1 54) (j_X10_land_11 (v1 + 1) (gb_si σ 46 0 v1.toNatClampNeg 0))
    else
      if 12 ≤ v1 then
        gb_gd (gb_in v1 54) (j_X10_land_11 (v1 + 1) (gb_si σ 46 0 v1.toNatClampNeg 0))
      else
        gb_gd (gb_in v1 54) (j_X10_land_11 (v1 + 1) (gb_si σ 46 0 v1.toNatClampNeg 99)) := (gb_fx_eq (L_X10_land) 11 _ _ _).trans rfl
set_option maxRecDepth 20000 in
theorem e_X10_land_77 (v1 : Int32) (v2 : Int32) (σ : gb_M) : j_X10_land_77 v1 v2 σ =
  if v2 = 0 then
    if σ.1 36 0 18 = (-1) then
      if σ.1 36 0 16 ≤ σ.1 36 0 17 then
        if σ.1 36 0 18 = (-1) then gb_b0 (f_X10_begins [gR 36 0] σ) (fun s2 => j_X10_land_185 v1 0 s2) else some (some (gI ((-21) - (σ.1 36 0 18))), σ)
      else
        gb_b0 (f_X10_fault [gR 36 0, gI (σ.1 36 0 17)] σ) (fun s3 => if s3.1 36 0 18 = (-1) then gb_b0 (f_X10_begins [gR 36 0] s3) (fun s4 => j_X10_land_185 v1 0 s4) else some (some (gI ((-21) - (s3.1 36 0 18))), s3))
    else
      if σ.1 36 0 18 = (-1) then gb_b0 (f_X10_begins [gR 36 0] σ) (fun s5 => j_X10_land_185 v1 0 s5) else some (some (gI ((-21) - (σ.1 36 0 18))), σ)
  else
    if σ.1 36 0 18 = (-1) then
      gb_b0 (f_X10_readsLine [gR 36 0] σ) (fun s6 => if s6.1 36 0 18 = (-1) then
        gb_b1 (f_X10_sees [gR 36 0] s6) (fun x8 s7 => if x8 = 59 then
          if 1 = 0 then j_X10_land_77 (v1 + 1) 1 s7 else j_X10_land_77 (v1 + 1) 1 (gb_si s7 36 0 17 ((s7.1 36 0 17) + 1))
        else
          if 0 = 0 then j_X10_land_77 (v1 + 1) 0 s7 else j_X10_land_77 (v1 + 1) 0 (gb_si s7 36 0 17 ((s7.1 36 0 17) + 1)))
      else
        if 0 = 0 then j_X10_land_77 (v1 + 1) 0 s6 else j_X10_land_77 (v1 + 1) 0 (gb_si s6 36 0 17 ((s6.1 36 0 17) + 1)))
    else
      if σ.1 36 0 18 = (-1) then
        if σ.1 36 0 16 ≤ σ.1 36 0 17 then
          if σ.1 36 0 18 = (-1) then gb_b0 (f_X10_begins [gR 36 0] σ) (fun s9 => j_X10_land_185 v1 0 s9) else some (some (gI ((-21) - (σ.1 36 0 18))), σ)
        else
          gb_b0 (f_X10_fault [gR 36 0, gI (σ.1 36 0 17)] σ) (fun s10 => if s10.1 36 0 18 = (-1) then gb_b0 (f_X10_begins [gR 36 0] s10) (fun s11 => j_X10_land_185 v1 0 s11) else some (some (gI ((-21) - (s10.1 36 0 18))), s10))
      else
        if σ.1 36 0 18 = (-1) then gb_b0 (f_X10_begins [gR 36 0] σ) (fun s12 => j_X10_land_185 v1 0 s12) else some (some (gI ((-21) - (σ.1 36 0 18))), σ) := (gb_fx_eq (L_X10_land) 77 _ _ _).trans rfl
set_option maxRecDepth 20000 in
theorem e_X10_land_185 (v1 : Int32) (v3 : Int32) (σ : gb_M) : j_X10_land_185 v1 v3 σ =
  if 54 ≤ v3 then
    some (some (gI v1), gb_si (gb_si σ 36 0 5 0) 36 0 3 0)
  else
    gb_gd (gb_in v3 54) (gb_gd (gb_in v3 176) (j_X10_land_185 v1 (v3 + 1) (gb_si σ 37 0 v3.toNatClampNeg (σ.1 46 0 v3.toNatClampNeg)))) := (gb_fx_eq (L_X10_land) 185 _ _ _).trans rfl
set_option maxRecDepth 20000 in
theorem e_X10_land  (σ : gb_M) : f_X10_land [gR 36 0] σ =
  gb_b0 (f_X10_begin [gR 36 0] (gb_si σ 36 0 10 0)) (fun s1 => j_X10_land_11 0 s1) := (gb_hide_at _ _ _).trans rfl
noncomputable def j_X10_grade_19 (v1 : Int32) (v2 : Int32) (v3 : Int32) (v4 : Int32) (σ : gb_M) : gb_R := K_X10_grade 19 [(0, gR 36 0), (1, gI v1), (2, gI v2), (3, gI v3), (4, gI v4)] [] σ
set_option maxRecDepth 20000 in
theorem e_X10_grade_19 (v1 : Int32) (v2 : Int32) (v3 : Int32) (v4 : Int32) (σ : gb_M) : j_X10_grade_19 v1 v2 v3 v4 σ =
  if 6 ≤ v4 then
    if v2 = 0 then
      gb_gd (gb_in (0 + v1) 176) (some (some (gI (σ.1 37 0 (0 + v1).toNatClampNeg)), σ))
    else
      if v2 = 1 then
        gb_gd (gb_in (6 + v1) 176) (some (some (gI (σ.1 37 0 (6 + v1).toNatClampNeg)), σ))
      else
        if v2 = 2 then some (some (gI v3), σ) else some (some (gI (-1)), σ)
  else
    gb_b1 (f_X10_tonsOf [gR 36 0, gI v4, gI v1] σ) (fun x4 s3 => j_X10_grade_19 v1 v2 (v3 + x4) (v4 + 1) s3) := (gb_fx_eq (L_X10_grade) 19 _ _ _).trans rfl
set_option maxRecDepth 20000 in
theorem e_X10_grade (a1 : Int32) (a2 : Int32) (σ : gb_M) : f_X10_grade [gR 36 0, gI a1, gI a2] σ =
  gb_b1 (f_X10_isGrade [gI a1] (gb_si σ 36 0 10 0)) (fun x2 s1 => if x2 = 0 then some (some (gI (-1)), s1) else j_X10_grade_19 a1 a2 0 0 s1) := (gb_hide_at _ _ _).trans rfl
set_option maxRecDepth 20000 in
theorem e_X10_pair (a1 : Int32) (a2 : Int32) (σ : gb_M) : f_X10_pair [gR 36 0, gI a1, gI a2] σ =
  gb_b1 (f_X10_isGrade [gI a1] (gb_si σ 36 0 10 0)) (fun x2 s1 => if x2 = 0 then
    some (some (gI (-1)), s1)
  else
    gb_b1 (f_X10_isGrade [gI a2] s1) (fun x4 s3 => if x4 = 0 then
      some (some (gI (-1)), s3)
    else
      gb_b1 (f_X10_loss [gR 36 0, gI a1, gI a2] s3) (fun x6 s5 => if 0 ≤ x6 then gb_b1 (f_X10_loss [gR 36 0, gI a1, gI a2] s5) (fun x8 s7 => some (some (gI x8), s7)) else some (some (gI (-2)), s5)))) := (gb_hide_at _ _ _).trans rfl
noncomputable def j_X10_gradesIn_4 (v1 : Int32) (v2 : Int32) (v3 : Int32) (σ : gb_M) : gb_R := K_X10_gradesIn 4 [(0, gR 36 0), (1, gI v1), (2, gI v2), (3, gI v3)] [] σ
set_option maxRecDepth 20000 in
theorem e_X10_gradesIn_4 (v1 : Int32) (v2 : Int32) (v3 : Int32) (σ : gb_M) : j_X10_gradesIn_4 v1 v2 v3 σ =
  gb_b1 (f_X10_many [gR 36 0, gI v1] σ) (fun x2 s1 => if x2 ≤ v3 then
    some (some (gI v2), s1)
  else
    gb_b1 (f_X10_layerOf [gR 36 0, gI v1, gI v3, gI 0] s1) (fun x4 s3 => j_X10_gradesIn_4 v1 (v2 ||| (1 <<< (x4 &&& 31))) (v3 + 1) s3)) := (gb_fx_eq (L_X10_gradesIn) 4 _ _ _).trans rfl
set_option maxRecDepth 20000 in
theorem e_X10_gradesIn (a1 : Int32) (σ : gb_M) : f_X10_gradesIn [gR 36 0, gI a1] σ =
  j_X10_gradesIn_4 a1 0 0 σ := (gb_hide_at _ _ _).trans rfl
set_option maxRecDepth 20000 in
theorem e_X10_bin_48 (v1 : Int32) (v2 : Int32) (σ : gb_M) : k_X10_bin_48 gb_n [(0, gR 36 0), (1, gI v1), (2, gI v2)] [] σ =
  gb_gd (gb_in (48 + v1) 176) (some (some (gI (σ.1 37 0 (48 + v1).toNatClampNeg)), σ)) := rfl
set_option maxRecDepth 20000 in
theorem e_X10_bin_58 (v1 : Int32) (v2 : Int32) (σ : gb_M) : k_X10_bin_58 gb_n [(0, gR 36 0), (1, gI v1), (2, gI v2)] [] σ =
  gb_b1 (f_X10_tonsIn [gR 36 0, gI v1] σ) (fun x4 s3 => some (some (gI x4), s3)) := rfl
set_option maxRecDepth 20000 in
theorem e_X10_bin_64 (v1 : Int32) (v2 : Int32) (σ : gb_M) : k_X10_bin_64 gb_n [(0, gR 36 0), (1, gI v1), (2, gI v2)] [] σ =
  gb_b1 (f_X10_many [gR 36 0, gI v1] σ) (fun x6 s5 => some (some (gI x6), s5)) := rfl
set_option maxRecDepth 20000 in
theorem e_X10_bin_70 (v1 : Int32) (v2 : Int32) (σ : gb_M) : k_X10_bin_70 gb_n [(0, gR 36 0), (1, gI v1), (2, gI v2)] [] σ =
  gb_gd (gb_in (54 + v1) 176) (gb_gd (gb_in 174 176) (some (some (gI (if 0 < (σ.1 37 0 (54 + v1).toNatClampNeg) - (σ.1 37 0 (174 : Int32).toNatClampNeg) then (σ.1 37 0 (54 + v1).toNatClampNeg) - (σ.1 37 0 (174 : Int32).toNatClampNeg) else 0)), σ))) := rfl
set_option maxRecDepth 20000 in
theorem e_X10_bin_93 (v1 : Int32) (v2 : Int32) (σ : gb_M) : k_X10_bin_93 gb_n [(0, gR 36 0), (1, gI v1), (2, gI v2)] [] σ =
  gb_b1 (f_X10_gradesIn [gR 36 0, gI v1] σ) (fun x8 s7 => some (some (gI x8), s7)) := rfl
set_option maxRecDepth 20000 in
theorem e_X10_bin_99 (v1 : Int32) (v2 : Int32) (σ : gb_M) : k_X10_bin_99 gb_n [(0, gR 36 0), (1, gI v1), (2, gI v2)] [] σ =
  some (some (gI (-1)), σ) := rfl
set_option maxRecDepth 20000 in
theorem e_X10_bin (a1 : Int32) (a2 : Int32) (σ : gb_M) : f_X10_bin [gR 36 0, gI a1, gI a2] σ =
  gb_b1 (f_X10_isBin [gI a1] (gb_si σ 36 0 10 0)) (fun x2 s1 => if x2 = 0 then
    some (some (gI (-1)), s1)
  else
    gb_tsel a2 0 4 [k_X10_bin_48 gb_n, k_X10_bin_58 gb_n, k_X10_bin_64 gb_n, k_X10_bin_70 gb_n, k_X10_bin_93 gb_n] (k_X10_bin_99 gb_n) [(0, gR 36 0), (1, gI a1), (2, gI a2)] [] s1) := (gb_hide_at _ _ _).trans rfl
set_option maxRecDepth 20000 in
theorem e_X10_layer (a1 : Int32) (a2 : Int32) (a3 : Int32) (σ : gb_M) : f_X10_layer [gR 36 0, gI a1, gI a2, gI a3] σ =
  gb_b1 (f_X10_isBin [gI a1] (gb_si σ 36 0 10 0)) (fun x2 s1 => if x2 = 0 then
    some (some (gI (-1)), s1)
  else
    gb_b1 (f_X10_many [gR 36 0, gI a1] s1) (fun x4 s3 => gb_b1 (f_X10_in [gL a2.toInt64, gL 0, gL ((x4 - 1).toInt64)] s3) (fun x6 s5 => if x6 = 0 then
      some (some (gI (-1)), s5)
    else
      gb_b1 (f_X10_in [gL a3.toInt64, gL 0, gL 3] s5) (fun x8 s7 => if x8 = 0 then
        some (some (gI (-1)), s7)
      else
        if a3 = 3 then
          gb_b1 (f_X10_unit [gR 36 0, gI a1, gI a2] s7) (fun x10 s9 => some (some (gI x10), s9))
        else
          gb_b1 (f_X10_layerOf [gR 36 0, gI a1, gI a2, gI a3] s7) (fun x12 s11 => some (some (gI x12), s11)))))) := (gb_hide_at _ _ _).trans rfl
set_option maxRecDepth 20000 in
theorem e_X10_load (a1 : Int32) (a2 : Int32) (a3 : Int32) (σ : gb_M) : f_X10_load [gR 36 0, gI a1, gI a2, gI a3] σ =
  gb_b1 (f_X10_isGrade [gI a1] (gb_si σ 36 0 10 0)) (fun x2 s1 => if x2 = 0 then
    some (some (gI (-1)), s1)
  else
    gb_b1 (f_X10_isLoad [gI a2] s1) (fun x4 s3 => if x4 = 0 then
      some (some (gI (-1)), s3)
    else
      gb_b1 (f_X10_isBin [gI a3] s3) (fun x6 s5 => if x6 = 0 then
        some (some (gI (-1)), s5)
      else
        gb_gd (gb_in 174 176) (gb_b1 (f_X10_whyNot [gR 36 0, gI a3, gI a1, gI a2, gI (s5.1 37 0 (174 : Int32).toNatClampNeg)] s5) (fun x8 s7 => if x8 = 0 then
          gb_b0 (f_X10_does [gR 36 0] s7) (fun s9 => gb_gd (gb_in 174 176) (gb_b0 (f_X10_lies [gR 36 0, gI a3, gI a1, gI a2, gI (s9.1 37 0 (174 : Int32).toNatClampNeg)] s9) (fun s10 => gb_b1 (f_X10_tonsIn [gR 36 0, gI a3] s10) (fun x12 s11 => some (some (gI x12), s11)))))
        else
          some (some (gI x8), s7)))))) := (gb_hide_at _ _ _).trans rfl
noncomputable def j_X10_draw_61 (v2 : Int32) (v3 : Int32) (σ : gb_M) : gb_R := K_X10_draw 61 [(0, gR 36 0), (2, gI v2), (3, gI v3)] [] σ
noncomputable def j_X10_draw_73 (v2 : Int32) (v3 : Int32) (v4 : Int32) (v5 : Int32) (σ : gb_M) : gb_R := K_X10_draw 73 [(0, gR 36 0), (2, gI v2), (3, gI v3), (4, gI v4), (5, gI v5)] [] σ
set_option maxRecDepth 20000 in
theorem e_X10_draw_61 (v2 : Int32) (v3 : Int32) (σ : gb_M) : j_X10_draw_61 v2 v3 σ =
  if 6 ≤ v3 then
    gb_b0 (f_X10_counts [gR 36 0, gI (v2 * (σ.1 36 0 15))] σ) (fun s11 => some (some (gI (v2 * (s11.1 36 0 15))), s11))
  else
    j_X10_draw_73 v2 v3 0 0 σ := (gb_fx_eq (L_X10_draw) 61 _ _ _).trans rfl
set_option maxRecDepth 20000 in
theorem e_X10_draw_73 (v2 : Int32) (v3 : Int32) (v4 : Int32) (v5 : Int32) (σ : gb_M) : j_X10_draw_73 v2 v3 v4 v5 σ =
  if σ.1 36 0 14 ≤ v5 then
    gb_b0 (f_X10_tell [gR 36 0, gL v4.toInt64] σ) (fun s12 => j_X10_draw_61 v2 (v3 + 1) s12)
  else
    gb_gd (gb_in v5 6) (if σ.1 43 0 v5.toNatClampNeg = v3 then
      gb_gd (gb_in v5 6) (j_X10_draw_73 v2 v3 (v4 + (σ.1 44 0 v5.toNatClampNeg)) (v5 + 1) σ)
    else
      j_X10_draw_73 v2 v3 (v4 + 0) (v5 + 1) σ) := (gb_fx_eq (L_X10_draw) 73 _ _ _).trans rfl
set_option maxRecDepth 20000 in
theorem e_X10_draw (a1 : Int32) (a2 : Int32) (σ : gb_M) : f_X10_draw [gR 36 0, gI a1, gI a2] σ =
  gb_b1 (f_X10_isBin [gI a1] (gb_si σ 36 0 10 0)) (fun x2 s1 => if x2 = 0 then
    some (some (gI (-1)), s1)
  else
    gb_b1 (f_X10_isLoad [gI a2] s1) (fun x4 s3 => if x4 = 0 then
      some (some (gI (-1)), s3)
    else
      gb_b1 (f_X10_isClosed [gR 36 0, gI a1] s3) (fun x6 s5 => if x6 = 0 then
        gb_b1 (f_X10_tonsIn [gR 36 0, gI a1] s5) (fun x8 s7 => if a2 ≤ x8 then
          gb_b0 (f_X10_does [gR 36 0] s7) (fun s9 => gb_b0 (f_X10_goes [gR 36 0, gI a1, gI a2] s9) (fun s10 => j_X10_draw_61 a2 0 (gb_si s10 36 0 9 0)))
        else
          some (some (gI (-3)), s7))
      else
        some (some (gI (-2)), s5)))) := (gb_hide_at _ _ _).trans rfl
noncomputable def j_X10_comes_4 (v1 : Int32) (v2 : Int32) (v3 : Int32) (σ : gb_M) : gb_R := K_X10_comes 4 [(0, gR 36 0), (1, gI v1), (2, gI v2), (3, gI v3)] [] σ
noncomputable def j_X10_comes_45 (v1 : Int32) (v2 : Int32) (v3 : Int32) (σ : gb_M) : gb_R := K_X10_comes 45 [(0, gR 36 0), (1, gI v1), (2, gI v2), (3, gI v3)] [] σ
set_option maxRecDepth 20000 in
theorem e_X10_comes_4 (v1 : Int32) (v2 : Int32) (v3 : Int32) (σ : gb_M) : j_X10_comes_4 v1 v2 v3 σ =
  if σ.1 36 0 14 ≤ v3 then
    j_X10_comes_45 v1 v2 0 σ
  else
    if v2 = 0 then
      gb_gd (gb_in v3 6) (gb_b1 (f_X10_mayMix [gR 36 0, gI v1, gI (σ.1 43 0 v3.toNatClampNeg)] σ) (fun x2 s1 => if x2 = 0 then j_X10_comes_4 v1 (-5) (v3 + 1) s1 else j_X10_comes_4 v1 0 (v3 + 1) s1))
    else
      j_X10_comes_45 v1 v2 0 σ := (gb_fx_eq (L_X10_comes) 4 _ _ _).trans rfl
set_option maxRecDepth 20000 in
theorem e_X10_comes_45 (v1 : Int32) (v2 : Int32) (v3 : Int32) (σ : gb_M) : j_X10_comes_45 v1 v2 v3 σ =
  if σ.1 36 0 14 ≤ v3 then
    some (some (gI v2), σ)
  else
    if v2 = 0 then
      gb_b1 (f_X10_many [gR 36 0, gI v1] σ) (fun x4 s3 => if x4 = 6 then
        gb_gd (gb_in v3 6) (gb_gd (gb_in v3 6) (gb_b1 (f_X10_isOnTop [gR 36 0, gI v1, gI (s3.1 43 0 v3.toNatClampNeg), gI (s3.1 45 0 v3.toNatClampNeg)] s3) (fun x6 s5 => if x6 = 0 then
          j_X10_comes_45 v1 (-6) (v3 + 1) s5
        else
          gb_gd (gb_in v3 6) (gb_gd (gb_in v3 6) (gb_gd (gb_in v3 6) (gb_b0 (f_X10_lies [gR 36 0, gI v1, gI (s5.1 43 0 v3.toNatClampNeg), gI (s5.1 44 0 v3.toNatClampNeg), gI (s5.1 45 0 v3.toNatClampNeg)] s5) (fun s7 => j_X10_comes_45 v1 v2 (v3 + 1) s7)))))))
      else
        gb_gd (gb_in v3 6) (gb_gd (gb_in v3 6) (gb_gd (gb_in v3 6) (gb_b0 (f_X10_lies [gR 36 0, gI v1, gI (s3.1 43 0 v3.toNatClampNeg), gI (s3.1 44 0 v3.toNatClampNeg), gI (s3.1 45 0 v3.toNatClampNeg)] s3) (fun s8 => j_X10_comes_45 v1 v2 (v3 + 1) s8)))))
    else
      some (some (gI v2), σ) := (gb_fx_eq (L_X10_comes) 45 _ _ _).trans rfl
set_option maxRecDepth 20000 in
theorem e_X10_comes (a1 : Int32) (σ : gb_M) : f_X10_comes [gR 36 0, gI a1] σ =
  j_X10_comes_4 a1 0 0 σ := (gb_hide_at _ _ _).trans rfl
set_option maxRecDepth 20000 in
theorem e_X10_move (a1 : Int32) (a2 : Int32) (a3 : Int32) (σ : gb_M) : f_X10_move [gR 36 0, gI a1, gI a2, gI a3] σ =
  gb_b1 (f_X10_isBin [gI a1] (gb_si σ 36 0 10 0)) (fun x2 s1 => if x2 = 0 then
    some (some (gI (-1)), s1)
  else
    gb_b1 (f_X10_isBin [gI a2] s1) (fun x4 s3 => if x4 = 0 then
      some (some (gI (-1)), s3)
    else
      if a1 = a2 then
        some (some (gI (-1)), s3)
      else
        gb_b1 (f_X10_isLoad [gI a3] s3) (fun x6 s5 => if x6 = 0 then
          some (some (gI (-1)), s5)
        else
          gb_b1 (f_X10_isClosed [gR 36 0, gI a1] s5) (fun x8 s7 => if x8 = 0 then
            gb_b1 (f_X10_isClosed [gR 36 0, gI a2] s7) (fun x10 s9 => if x10 = 0 then
              gb_b1 (f_X10_tonsIn [gR 36 0, gI a1] s9) (fun x12 s11 => if a3 ≤ x12 then
                gb_b1 (f_X10_tonsIn [gR 36 0, gI a2] s11) (fun x14 s13 => gb_gd (gb_in (48 + a2) 176) (if x14 + a3 ≤ s13.1 37 0 (48 + a2).toNatClampNeg then
                  gb_b0 (f_X10_keepsAside [gR 36 0] s13) (fun s15 => gb_b1 (f_X10_valueOf [gR 36 0, gI a1] s15) (fun x17 s16 => gb_b1 (f_X10_valueOf [gR 36 0, gI a2] s16) (fun x19 s18 => gb_b0 (f_X10_goes [gR 36 0, gI a1, gI a3] s18) (fun s20 => gb_b1 (f_X10_comes [gR 36 0, gI a2] s20) (fun x22 s21 => if x22 = 0 then
                    gb_b0 (f_X10_did [gR 36 0] s21) (fun s23 => gb_b0 (f_X10_tell [gR 36 0, gL ((x17 + x19).toInt64)] (gb_si s23 36 0 9 0)) (fun s24 => gb_b1 (f_X10_valueOf [gR 36 0, gI a1] s24) (fun x26 s25 => gb_b1 (f_X10_valueOf [gR 36 0, gI a2] s25) (fun x28 s27 => gb_b0 (f_X10_tell [gR 36 0, gL ((x26 + x28).toInt64)] s27) (fun s29 => gb_b1 (f_X10_tonsIn [gR 36 0, gI a2] s29) (fun x31 s30 => some (some (gI x31), s30)))))))
                  else
                    gb_b0 (f_X10_putsBack [gR 36 0] s21) (fun s32 => some (some (gI x22), s32)))))))
                else
                  some (some (gI (-4)), s13)))
              else
                some (some (gI (-3)), s11))
            else
              some (some (gI (-2)), s9))
          else
            some (some (gI (-2)), s7))))) := (gb_hide_at _ _ _).trans rfl
noncomputable def j_X10_turn_37 (v1 : Int32) (v2 : Int32) (v3 : Int32) (σ : gb_M) : gb_R := K_X10_turn 37 [(0, gR 36 0), (1, gI v1), (2, gI v2), (3, gI v3)] [] σ
noncomputable def j_X10_turn_111 (v1 : Int32) (v2 : Int32) (v3 : Int32) (σ : gb_M) : gb_R := K_X10_turn 111 [(0, gR 36 0), (1, gI v1), (2, gI v2), (3, gI v3)] [] σ
noncomputable def j_X10_turn_152 (v1 : Int32) (v3 : Int32) (σ : gb_M) : gb_R := K_X10_turn 152 [(0, gR 36 0), (1, gI v1), (3, gI v3)] [] σ
set_option maxRecDepth 20000 in
theorem e_X10_turn_37 (v1 : Int32) (v2 : Int32) (v3 : Int32) (σ : gb_M) : j_X10_turn_37 v1 v2 v3 σ =
  if v2 ≤ v3 then
    gb_gd (gb_in (60 + v1) 176) (j_X10_turn_111 v1 v2 0 (gb_si σ 37 0 (60 + v1).toNatClampNeg 0))
  else
    gb_b1 (f_X10_layerOf [gR 36 0, gI v1, gI ((v2 - 1) - v3), gI 0] σ) (fun x9 s8 => gb_gd (gb_in v3 6) (gb_b1 (f_X10_layerOf [gR 36 0, gI v1, gI ((v2 - 1) - v3), gI 1] (gb_si s8 43 0 v3.toNatClampNeg x9)) (fun x11 s10 => gb_gd (gb_in v3 6) (gb_b1 (f_X10_layerOf [gR 36 0, gI v1, gI ((v2 - 1) - v3), gI 2] (gb_si s10 44 0 v3.toNatClampNeg x11)) (fun x13 s12 => gb_gd (gb_in v3 6) (j_X10_turn_37 v1 v2 (v3 + 1) (gb_si s12 45 0 v3.toNatClampNeg x13))))))) := (gb_fx_eq (L_X10_turn) 37 _ _ _).trans rfl
set_option maxRecDepth 20000 in
theorem e_X10_turn_111 (v1 : Int32) (v2 : Int32) (v3 : Int32) (σ : gb_M) : j_X10_turn_111 v1 v2 v3 σ =
  if v2 ≤ v3 then
    j_X10_turn_152 v1 0 (gb_si σ 36 0 9 0)
  else
    gb_gd (gb_in v3 6) (gb_gd (gb_in v3 6) (gb_gd (gb_in v3 6) (gb_b0 (f_X10_lies [gR 36 0, gI v1, gI (σ.1 43 0 v3.toNatClampNeg), gI (σ.1 44 0 v3.toNatClampNeg), gI (σ.1 45 0 v3.toNatClampNeg)] σ) (fun s14 => j_X10_turn_111 v1 v2 (v3 + 1) s14)))) := (gb_fx_eq (L_X10_turn) 111 _ _ _).trans rfl
set_option maxRecDepth 20000 in
theorem e_X10_turn_152 (v1 : Int32) (v3 : Int32) (σ : gb_M) : j_X10_turn_152 v1 v3 σ =
  gb_b1 (f_X10_many [gR 36 0, gI v1] σ) (fun x16 s15 => if x16 ≤ v3 then
    gb_b1 (f_X10_many [gR 36 0, gI v1] s15) (fun x18 s17 => some (some (gI x18), s17))
  else
    gb_b1 (f_X10_layerOf [gR 36 0, gI v1, gI v3, gI 0] s15) (fun x20 s19 => gb_b0 (f_X10_tell [gR 36 0, gL x20.toInt64] s19) (fun s21 => j_X10_turn_152 v1 (v3 + 1) s21))) := (gb_fx_eq (L_X10_turn) 152 _ _ _).trans rfl
set_option maxRecDepth 20000 in
theorem e_X10_turn (a1 : Int32) (σ : gb_M) : f_X10_turn [gR 36 0, gI a1] σ =
  gb_b1 (f_X10_isBin [gI a1] (gb_si σ 36 0 10 0)) (fun x2 s1 => if x2 = 0 then
    some (some (gI (-1)), s1)
  else
    gb_b1 (f_X10_isClosed [gR 36 0, gI a1] s1) (fun x4 s3 => if x4 = 0 then
      gb_b0 (f_X10_does [gR 36 0] s3) (fun s5 => gb_b1 (f_X10_many [gR 36 0, gI a1] s5) (fun x7 s6 => j_X10_turn_37 a1 x7 0 s6))
    else
      some (some (gI (-2)), s3))) := (gb_hide_at _ _ _).trans rfl
