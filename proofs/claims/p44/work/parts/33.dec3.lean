/-! DEC: the blocks as equations, printed by wip/p44/dec.py -/
set_option maxRecDepth 20000 in
theorem e_X9_count_52 (v1 : Int32) (σ : gb_M) : k_X9_count_52 gb_n [(0, gR 0 0), (1, gI v1)] [] σ =
  some (some (gI (σ.1 10 0 9)), σ) := rfl
set_option maxRecDepth 20000 in
theorem e_X9_count_60 (v1 : Int32) (σ : gb_M) : k_X9_count_60 gb_n [(0, gR 0 0), (1, gI v1)] [] σ =
  gb_b1 (f_X7_tonsInAll [gR 10 0] σ) (fun x2 s1 => some (some (gI x2), s1)) := rfl
set_option maxRecDepth 20000 in
theorem e_X9_count_68 (v1 : Int32) (σ : gb_M) : k_X9_count_68 gb_n [(0, gR 0 0), (1, gI v1)] [] σ =
  gb_b1 (f_X7_layersInAll [gR 10 0] σ) (fun x4 s3 => some (some (gI x4), s3)) := rfl
set_option maxRecDepth 20000 in
theorem e_X9_count_76 (v1 : Int32) (σ : gb_M) : k_X9_count_76 gb_n [(0, gR 0 0), (1, gI v1)] [] σ =
  gb_b1 (f_X7_closedBins [gR 10 0] σ) (fun x6 s5 => some (some (gI x6), s5)) := rfl
set_option maxRecDepth 20000 in
theorem e_X9_count_84 (v1 : Int32) (σ : gb_M) : k_X9_count_84 gb_n [(0, gR 0 0), (1, gI v1)] [] σ =
  gb_b1 (f_X7_emptyBins [gR 10 0] σ) (fun x8 s7 => some (some (gI x8), s7)) := rfl
set_option maxRecDepth 20000 in
theorem e_X9_count_92 (v1 : Int32) (σ : gb_M) : k_X9_count_92 gb_n [(0, gR 0 0), (1, gI v1)] [] σ =
  some (some (gI (σ.1 19 0 2)), σ) := rfl
set_option maxRecDepth 20000 in
theorem e_X9_count_100 (v1 : Int32) (σ : gb_M) : k_X9_count_100 gb_n [(0, gR 0 0), (1, gI v1)] [] σ =
  some (some (gI (σ.1 10 0 10)), σ) := rfl
set_option maxRecDepth 20000 in
theorem e_X9_count_108 (v1 : Int32) (σ : gb_M) : k_X9_count_108 gb_n [(0, gR 0 0), (1, gI v1)] [] σ =
  some (some (gI (σ.1 21 0 1)), σ) := rfl
set_option maxRecDepth 20000 in
theorem e_X9_count_116 (v1 : Int32) (σ : gb_M) : k_X9_count_116 gb_n [(0, gR 0 0), (1, gI v1)] [] σ =
  some (some (gI (σ.1 1 0 1)), σ) := rfl
set_option maxRecDepth 20000 in
theorem e_X9_count_124 (v1 : Int32) (σ : gb_M) : k_X9_count_124 gb_n [(0, gR 0 0), (1, gI v1)] [] σ =
  some (some (gI (-1)), σ) := rfl
set_option maxRecDepth 20000 in
theorem e_X9_count (a1 : Int32) (σ : gb_M) : f_X9_count [gR 0 0, gI a1] σ =
  gb_tsel a1 0 8 [k_X9_count_52 gb_n, k_X9_count_60 gb_n, k_X9_count_68 gb_n, k_X9_count_76 gb_n, k_X9_count_84 gb_n, k_X9_count_92 gb_n, k_X9_count_100 gb_n, k_X9_count_108 gb_n, k_X9_count_116 gb_n] (k_X9_count_124 gb_n) [(0, gR 0 0), (1, gI a1)] [] σ := (gb_hide_at _ _ _).trans rfl
set_option maxRecDepth 20000 in
theorem e_X9_row (a1 : Int32) (σ : gb_M) : f_X9_row [gR 0 0, gI a1] σ =
  if a1 < 0 then none else if a1 < σ.1 21 0 1 then gb_gd (gb_in a1 8) (some (some (gL (σ.2 22 0 a1.toNatClampNeg)), σ)) else none := (gb_hide_at _ _ _).trans rfl
noncomputable def j_L_holds_9 (v1 : Int32) (v2 : Int32) (v3 : Int32) (v4 : Int32) (σ : gb_M) : gb_R := K_L_holds 9 [(0, gR 0 0), (1, gI v1), (2, gI v2), (3, gI v3), (4, gI v4)] [] σ
noncomputable def j_L_holds_90 (v1 : Int32) (v2 : Int32) (v3 : Int32) (v4 : Int32) (v5 : Int32) (v6 : Int32) (v7 : Int32) (v8 : Int32) (v9 : Int32) (v10 : Int32) (σ : gb_M) : gb_R := K_L_holds 90 [(0, gR 0 0), (1, gI v1), (2, gI v2), (3, gI v3), (4, gI v4), (5, gI v5), (6, gI v6), (7, gI v7), (8, gI v8), (9, gI v9), (10, gI v10)] [] σ
noncomputable def j_L_holds_434 (v1 : Int32) (v2 : Int32) (v3 : Int32) (v4 : Int32) (v5 : Int32) (v6 : Int32) (σ : gb_M) : gb_R := K_L_holds 434 [(0, gR 0 0), (1, gI v1), (2, gI v2), (3, gI v3), (4, gI v4), (5, gI v5), (6, gI v6)] [] σ
noncomputable def j_L_holds_204 (v1 : Int32) (v2 : Int32) (v3 : Int32) (v4 : Int32) (v5 : Int32) (v6 : Int32) (v7 : Int32) (v8 : Int32) (v9 : Int32) (v10 : Int32) (v11 : Int32) (v12 : Int32) (v13 : Int32) (v14 : Int32) (σ : gb_M) : gb_R := K_L_holds 204 [(0, gR 0 0), (1, gI v1), (2, gI v2), (3, gI v3), (4, gI v4), (5, gI v5), (6, gI v6), (7, gI v7), (8, gI v8), (9, gI v9), (10, gI v10), (11, gI v11), (12, gI v12), (13, gI v13), (14, gI v14)] [] σ
noncomputable def j_L_holds_469 (v1 : Int32) (v2 : Int32) (v3 : Int32) (v4 : Int32) (v5 : Int32) (v6 : Int32) (σ : gb_M) : gb_R := K_L_holds 469 [(0, gR 0 0), (1, gI v1), (2, gI v2), (3, gI v3), (4, gI v4), (5, gI v5), (6, gI v6)] [] σ
set_option maxRecDepth 20000 in
theorem e_L_holds_9 (v1 : Int32) (v2 : Int32) (v3 : Int32) (v4 : Int32) (σ : gb_M) : j_L_holds_9 v1 v2 v3 v4 σ =
  if 6 ≤ v4 then
    j_L_holds_434 v1 v2 v3 0 0 0 σ
  else
    gb_b1 (f_X9_bin [gR 0 0, gI v4, gI 2] σ) (fun x2 s1 => gb_b1 (f_X9_bin [gR 0 0, gI v4, gI 1] s1) (fun x4 s3 => gb_b1 (f_X9_bin [gR 0 0, gI v4, gI 0] s3) (fun x6 s5 => if x6 < x4 then
      some (some (gI 0), s5)
    else
      if 6 < x2 then
        some (some (gI 0), s5)
      else
        if x2 = 0 then
          if x4 = 0 then
            if 1 = 1 then j_L_holds_90 v1 v2 v3 v4 x2 x4 0 0 0 0 s5 else some (some (gI 0), s5)
          else
            if 1 = 0 then j_L_holds_90 v1 v2 v3 v4 x2 x4 0 0 0 0 s5 else some (some (gI 0), s5)
        else
          if x4 = 0 then
            if 0 = 1 then j_L_holds_90 v1 v2 v3 v4 x2 x4 0 0 0 0 s5 else some (some (gI 0), s5)
          else
            if 0 = 0 then j_L_holds_90 v1 v2 v3 v4 x2 x4 0 0 0 0 s5 else some (some (gI 0), s5)))) := (gb_fx_eq (L_L_holds) 9 _ _ _).trans rfl
set_option maxRecDepth 20000 in
theorem e_L_holds_90 (v1 : Int32) (v2 : Int32) (v3 : Int32) (v4 : Int32) (v5 : Int32) (v6 : Int32) (v7 : Int32) (v8 : Int32) (v9 : Int32) (v10 : Int32) (σ : gb_M) : j_L_holds_90 v1 v2 v3 v4 v5 v6 v7 v8 v9 v10 σ =
  if v5 ≤ v10 then
    gb_b1 (f_X9_value [gR 0 0, gI v4] σ) (fun x8 s7 => if v7 = v6 then
      gb_b3 (f_X9_row [gR 0 0, gI 0] s7) (fun x10 s9 => if lg_cmp x10 v8.toInt64 = 0 then
        gb_b3 (f_X9_row [gR 0 0, gI 1] s9) (fun x12 s11 => if lg_cmp x12 0 < 0 then
          some (some (gI 0), s11)
        else
          gb_b3 (f_X9_row [gR 0 0, gI 1] s11) (fun x14 s13 => if lg_cmp x8.toInt64 (v8.toInt64 - x14) = 0 then
            gb_b3 (f_X9_row [gR 0 0, gI 2] s13) (fun x16 s15 => if lg_cmp x16 v8.toInt64 < 0 then
              some (some (gI 0), s15)
            else
              gb_b1 (f_X9_bin [gR 0 0, gI v4, gI 4] s15) (fun x18 s17 => if x18 = v9 then
                if v5 ≤ 0 then
                  gb_b1 (f_X9_bottom [gR 0 0, gI v4] s17) (fun x20 s19 => if x20 = (-2) then j_L_holds_9 (v1 + x8) (v2 + v6) (v3 + v5) (v4 + 1) s19 else some (some (gI 0), s19))
                else
                  gb_b1 (f_X9_bottom [gR 0 0, gI v4] s17) (fun x22 s21 => gb_b1 (f_X9_layer [gR 0 0, gI v4, gI 0, gI 0] s21) (fun x24 s23 => if x22 = x24 then
                    gb_b3 (f_X9_row [gR 0 0, gI 0] s23) (fun x26 s25 => gb_b1 (f_X9_layer [gR 0 0, gI v4, gI 0, gI 1] s25) (fun x28 s27 => if 0 ≤ lg_cmp x26 x28.toInt64 then j_L_holds_9 (v1 + x8) (v2 + v6) (v3 + v5) (v4 + 1) s27 else some (some (gI 0), s27)))
                  else
                    some (some (gI 0), s23)))
              else
                some (some (gI 0), s17)))
          else
            some (some (gI 0), s13)))
      else
        some (some (gI 0), s9))
    else
      some (some (gI 0), s7))
  else
    gb_b1 (f_X9_layer [gR 0 0, gI v4, gI v10, gI 0] σ) (fun x30 s29 => gb_b1 (f_X9_layer [gR 0 0, gI v4, gI v10, gI 1] s29) (fun x32 s31 => gb_b1 (f_X9_layer [gR 0 0, gI v4, gI v10, gI 3] s31) (fun x34 s33 => if x32 < 1 then
      some (some (gI 0), s33)
    else
      if x34 < 0 then
        some (some (gI 0), s33)
      else
        gb_b1 (f_X9_grade [gR 0 0, gI x30, gI 0] s33) (fun x36 s35 => if x34 ≤ x36 then
          if v10 ≤ 0 then
            j_L_holds_204 v1 v2 v3 v4 v5 v6 v7 v8 v9 v10 x30 x32 x34 0 s35
          else
            gb_b1 (f_X9_layer [gR 0 0, gI v4, gI (v10 - 1), gI 0] s35) (fun x38 s37 => if x30 = x38 then
              gb_b1 (f_X9_layer [gR 0 0, gI v4, gI v10, gI 2] s37) (fun x40 s39 => gb_b1 (f_X9_layer [gR 0 0, gI v4, gI (v10 - 1), gI 2] s39) (fun x42 s41 => if x40 = x42 then some (some (gI 0), s41) else j_L_holds_204 v1 v2 v3 v4 v5 v6 v7 v8 v9 v10 x30 x32 x34 0 s41))
            else
              j_L_holds_204 v1 v2 v3 v4 v5 v6 v7 v8 v9 v10 x30 x32 x34 0 s37)
        else
          some (some (gI 0), s35))))) := (gb_fx_eq (L_L_holds) 90 _ _ _).trans rfl
set_option maxRecDepth 20000 in
theorem e_L_holds_434 (v1 : Int32) (v2 : Int32) (v3 : Int32) (v4 : Int32) (v5 : Int32) (v6 : Int32) (σ : gb_M) : j_L_holds_434 v1 v2 v3 v4 v5 v6 σ =
  if 6 ≤ v6 then
    j_L_holds_469 v1 v2 v3 v4 v5 0 σ
  else
    gb_b1 (f_X9_value [gR 0 0, gI v6] σ) (fun x44 s43 => gb_b3 (f_X9_row [gR 0 0, gI 1] s43) (fun x46 s45 => j_L_holds_434 v1 v2 v3 ((v4.toInt64 + x46).toInt32) v5 (v6 + 1) s45)) := (gb_fx_eq (L_L_holds) 434 _ _ _).trans rfl
set_option maxRecDepth 20000 in
theorem e_L_holds_204 (v1 : Int32) (v2 : Int32) (v3 : Int32) (v4 : Int32) (v5 : Int32) (v6 : Int32) (v7 : Int32) (v8 : Int32) (v9 : Int32) (v10 : Int32) (v11 : Int32) (v12 : Int32) (v13 : Int32) (v14 : Int32) (σ : gb_M) : j_L_holds_204 v1 v2 v3 v4 v5 v6 v7 v8 v9 v10 v11 v12 v13 v14 σ =
  if v10 ≤ v14 then
    j_L_holds_90 v1 v2 v3 v4 v5 v6 (v7 + v12) (v8 + (v12 * v13)) (v9 ||| (1 <<< (v11 &&& 31))) (v10 + 1) σ
  else
    gb_b1 (f_X9_layer [gR 0 0, gI v4, gI v14, gI 0] σ) (fun x48 s47 => gb_b1 (f_X9_pair [gR 0 0, gI v11, gI x48] s47) (fun x50 s49 => if 0 ≤ x50 then j_L_holds_204 v1 v2 v3 v4 v5 v6 v7 v8 v9 v10 v11 v12 v13 (v14 + 1) s49 else some (some (gI 0), s49))) := (gb_fx_eq (L_L_holds) 204 _ _ _).trans rfl
set_option maxRecDepth 20000 in
theorem e_L_holds_469 (v1 : Int32) (v2 : Int32) (v3 : Int32) (v4 : Int32) (v5 : Int32) (v6 : Int32) (σ : gb_M) : j_L_holds_469 v1 v2 v3 v4 v5 v6 σ =
  if 6 ≤ v6 then
    if v5 = 2 * v4 then
      gb_b1 (f_X9_worst [gR 0 0] σ) (fun x52 s51 => if x52 = (-2) then
        if v4 = 0 then
          if 1 = 1 then
            gb_b1 (f_X9_all [gR 0 0] s51) (fun x54 s53 => if x54 = v1 then
              gb_b1 (f_X9_count [gR 0 0, gI 1] s53) (fun x56 s55 => if x56 = v2 then
                gb_b1 (f_X9_count [gR 0 0, gI 2] s55) (fun x58 s57 => if x58 = v3 then
                  gb_b1 (f_X9_then [gR 0 0, gI 0] s57) (fun x60 s59 => if x60 = v1 then
                    gb_b3 (f_X9_row [gR 0 0, gI 0] s59) (fun x62 s61 => if lg_cmp x62 0 = 0 then some (some (gI 1), s61) else some (some (gI 0), s61))
                  else
                    some (some (gI 0), s59))
                else
                  some (some (gI 0), s57))
              else
                some (some (gI 0), s55))
            else
              some (some (gI 0), s53))
          else
            some (some (gI 0), s51)
        else
          if 1 = 0 then
            gb_b1 (f_X9_all [gR 0 0] s51) (fun x64 s63 => if x64 = v1 then
              gb_b1 (f_X9_count [gR 0 0, gI 1] s63) (fun x66 s65 => if x66 = v2 then
                gb_b1 (f_X9_count [gR 0 0, gI 2] s65) (fun x68 s67 => if x68 = v3 then
                  gb_b1 (f_X9_then [gR 0 0, gI 0] s67) (fun x70 s69 => if x70 = v1 then
                    gb_b3 (f_X9_row [gR 0 0, gI 0] s69) (fun x72 s71 => if lg_cmp x72 0 = 0 then some (some (gI 1), s71) else some (some (gI 0), s71))
                  else
                    some (some (gI 0), s69))
                else
                  some (some (gI 0), s67))
              else
                some (some (gI 0), s65))
            else
              some (some (gI 0), s63))
          else
            some (some (gI 0), s51)
      else
        if v4 = 0 then
          if 0 = 1 then
            gb_b1 (f_X9_all [gR 0 0] s51) (fun x74 s73 => if x74 = v1 then
              gb_b1 (f_X9_count [gR 0 0, gI 1] s73) (fun x76 s75 => if x76 = v2 then
                gb_b1 (f_X9_count [gR 0 0, gI 2] s75) (fun x78 s77 => if x78 = v3 then
                  gb_b1 (f_X9_then [gR 0 0, gI 0] s77) (fun x80 s79 => if x80 = v1 then
                    gb_b3 (f_X9_row [gR 0 0, gI 0] s79) (fun x82 s81 => if lg_cmp x82 0 = 0 then some (some (gI 1), s81) else some (some (gI 0), s81))
                  else
                    some (some (gI 0), s79))
                else
                  some (some (gI 0), s77))
              else
                some (some (gI 0), s75))
            else
              some (some (gI 0), s73))
          else
            some (some (gI 0), s51)
        else
          if 0 = 0 then
            gb_b1 (f_X9_all [gR 0 0] s51) (fun x84 s83 => if x84 = v1 then
              gb_b1 (f_X9_count [gR 0 0, gI 1] s83) (fun x86 s85 => if x86 = v2 then
                gb_b1 (f_X9_count [gR 0 0, gI 2] s85) (fun x88 s87 => if x88 = v3 then
                  gb_b1 (f_X9_then [gR 0 0, gI 0] s87) (fun x90 s89 => if x90 = v1 then
                    gb_b3 (f_X9_row [gR 0 0, gI 0] s89) (fun x92 s91 => if lg_cmp x92 0 = 0 then some (some (gI 1), s91) else some (some (gI 0), s91))
                  else
                    some (some (gI 0), s89))
                else
                  some (some (gI 0), s87))
              else
                some (some (gI 0), s85))
            else
              some (some (gI 0), s83))
          else
            some (some (gI 0), s51))
    else
      some (some (gI 0), σ)
  else
    gb_b1 (f_X9_mixed [gR 0 0, gI v6] σ) (fun x94 s93 => j_L_holds_469 v1 v2 v3 v4 (v5 + x94) (v6 + 1) s93) := (gb_fx_eq (L_L_holds) 469 _ _ _).trans rfl
set_option maxRecDepth 20000 in
theorem e_L_holds  (σ : gb_M) : f_L_holds [gR 0 0] σ =
  j_L_holds_9 0 0 0 0 σ := (gb_hide_at _ _ _).trans rfl
