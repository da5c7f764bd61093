/-! DEC: the blocks as equations, printed by wip/whole/dec.py -/
noncomputable def j_X9_serves_28 (v2 : Int32) (v3 : Int32) (σ : gb_M) : gb_R := K_X9_serves 28 [(0, gR 0 0), (2, gI v2), (3, gI v3)] [] σ
set_option maxRecDepth 20000 in
theorem e_X9_serves_28 (v2 : Int32) (v3 : Int32) (σ : gb_M) : j_X9_serves_28 v2 v3 σ =
  if v2 ≤ v3 then
    some (some (gI v2), σ)
  else
    gb_gd (gb_in v3 6) (gb_b0 (f_X4_add [gR 21 0, gL ((σ.1 33 0 v3.toNatClampNeg).toInt64)] σ) (fun s6 => j_X9_serves_28 v2 (v3 + 1) s6)) := (gb_fx_eq (L_X9_serves) 28 _ _ _).trans rfl
set_option maxRecDepth 20000 in
theorem e_X9_serves  (σ : gb_M) : f_X9_serves [gR 0 0] σ =
  gb_b1 (f_X9_readOrders [gR 0 0] σ) (fun x2 s1 => if 0 ≤ x2 then
    gb_b1 (f_X0_serve [gR 30 0] s1) (fun x4 s3 => gb_b0 (f_X4_start [gR 21 0] s3) (fun s5 => j_X9_serves_28 x4 0 s5))
  else
    some (some (gI x2), s1)) := (gb_hide_at _ _ _).trans rfl
noncomputable def j_X9_picks_28 (v1 : Int32) (v2 : Int32) (v3 : Int32) (σ : gb_M) : gb_R := K_X9_picks 28 [(0, gR 0 0), (1, gI v1), (2, gI v2), (3, gI v3)] [] σ
set_option maxRecDepth 20000 in
theorem e_X9_picks_28 (v1 : Int32) (v2 : Int32) (v3 : Int32) (σ : gb_M) : j_X9_picks_28 v1 v2 v3 σ =
  if v1 ≤ v3 then
    some (some (gI v2), σ)
  else
    gb_gd (gb_in v3 6) (gb_b0 (f_X4_add [gR 21 0, gL ((σ.1 33 0 v3.toNatClampNeg).toInt64)] σ) (fun s6 => j_X9_picks_28 v1 v2 (v3 + 1) s6)) := (gb_fx_eq (L_X9_picks) 28 _ _ _).trans rfl
set_option maxRecDepth 20000 in
theorem e_X9_picks  (σ : gb_M) : f_X9_picks [gR 0 0] σ =
  gb_b1 (f_X9_readOrders [gR 0 0] σ) (fun x2 s1 => if 0 ≤ x2 then
    gb_b1 (f_X0_pick [gR 30 0] s1) (fun x4 s3 => gb_b0 (f_X4_start [gR 21 0] s3) (fun s5 => j_X9_picks_28 x2 x4 0 s5))
  else
    some (some (gI x2), s1)) := (gb_hide_at _ _ _).trans rfl
noncomputable def j_X9_empties_64 (v2 : Int32) (v3 : Int32) (σ : gb_M) : gb_R := K_X9_empties 64 [(0, gR 0 0), (2, gI v2), (3, gI v3)] [] σ
set_option maxRecDepth 20000 in
theorem e_X9_empties_64 (v2 : Int32) (v3 : Int32) (σ : gb_M) : j_X9_empties_64 v2 v3 σ =
  if σ.1 23 0 3 ≤ v3 then
    some (some (gI v2), σ)
  else
    gb_gd (gb_in v3 6) (gb_b0 (f_X4_add [gR 21 0, gL ((σ.1 29 0 v3.toNatClampNeg).toInt64)] σ) (fun s9 => j_X9_empties_64 v2 (v3 + 1) s9)) := (gb_fx_eq (L_X9_empties) 64 _ _ _).trans rfl
set_option maxRecDepth 20000 in
theorem e_X9_empties (a1 : Int32) (σ : gb_M) : f_X9_empties [gR 0 0, gI a1] σ =
  gb_b1 (f_X9_isBin [gI a1] σ) (fun x2 s1 => if x2 = 0 then
    some (some (gI (-1)), s1)
  else
    gb_b1 (f_X7_closed [gR 10 0, gI a1] s1) (fun x4 s3 => if x4 = 0 then
      gb_b0 (f_X2_takeLayers [gR 23 0, gR 10 0, gI a1] s3) (fun s5 => gb_b1 (f_X1_leastGrowth [gR 27 0, gR 10 0, gI a1] s5) (fun x7 s6 => if 0 ≤ x7 then gb_b0 (f_X4_start [gR 21 0] s6) (fun s8 => j_X9_empties_64 x7 0 s8) else some (some (gI (-3)), s6)))
    else
      some (some (gI (-2)), s3))) := (gb_hide_at _ _ _).trans rfl
set_option maxRecDepth 20000 in
theorem e_X9_then (a1 : Int32) (σ : gb_M) : f_X9_then [gR 0 0, gI a1] σ =
  if a1 < 0 then
    some (some (gI (-1)), σ)
  else
    if a1 ≤ 999 then
      gb_b1 (f_X7_valueOfAll [gR 10 0, gI ((σ.1 10 0 9) + a1)] σ) (fun x2 s1 => gb_b0 (f_X4_start [gR 21 0] s1) (fun s3 => gb_b1 (f_X7_valueOfAll [gR 10 0, gI (s3.1 10 0 9)] s3) (fun x5 s4 => gb_b0 (f_X4_add [gR 21 0, gL ((x5 - x2).toInt64)] s4) (fun s6 => gb_b1 (f_X7_spoiltGrades [gR 10 0, gI ((s6.1 10 0 9) + a1)] s6) (fun x8 s7 => gb_b0 (f_X4_add [gR 21 0, gL x8.toInt64] s7) (fun s9 => some (some (gI x2), s9)))))))
    else
      some (some (gI (-1)), σ) := (gb_hide_at _ _ _).trans rfl
noncomputable def j_X9_falls_16 (v1 : Int32) (v2 : Int32) (v3 : Int32) (v4 : Int32) (σ : gb_M) : gb_R := K_X9_falls 16 [(0, gR 0 0), (1, gI v1), (2, gI v2), (3, gI v3), (4, gI v4)] [] σ
set_option maxRecDepth 20000 in
theorem e_X9_falls_16 (v1 : Int32) (v2 : Int32) (v3 : Int32) (v4 : Int32) (σ : gb_M) : j_X9_falls_16 v1 v2 v3 v4 σ =
  if v4 ≤ 0 then
    if 999 < v3 then some (some (gI (-2)), σ) else some (some (gI v3), σ)
  else
    if 999 < (v3 + v4) - 1 then
      j_X9_falls_16 v1 v2 v3 (v4 / 2) σ
    else
      gb_b1 (f_X7_valueThen [gR 10 0, gI v1, gI ((σ.1 10 0 9) + ((v3 + v4) - 1))] σ) (fun x4 s3 => if x4 < v2 then j_X9_falls_16 v1 v2 v3 (v4 / 2) s3 else j_X9_falls_16 v1 v2 (v3 + v4) (v4 / 2) s3) := (gb_fx_eq (L_X9_falls) 16 _ _ _).trans rfl
set_option maxRecDepth 20000 in
theorem e_X9_falls (a1 : Int32) (a2 : Int32) (σ : gb_M) : f_X9_falls [gR 0 0, gI a1, gI a2] σ =
  gb_b1 (f_X9_isBin [gI a1] σ) (fun x2 s1 => if x2 = 0 then some (some (gI (-1)), s1) else j_X9_falls_16 a1 a2 0 512 s1) := (gb_hide_at _ _ _).trans rfl
noncomputable def j_X9_old_13 (v1 : Int32) (v2 : Int32) (v3 : Int32) (σ : gb_M) : gb_R := K_X9_old 13 [(0, gR 0 0), (1, gI v1), (2, gI v2), (3, gI v3)] [] σ
set_option maxRecDepth 20000 in
theorem e_X9_old_13 (v1 : Int32) (v2 : Int32) (v3 : Int32) (σ : gb_M) : j_X9_old_13 v1 v2 v3 σ =
  if 6 ≤ v3 then
    gb_b0 (f_X4_add [gR 21 0, gL v2.toInt64] σ) (fun s2 => some (some (gI v1), s2))
  else
    gb_b1 (f_X7_spoiltTons [gR 10 0, gI v3] σ) (fun x4 s3 => gb_b0 (f_X4_add [gR 21 0, gL x4.toInt64] s3) (fun s5 => if x4 ≤ 0 then j_X9_old_13 (v1 + x4) v2 (v3 + 1) s5 else j_X9_old_13 (v1 + x4) (v2 ||| (1 <<< (v3 &&& 31))) (v3 + 1) s5)) := (gb_fx_eq (L_X9_old) 13 _ _ _).trans rfl
set_option maxRecDepth 20000 in
theorem e_X9_old  (σ : gb_M) : f_X9_old [gR 0 0] σ =
  gb_b0 (f_X4_start [gR 21 0] σ) (fun s1 => j_X9_old_13 0 0 0 s1) := (gb_hide_at _ _ _).trans rfl
noncomputable def j_X9_cures_33 (v1 : Int32) (v2 : Int32) (v3 : Int32) (v4 : Int32) (v5 : Int32) (σ : gb_M) : gb_R := K_X9_cures 33 [(0, gR 0 0), (1, gI v1), (2, gI v2), (3, gI v3), (4, gI v4), (5, gI v5)] [] σ
set_option maxRecDepth 20000 in
theorem e_X9_cures_33 (v1 : Int32) (v2 : Int32) (v3 : Int32) (v4 : Int32) (v5 : Int32) (σ : gb_M) : j_X9_cures_33 v1 v2 v3 v4 v5 σ =
  if 6 ≤ v5 then
    if v3 < 0 then
      some (some (gI v3), σ)
    else
      gb_b0 (f_X4_start [gR 21 0] σ) (fun s1 => gb_b0 (f_X4_add [gR 21 0, gL v4.toInt64] s1) (fun s2 => some (some (gI v3), s2)))
  else
    gb_b1 (f_X7_closed [gR 10 0, gI v5] σ) (fun x4 s3 => if x4 = 0 then
      gb_b1 (f_X7_cureOf [gR 10 0, gI v5, gI v1, gI v2] s3) (fun x6 s5 => if x6 ≤ v4 then j_X9_cures_33 v1 v2 v3 v4 (v5 + 1) s5 else j_X9_cures_33 v1 v2 v5 x6 (v5 + 1) s5)
    else
      if 0 ≤ v4 then j_X9_cures_33 v1 v2 v3 v4 (v5 + 1) s3 else j_X9_cures_33 v1 v2 v5 0 (v5 + 1) s3) := (gb_fx_eq (L_X9_cures) 33 _ _ _).trans rfl
set_option maxRecDepth 20000 in
theorem e_X9_cures (a1 : Int32) (a2 : Int32) (σ : gb_M) : f_X9_cures [gR 0 0, gI a1, gI a2] σ =
  if a1 < 1 then
    some (some (gI (-1)), σ)
  else
    if 20 < a1 then
      some (some (gI (-1)), σ)
    else
      if a2 < 0 then some (some (gI (-1)), σ) else if a2 ≤ 999 then j_X9_cures_33 a1 a2 (-2) 0 0 σ else some (some (gI (-1)), σ) := (gb_hide_at _ _ _).trans rfl
set_option maxRecDepth 20000 in
theorem e_X9_undo  (σ : gb_M) : f_X9_undo [gR 0 0] σ =
  gb_b1 (f_X3_takeBack [gR 19 0, gR 10 0] σ) (fun x2 s1 => if x2 = 0 then some (some (gI (-2)), s1) else some (some (gI (s1.1 19 0 2)), s1)) := (gb_hide_at _ _ _).trans rfl
set_option maxRecDepth 20000 in
theorem e_X9_keeps  (σ : gb_M) : f_X9_keeps [gR 0 0] σ =
  gb_b0 (f_X7_copy [gR 10 1, gR 10 0] σ) (fun s1 => some (some (gI ((gb_si s1 0 0 5 1).1 10 0 9)), gb_si s1 0 0 5 1)) := (gb_hide_at _ _ _).trans rfl
set_option maxRecDepth 20000 in
theorem e_X9_back  (σ : gb_M) : f_X9_back [gR 0 0] σ =
  if σ.1 0 0 5 = 0 then
    some (some (gI (-2)), σ)
  else
    gb_b0 (f_X3_add [gR 19 0, gR 10 0] σ) (fun s1 => gb_b0 (f_X7_copy [gR 10 0, gR 10 1] s1) (fun s2 => some (some (gI (s2.1 10 0 9)), s2))) := (gb_hide_at _ _ _).trans rfl
set_option maxRecDepth 20000 in
theorem e_X9_written (a1 : Int32) (σ : gb_M) : f_X9_written [gR 0 0, gI a1] σ =
  gb_b0 (f_X6_write [gR 34 0, gR 10 0] σ) (fun s1 => if a1 = (-1) then some (some (gI (s1.1 34 0 1)), s1) else gb_b1 (f_X6_signAt [gR 34 0, gI a1] s1) (fun x3 s2 => some (some (gI x3), s2))) := (gb_hide_at _ _ _).trans rfl
set_option maxRecDepth 20000 in
theorem e_X9_count_52 (v1 : Int32) (σ : gb_M) : k_X9_count_52 gb_n [(0, gR 0 0), (1, gI v1)] [] σ =
  some (some (gI (σ.1 10 0 9)), σ) := rfl
set_option maxRecDepth 20000 in
theorem e_X9_count_60 (v1 : Int32) (σ : gb_M) : k_X9_count_60 gb_n [(0, gR 0 0), (1, gI v1)] [] σ =
  gb_b1 (f_X7_tonsInAll [gR 10 0] σ) (fun x2 s1 => some (some (gI x2), s1)) := rfl
set_option maxRecDepth 20000 in
theorem e_X9_count_68 (v1 : Int32) (σ : gb_M) : k_X9_count_68 gb_n [(0, gR 0 0), (1, gI v1)] [] σ =
  gb_b1 (f_X7_layersInAll [gR 10 0] σ) (fun x4 s3 => some (some (gI x4), s3)) := rfl
set_option maxRecDepth 20000 in
theorem e_X9_count_76 (v1 : Int32) (σ : gb_M) : k_X9_count_76 gb_n [(0, gR 0 0), (1, gI v1)] [] σ =
  gb_b1 (f_X7_closedBins [gR 10 0] σ) (fun x6 s5 => some (some (gI x6), s5)) := rfl
set_option maxRecDepth 20000 in
theorem e_X9_count_84 (v1 : Int32) (σ : gb_M) : k_X9_count_84 gb_n [(0, gR 0 0), (1, gI v1)] [] σ =
  gb_b1 (f_X7_emptyBins [gR 10 0] σ) (fun x8 s7 => some (some (gI x8), s7)) := rfl
set_option maxRecDepth 20000 in
theorem e_X9_count_92 (v1 : Int32) (σ : gb_M) : k_X9_count_92 gb_n [(0, gR 0 0), (1, gI v1)] [] σ =
  some (some (gI (σ.1 19 0 2)), σ) := rfl
set_option maxRecDepth 20000 in
theorem e_X9_count_100 (v1 : Int32) (σ : gb_M) : k_X9_count_100 gb_n [(0, gR 0 0), (1, gI v1)] [] σ =
  some (some (gI (σ.1 10 0 10)), σ) := rfl
set_option maxRecDepth 20000 in
theorem e_X9_count_108 (v1 : Int32) (σ : gb_M) : k_X9_count_108 gb_n [(0, gR 0 0), (1, gI v1)] [] σ =
  some (some (gI (σ.1 21 0 1)), σ) := rfl
set_option maxRecDepth 20000 in
theorem e_X9_count_116 (v1 : Int32) (σ : gb_M) : k_X9_count_116 gb_n [(0, gR 0 0), (1, gI v1)] [] σ =
  some (some (gI (σ.1 1 0 1)), σ) := rfl
set_option maxRecDepth 20000 in
theorem e_X9_count_124 (v1 : Int32) (σ : gb_M) : k_X9_count_124 gb_n [(0, gR 0 0), (1, gI v1)] [] σ =
  some (some (gI (-1)), σ) := rfl
set_option maxRecDepth 20000 in
theorem e_X9_count (a1 : Int32) (σ : gb_M) : f_X9_count [gR 0 0, gI a1] σ =
  gb_tsel a1 0 8 [k_X9_count_52 gb_n, k_X9_count_60 gb_n, k_X9_count_68 gb_n, k_X9_count_76 gb_n, k_X9_count_84 gb_n, k_X9_count_92 gb_n, k_X9_count_100 gb_n, k_X9_count_108 gb_n, k_X9_count_116 gb_n] (k_X9_count_124 gb_n) [(0, gR 0 0), (1, gI a1)] [] σ := (gb_hide_at _ _ _).trans rfl
noncomputable def j_X10_begins_2 (v1 : Int32) (σ : gb_M) : gb_R := K_X10_begins 2 [(0, gR 36 0), (1, gI v1)] [] σ
noncomputable def j_X10_begins_24 (v1 : Int32) (σ : gb_M) : gb_R := K_X10_begins 24 [(0, gR 36 0), (1, gI v1)] [] σ
set_option maxRecDepth 20000 in
theorem e_X10_begins_2 (v1 : Int32) (σ : gb_M) : j_X10_begins_2 v1 σ =
  if 176 ≤ v1 then j_X10_begins_24 0 σ else gb_gd (gb_in v1 176) (j_X10_begins_2 (v1 + 1) (gb_si σ 37 0 v1.toNatClampNeg 0)) := (gb_fx_eq (L_X10_begins) 2 _ _ _).trans rfl
set_option maxRecDepth 20000 in
theorem e_X10_begins_24 (v1 : Int32) (σ : gb_M) : j_X10_begins_24 v1 σ =
  if 6 ≤ v1 then some (none, σ) else gb_gd (gb_in (6 + v1) 176) (j_X10_begins_24 (v1 + 1) (gb_si σ 37 0 (6 + v1).toNatClampNeg 99)) := (gb_fx_eq (L_X10_begins) 24 _ _ _).trans rfl
set_option maxRecDepth 20000 in
theorem e_X10_begins  (σ : gb_M) : f_X10_begins [gR 36 0] σ =
  j_X10_begins_2 0 σ := (gb_hide_at _ _ _).trans rfl
set_option maxRecDepth 20000 in
theorem e_X10_thrown  (σ : gb_M) : f_X10_thrown [gR 36 0] σ =
  some (some (gI (σ.1 36 0 10)), σ) := (gb_hide_at _ _ _).trans rfl
set_option maxRecDepth 20000 in
theorem e_X10_in (a0 : Int64) (a2 : Int64) (a4 : Int64) (σ : gb_M) : f_X10_in [gL a0, gL a2, gL a4] σ =
  if lg_cmp a0 a2 < 0 then some (some (gI 0), σ) else if 0 < lg_cmp a0 a4 then some (some (gI 0), σ) else some (some (gI 1), σ) := (gb_hide_at _ _ _).trans rfl
set_option maxRecDepth 20000 in
theorem e_X10_lost  (σ : gb_M) : f_X10_lost [gR 36 0] σ =
  some (some (gI 0), gb_si σ 36 0 10 1) := (gb_hide_at _ _ _).trans rfl
set_option maxRecDepth 20000 in
theorem e_X10_tell (a1 : Int64) (σ : gb_M) : f_X10_tell [gR 36 0, gL a1] σ =
  gb_gd (gb_in (σ.1 36 0 9) 32) (some (none, gb_si (gb_sl σ 42 0 (σ.1 36 0 9).toNatClampNeg a1) 36 0 9 (((gb_sl σ 42 0 (σ.1 36 0 9).toNatClampNeg a1).1 36 0 9) + 1))) := (gb_hide_at _ _ _).trans rfl
noncomputable def j_X10_sign_21 (v1 : Int32) (v2 : Int32) (σ : gb_M) : gb_R := K_X10_sign 21 [(0, gR 36 0), (1, gI v1), (2, gI v2)] [] σ
set_option maxRecDepth 20000 in
theorem e_X10_sign_21 (v1 : Int32) (v2 : Int32) (σ : gb_M) : j_X10_sign_21 v1 v2 σ =
  if v2 < 0 then
    some (some (gI (σ.1 36 0 7)), σ)
  else
    gb_gd (gb_in (σ.1 36 0 7) 200) (j_X10_sign_21 v1 (v2 + (-1)) (gb_si (gb_si σ 36 0 7 ((σ.1 36 0 7) + 1)) 41 0 (σ.1 36 0 7).toNatClampNeg (((v1 >>> ((8 * v2) &&& 31)).toInt8.toInt32).toInt8.toInt32))) := (gb_fx_eq (L_X10_sign) 21 _ _ _).trans rfl
set_option maxRecDepth 20000 in
theorem e_X10_sign (a1 : Int32) (σ : gb_M) : f_X10_sign [gR 36 0, gI a1] σ =
  if ((gb_si σ 36 0 10 0).1 36 0 7) + 4 ≤ 200 then j_X10_sign_21 a1 3 (gb_si σ 36 0 10 0) else some (some (gI (-1)), gb_si σ 36 0 10 0) := (gb_hide_at _ _ _).trans rfl
set_option maxRecDepth 20000 in
theorem e_X10_end (a1 : Int32) (σ : gb_M) : f_X10_end [gR 36 0, gI a1] σ =
  gb_b1 (f_X10_in [gL a1.toInt64, gL 0, gL (((gb_si σ 36 0 10 0).1 36 0 7).toInt64)] (gb_si σ 36 0 10 0)) (fun x2 s1 => if x2 = 0 then some (some (gI 0), s1) else some (some (gI 1), gb_si s1 36 0 7 a1)) := (gb_hide_at _ _ _).trans rfl
set_option maxRecDepth 20000 in
theorem e_X10_isGrade (a0 : Int32) (σ : gb_M) : f_X10_isGrade [gI a0] σ =
  gb_b1 (f_X10_in [gL a0.toInt64, gL 0, gL 5] σ) (fun x2 s1 => gb_gd (decide (x2 &&& 1 = x2)) (some (some (gI x2), s1))) := (gb_hide_at _ _ _).trans rfl
set_option maxRecDepth 20000 in
theorem e_X10_isBin (a0 : Int32) (σ : gb_M) : f_X10_isBin [gI a0] σ =
  gb_b1 (f_X10_in [gL a0.toInt64, gL 0, gL 5] σ) (fun x2 s1 => gb_gd (decide (x2 &&& 1 = x2)) (some (some (gI x2), s1))) := (gb_hide_at _ _ _).trans rfl
set_option maxRecDepth 20000 in
theorem e_X10_isLoad (a0 : Int32) (σ : gb_M) : f_X10_isLoad [gI a0] σ =
  gb_b1 (f_X10_in [gL a0.toInt64, gL 1, gL 99] σ) (fun x2 s1 => gb_gd (decide (x2 &&& 1 = x2)) (some (some (gI x2), s1))) := (gb_hide_at _ _ _).trans rfl
set_option maxRecDepth 20000 in
theorem e_X10_layerOf (a1 : Int32) (a2 : Int32) (a3 : Int32) (σ : gb_M) : f_X10_layerOf [gR 36 0, gI a1, gI a2, gI a3] σ =
  gb_gd (gb_in (((66 + (18 * a1)) + (3 * a2)) + a3) 176) (some (some (gI (σ.1 37 0 (((66 + (18 * a1)) + (3 * a2)) + a3).toNatClampNeg)), σ)) := (gb_hide_at _ _ _).trans rfl
set_option maxRecDepth 20000 in
theorem e_X10_sets (a1 : Int32) (a2 : Int32) (a3 : Int32) (a4 : Int32) (a5 : Int32) (σ : gb_M) : f_X10_sets [gR 36 0, gI a1, gI a2, gI a3, gI a4, gI a5] σ =
  gb_gd (gb_in ((66 + (18 * a1)) + (3 * a2)) 176) (gb_gd (gb_in (((66 + (18 * a1)) + (3 * a2)) + 1) 176) (gb_gd (gb_in (((66 + (18 * a1)) + (3 * a2)) + 2) 176) (some (none, gb_si (gb_si (gb_si σ 37 0 ((66 + (18 * a1)) + (3 * a2)).toNatClampNeg a3) 37 0 (((66 + (18 * a1)) + (3 * a2)) + 1).toNatClampNeg a4) 37 0 (((66 + (18 * a1)) + (3 * a2)) + 2).toNatClampNeg a5)))) := (gb_hide_at _ _ _).trans rfl
set_option maxRecDepth 20000 in
theorem e_X10_many (a1 : Int32) (σ : gb_M) : f_X10_many [gR 36 0, gI a1] σ =
  gb_gd (gb_in (60 + a1) 176) (some (some (gI (σ.1 37 0 (60 + a1).toNatClampNeg)), σ)) := (gb_hide_at _ _ _).trans rfl
noncomputable def j_X10_tonsIn_4 (v1 : Int32) (v2 : Int32) (v3 : Int32) (σ : gb_M) : gb_R := K_X10_tonsIn 4 [(0, gR 36 0), (1, gI v1), (2, gI v2), (3, gI v3)] [] σ
set_option maxRecDepth 20000 in
theorem e_X10_tonsIn_4 (v1 : Int32) (v2 : Int32) (v3 : Int32) (σ : gb_M) : j_X10_tonsIn_4 v1 v2 v3 σ =
  gb_b1 (f_X10_many [gR 36 0, gI v1] σ) (fun x2 s1 => if x2 ≤ v3 then
    some (some (gI v2), s1)
  else
    gb_b1 (f_X10_layerOf [gR 36 0, gI v1, gI v3, gI 1] s1) (fun x4 s3 => j_X10_tonsIn_4 v1 (v2 + x4) (v3 + 1) s3)) := (gb_fx_eq (L_X10_tonsIn) 4 _ _ _).trans rfl
set_option maxRecDepth 20000 in
theorem e_X10_tonsIn (a1 : Int32) (σ : gb_M) : f_X10_tonsIn [gR 36 0, gI a1] σ =
  j_X10_tonsIn_4 a1 0 0 σ := (gb_hide_at _ _ _).trans rfl
noncomputable def j_X10_tonsOf_5 (v1 : Int32) (v2 : Int32) (v3 : Int32) (v4 : Int32) (σ : gb_M) : gb_R := K_X10_tonsOf 5 [(0, gR 36 0), (1, gI v1), (2, gI v2), (3, gI v3), (4, gI v4)] [] σ
set_option maxRecDepth 20000 in
theorem e_X10_tonsOf_5 (v1 : Int32) (v2 : Int32) (v3 : Int32) (v4 : Int32) (σ : gb_M) : j_X10_tonsOf_5 v1 v2 v3 v4 σ =
  gb_b1 (f_X10_many [gR 36 0, gI v1] σ) (fun x2 s1 => if x2 ≤ v4 then
    some (some (gI v3), s1)
  else
    gb_b1 (f_X10_layerOf [gR 36 0, gI v1, gI v4, gI 0] s1) (fun x4 s3 => if x4 = v2 then
      gb_b1 (f_X10_layerOf [gR 36 0, gI v1, gI v4, gI 1] s3) (fun x6 s5 => j_X10_tonsOf_5 v1 v2 (v3 + x6) (v4 + 1) s5)
    else
      j_X10_tonsOf_5 v1 v2 (v3 + 0) (v4 + 1) s3)) := (gb_fx_eq (L_X10_tonsOf) 5 _ _ _).trans rfl
set_option maxRecDepth 20000 in
theorem e_X10_tonsOf (a1 : Int32) (a2 : Int32) (σ : gb_M) : f_X10_tonsOf [gR 36 0, gI a1, gI a2] σ =
  j_X10_tonsOf_5 a1 a2 0 0 σ := (gb_hide_at _ _ _).trans rfl
set_option maxRecDepth 20000 in
theorem e_X10_loss (a1 : Int32) (a2 : Int32) (σ : gb_M) : f_X10_loss [gR 36 0, gI a1, gI a2] σ =
  gb_gd (gb_in ((12 + (6 * a1)) + a2) 176) (some (some (gI (σ.1 37 0 ((12 + (6 * a1)) + a2).toNatClampNeg)), σ)) := (gb_hide_at _ _ _).trans rfl
set_option maxRecDepth 20000 in
theorem e_X10_isClosed (a1 : Int32) (σ : gb_M) : f_X10_isClosed [gR 36 0, gI a1] σ =
  gb_gd (gb_in 174 176) (gb_gd (gb_in (54 + a1) 176) (if σ.1 37 0 (54 + a1).toNatClampNeg ≤ σ.1 37 0 (174 : Int32).toNatClampNeg then some (some (gI 0), σ) else some (some (gI 1), σ))) := (gb_hide_at _ _ _).trans rfl
noncomputable def j_X10_keepsAside_2 (v1 : Int32) (σ : gb_M) : gb_R := K_X10_keepsAside 2 [(0, gR 36 0), (1, gI v1)] [] σ
set_option maxRecDepth 20000 in
theorem e_X10_keepsAside_2 (v1 : Int32) (σ : gb_M) : j_X10_keepsAside_2 v1 σ =
  if 176 ≤ v1 then
    some (none, σ)
  else
    gb_gd (gb_in v1 176) (gb_gd (gb_in v1 176) (j_X10_keepsAside_2 (v1 + 1) (gb_si σ 38 0 v1.toNatClampNeg (σ.1 37 0 v1.toNatClampNeg)))) := (gb_fx_eq (L_X10_keepsAside) 2 _ _ _).trans rfl
set_option maxRecDepth 20000 in
theorem e_X10_keepsAside  (σ : gb_M) : f_X10_keepsAside [gR 36 0] σ =
  j_X10_keepsAside_2 0 σ := (gb_hide_at _ _ _).trans rfl
noncomputable def j_X10_putsBack_2 (v1 : Int32) (σ : gb_M) : gb_R := K_X10_putsBack 2 [(0, gR 36 0), (1, gI v1)] [] σ
set_option maxRecDepth 20000 in
theorem e_X10_putsBack_2 (v1 : Int32) (σ : gb_M) : j_X10_putsBack_2 v1 σ =
  if 176 ≤ v1 then
    some (none, σ)
  else
    gb_gd (gb_in v1 176) (gb_gd (gb_in v1 176) (j_X10_putsBack_2 (v1 + 1) (gb_si σ 37 0 v1.toNatClampNeg (σ.1 38 0 v1.toNatClampNeg)))) := (gb_fx_eq (L_X10_putsBack) 2 _ _ _).trans rfl
set_option maxRecDepth 20000 in
theorem e_X10_putsBack  (σ : gb_M) : f_X10_putsBack [gR 36 0] σ =
  j_X10_putsBack_2 0 σ := (gb_hide_at _ _ _).trans rfl
noncomputable def j_X10_did_13 (v1 : Int32) (σ : gb_M) : gb_R := K_X10_did 13 [(0, gR 36 0), (1, gI v1)] [] σ
noncomputable def j_X10_did_54 (v1 : Int32) (σ : gb_M) : gb_R := K_X10_did 54 [(0, gR 36 0), (1, gI v1)] [] σ
set_option maxRecDepth 20000 in
theorem e_X10_did_13 (v1 : Int32) (σ : gb_M) : j_X10_did_13 v1 σ =
  if 1408 ≤ v1 then
    j_X10_did_54 0 (gb_si σ 36 0 5 ((σ.1 36 0 5) - 1))
  else
    gb_gd (gb_in v1 1408) (gb_gd (gb_in (v1 - 176) 1408) (j_X10_did_13 (v1 + 1) (gb_si σ 40 0 (v1 - 176).toNatClampNeg (σ.1 40 0 v1.toNatClampNeg)))) := (gb_fx_eq (L_X10_did) 13 _ _ _).trans rfl
set_option maxRecDepth 20000 in
theorem e_X10_did_54 (v1 : Int32) (σ : gb_M) : j_X10_did_54 v1 σ =
  if 176 ≤ v1 then
    some (none, gb_si σ 36 0 5 ((σ.1 36 0 5) + 1))
  else
    gb_gd (gb_in v1 176) (gb_gd (gb_in ((176 * (σ.1 36 0 5)) + v1) 1408) (j_X10_did_54 (v1 + 1) (gb_si σ 40 0 ((176 * (σ.1 36 0 5)) + v1).toNatClampNeg (σ.1 38 0 v1.toNatClampNeg)))) := (gb_fx_eq (L_X10_did) 54 _ _ _).trans rfl
set_option maxRecDepth 20000 in
theorem e_X10_did  (σ : gb_M) : f_X10_did [gR 36 0] σ =
  if σ.1 36 0 5 = 8 then j_X10_did_13 176 σ else j_X10_did_54 0 σ := (gb_hide_at _ _ _).trans rfl
set_option maxRecDepth 20000 in
theorem e_X10_does  (σ : gb_M) : f_X10_does [gR 36 0] σ =
  gb_b0 (f_X10_keepsAside [gR 36 0] σ) (fun s1 => gb_b0 (f_X10_did [gR 36 0] s1) (fun s2 => some (none, s2))) := (gb_hide_at _ _ _).trans rfl
set_option maxRecDepth 20000 in
theorem e_X10_unitOn (a1 : Int32) (a2 : Int32) (a3 : Int32) (σ : gb_M) : f_X10_unitOn [gR 36 0, gI a1, gI a2, gI a3] σ =
  gb_b1 (f_X10_layerOf [gR 36 0, gI a2, gI a3, gI 0] σ) (fun x2 s1 => gb_b1 (f_X10_layerOf [gR 36 0, gI a2, gI a3, gI 2] s1) (fun x4 s3 => gb_gd (gb_in (6 + x2) 176) (gb_gd (gb_in (0 + x2) 176) (some (some (gI (if 0 < (s3.1 37 0 (0 + x2).toNatClampNeg) - (if 0 < (a1 - x4) - (s3.1 37 0 (6 + x2).toNatClampNeg) then (a1 - x4) - (s3.1 37 0 (6 + x2).toNatClampNeg) else 0) then (s3.1 37 0 (0 + x2).toNatClampNeg) - (if 0 < (a1 - x4) - (s3.1 37 0 (6 + x2).toNatClampNeg) then (a1 - x4) - (s3.1 37 0 (6 + x2).toNatClampNeg) else 0) else 0)), s3))))) := (gb_hide_at _ _ _).trans rfl
set_option maxRecDepth 20000 in
theorem e_X10_unit (a1 : Int32) (a2 : Int32) (σ : gb_M) : f_X10_unit [gR 36 0, gI a1, gI a2] σ =
  gb_gd (gb_in 174 176) (gb_b1 (f_X10_unitOn [gR 36 0, gI (σ.1 37 0 (174 : Int32).toNatClampNeg), gI a1, gI a2] σ) (fun x2 s1 => some (some (gI x2), s1))) := (gb_hide_at _ _ _).trans rfl
noncomputable def j_X10_rawOn_5 (v1 : Int32) (v2 : Int32) (v3 : Int32) (v4 : Int32) (σ : gb_M) : gb_R := K_X10_rawOn 5 [(0, gR 36 0), (1, gI v1), (2, gI v2), (3, gI v3), (4, gI v4)] [] σ
set_option maxRecDepth 20000 in
theorem e_X10_rawOn_5 (v1 : Int32) (v2 : Int32) (v3 : Int32) (v4 : Int32) (σ : gb_M) : j_X10_rawOn_5 v1 v2 v3 v4 σ =
  gb_b1 (f_X10_many [gR 36 0, gI v2] σ) (fun x2 s1 => if x2 ≤ v4 then
    some (some (gI v3), s1)
  else
    gb_b1 (f_X10_layerOf [gR 36 0, gI v2, gI v4, gI 1] s1) (fun x4 s3 => gb_b1 (f_X10_unitOn [gR 36 0, gI v1, gI v2, gI v4] s3) (fun x6 s5 => j_X10_rawOn_5 v1 v2 (v3 + (x4 * x6)) (v4 + 1) s5))) := (gb_fx_eq (L_X10_rawOn) 5 _ _ _).trans rfl
set_option maxRecDepth 20000 in
theorem e_X10_rawOn (a1 : Int32) (a2 : Int32) (σ : gb_M) : f_X10_rawOn [gR 36 0, gI a1, gI a2] σ =
  j_X10_rawOn_5 a1 a2 0 0 σ := (gb_hide_at _ _ _).trans rfl
set_option maxRecDepth 20000 in
theorem e_X10_mixedOf (a1 : Int32) (a2 : Int32) (a3 : Int32) (σ : gb_M) : f_X10_mixedOf [gR 36 0, gI a1, gI a2, gI a3] σ =
  if a2 = a3 then
    some (some (gI 0), σ)
  else
    gb_b1 (f_X10_loss [gR 36 0, gI a2, gI a3] σ) (fun x2 s1 => if 0 ≤ x2 then
      gb_b1 (f_X10_loss [gR 36 0, gI a2, gI a3] s1) (fun x4 s3 => gb_b1 (f_X10_tonsOf [gR 36 0, gI a1, gI a2] s3) (fun x6 s5 => gb_b1 (f_X10_tonsOf [gR 36 0, gI a1, gI a3] s5) (fun x8 s7 => some (some (gI (x4 * (if x8 < x6 then x8 else x6))), s7))))
    else
      some (some (gI 0), s1)) := (gb_hide_at _ _ _).trans rfl
noncomputable def j_X10_mixedIn_4 (v1 : Int32) (v2 : Int32) (v3 : Int32) (σ : gb_M) : gb_R := K_X10_mixedIn 4 [(0, gR 36 0), (1, gI v1), (2, gI v2), (3, gI v3)] [] σ
noncomputable def j_X10_mixedIn_15 (v1 : Int32) (v2 : Int32) (v3 : Int32) (v4 : Int32) (σ : gb_M) : gb_R := K_X10_mixedIn 15 [(0, gR 36 0), (1, gI v1), (2, gI v2), (3, gI v3), (4, gI v4)] [] σ
set_option maxRecDepth 20000 in
theorem e_X10_mixedIn_4 (v1 : Int32) (v2 : Int32) (v3 : Int32) (σ : gb_M) : j_X10_mixedIn_4 v1 v2 v3 σ =
  if 6 ≤ v3 then some (some (gI v2), σ) else j_X10_mixedIn_15 v1 v2 v3 (v3 + 1) σ := (gb_fx_eq (L_X10_mixedIn) 4 _ _ _).trans rfl
set_option maxRecDepth 20000 in
theorem e_X10_mixedIn_15 (v1 : Int32) (v2 : Int32) (v3 : Int32) (v4 : Int32) (σ : gb_M) : j_X10_mixedIn_15 v1 v2 v3 v4 σ =
  if 6 ≤ v4 then
    j_X10_mixedIn_4 v1 v2 (v3 + 1) σ
  else
    gb_b1 (f_X10_mixedOf [gR 36 0, gI v1, gI v3, gI v4] σ) (fun x2 s1 => j_X10_mixedIn_15 v1 (v2 + x2) v3 (v4 + 1) s1) := (gb_fx_eq (L_X10_mixedIn) 15 _ _ _).trans rfl
set_option maxRecDepth 20000 in
theorem e_X10_mixedIn (a1 : Int32) (σ : gb_M) : f_X10_mixedIn [gR 36 0, gI a1] σ =
  j_X10_mixedIn_4 a1 0 0 σ := (gb_hide_at _ _ _).trans rfl
set_option maxRecDepth 20000 in
theorem e_X10_valueOn (a1 : Int32) (a2 : Int32) (σ : gb_M) : f_X10_valueOn [gR 36 0, gI a1, gI a2] σ =
  gb_b1 (f_X10_rawOn [gR 36 0, gI a1, gI a2] σ) (fun x2 s1 => gb_b1 (f_X10_mixedIn [gR 36 0, gI a2] s1) (fun x4 s3 => some (some (gI (x2 - x4)), s3))) := (gb_hide_at _ _ _).trans rfl
set_option maxRecDepth 20000 in
theorem e_X10_valueOf (a1 : Int32) (σ : gb_M) : f_X10_valueOf [gR 36 0, gI a1] σ =
  gb_gd (gb_in 174 176) (gb_b1 (f_X10_valueOn [gR 36 0, gI (σ.1 37 0 (174 : Int32).toNatClampNeg), gI a1] σ) (fun x2 s1 => some (some (gI x2), s1))) := (gb_hide_at _ _ _).trans rfl
noncomputable def j_X10_allOn_4 (v1 : Int32) (v2 : Int32) (v3 : Int32) (σ : gb_M) : gb_R := K_X10_allOn 4 [(0, gR 36 0), (1, gI v1), (2, gI v2), (3, gI v3)] [] σ
set_option maxRecDepth 20000 in
theorem e_X10_allOn_4 (v1 : Int32) (v2 : Int32) (v3 : Int32) (σ : gb_M) : j_X10_allOn_4 v1 v2 v3 σ =
  if 6 ≤ v3 then
    some (some (gI v2), σ)
  else
    gb_b1 (f_X10_valueOn [gR 36 0, gI v1, gI v3] σ) (fun x2 s1 => j_X10_allOn_4 v1 (v2 + x2) (v3 + 1) s1) := (gb_fx_eq (L_X10_allOn) 4 _ _ _).trans rfl
set_option maxRecDepth 20000 in
theorem e_X10_allOn (a1 : Int32) (σ : gb_M) : f_X10_allOn [gR 36 0, gI a1] σ =
  j_X10_allOn_4 a1 0 0 σ := (gb_hide_at _ _ _).trans rfl
set_option maxRecDepth 20000 in
theorem e_X10_allNow  (σ : gb_M) : f_X10_allNow [gR 36 0] σ =
  gb_gd (gb_in 174 176) (gb_b1 (f_X10_allOn [gR 36 0, gI (σ.1 37 0 (174 : Int32).toNatClampNeg)] σ) (fun x2 s1 => some (some (gI x2), s1))) := (gb_hide_at _ _ _).trans rfl
noncomputable def j_X10_mayMix_2 (v1 : Int32) (v2 : Int32) (v3 : Int32) (σ : gb_M) : gb_R := K_X10_mayMix 2 [(0, gR 36 0), (1, gI v1), (2, gI v2), (3, gI v3)] [] σ
set_option maxRecDepth 20000 in
theorem e_X10_mayMix_2 (v1 : Int32) (v2 : Int32) (v3 : Int32) (σ : gb_M) : j_X10_mayMix_2 v1 v2 v3 σ =
  gb_b1 (f_X10_many [gR 36 0, gI v1] σ) (fun x2 s1 => if x2 ≤ v3 then
    some (some (gI 1), s1)
  else
    gb_b1 (f_X10_layerOf [gR 36 0, gI v1, gI v3, gI 0] s1) (fun x4 s3 => gb_b1 (f_X10_loss [gR 36 0, gI v2, gI x4] s3) (fun x6 s5 => if 0 ≤ x6 then j_X10_mayMix_2 v1 v2 (v3 + 1) s5 else some (some (gI 0), s5)))) := (gb_fx_eq (L_X10_mayMix) 2 _ _ _).trans rfl
set_option maxRecDepth 20000 in
theorem e_X10_mayMix (a1 : Int32) (a2 : Int32) (σ : gb_M) : f_X10_mayMix [gR 36 0, gI a1, gI a2] σ =
  j_X10_mayMix_2 a1 a2 0 σ := (gb_hide_at _ _ _).trans rfl
set_option maxRecDepth 20000 in
theorem e_X10_isOnTop (a1 : Int32) (a2 : Int32) (a3 : Int32) (σ : gb_M) : f_X10_isOnTop [gR 36 0, gI a1, gI a2, gI a3] σ =
  gb_b1 (f_X10_many [gR 36 0, gI a1] σ) (fun x2 s1 => if x2 - 1 < 0 then
    some (some (gI 0), s1)
  else
    gb_b1 (f_X10_layerOf [gR 36 0, gI a1, gI (x2 - 1), gI 0] s1) (fun x4 s3 => if x4 = a2 then
      gb_b1 (f_X10_layerOf [gR 36 0, gI a1, gI (x2 - 1), gI 2] s3) (fun x6 s5 => if x6 = a3 then some (some (gI 1), s5) else some (some (gI 0), s5))
    else
      some (some (gI 0), s3))) := (gb_hide_at _ _ _).trans rfl
set_option maxRecDepth 20000 in
theorem e_X10_whyNot (a1 : Int32) (a2 : Int32) (a3 : Int32) (a4 : Int32) (σ : gb_M) : f_X10_whyNot [gR 36 0, gI a1, gI a2, gI a3, gI a4] σ =
  gb_b1 (f_X10_isClosed [gR 36 0, gI a1] σ) (fun x2 s1 => if x2 = 0 then
    gb_b1 (f_X10_tonsIn [gR 36 0, gI a1] s1) (fun x4 s3 => gb_gd (gb_in (48 + a1) 176) (if x4 + a3 ≤ s3.1 37 0 (48 + a1).toNatClampNeg then
      gb_b1 (f_X10_mayMix [gR 36 0, gI a1, gI a2] s3) (fun x6 s5 => if x6 = 0 then
        some (some (gI (-5)), s5)
      else
        gb_b1 (f_X10_many [gR 36 0, gI a1] s5) (fun x8 s7 => if x8 = 6 then
          gb_b1 (f_X10_isOnTop [gR 36 0, gI a1, gI a2, gI a4] s7) (fun x10 s9 => if x10 = 0 then some (some (gI (-6)), s9) else some (some (gI 0), s9))
        else
          some (some (gI 0), s7)))
    else
      some (some (gI (-4)), s3)))
  else
    some (some (gI (-2)), s1)) := (gb_hide_at _ _ _).trans rfl
set_option maxRecDepth 20000 in
theorem e_X10_lies (a1 : Int32) (a2 : Int32) (a3 : Int32) (a4 : Int32) (σ : gb_M) : f_X10_lies [gR 36 0, gI a1, gI a2, gI a3, gI a4] σ =
  gb_b1 (f_X10_isOnTop [gR 36 0, gI a1, gI a2, gI a4] σ) (fun x2 s1 => if x2 = 0 then
    gb_b1 (f_X10_many [gR 36 0, gI a1] s1) (fun x4 s3 => gb_b0 (f_X10_sets [gR 36 0, gI a1, gI x4, gI a2, gI a3, gI a4] s3) (fun s5 => gb_gd (gb_in (60 + a1) 176) (gb_gd (gb_in (60 + a1) 176) (some (none, gb_si s5 37 0 (60 + a1).toNatClampNeg ((s5.1 37 0 (60 + a1).toNatClampNeg) + 1))))))
  else
    gb_b1 (f_X10_many [gR 36 0, gI a1] s1) (fun x7 s6 => gb_b1 (f_X10_many [gR 36 0, gI a1] s6) (fun x9 s8 => gb_b1 (f_X10_layerOf [gR 36 0, gI a1, gI (x9 - 1), gI 1] s8) (fun x11 s10 => gb_b0 (f_X10_sets [gR 36 0, gI a1, gI (x7 - 1), gI a2, gI (x11 + a3), gI a4] s10) (fun s12 => some (none, s12)))))) := (gb_hide_at _ _ _).trans rfl
noncomputable def j_X10_goes_12 (v1 : Int32) (v3 : Int32) (σ : gb_M) : gb_R := K_X10_goes 12 [(0, gR 36 0), (1, gI v1), (3, gI v3)] [] σ
noncomputable def j_X10_goes_181 (v1 : Int32) (v3 : Int32) (v6 : Int32) (σ : gb_M) : gb_R := K_X10_goes 181 [(0, gR 36 0), (1, gI v1), (3, gI v3), (6, gI v6)] [] σ
set_option maxRecDepth 20000 in
theorem e_X10_goes_12 (v1 : Int32) (v3 : Int32) (σ : gb_M) : j_X10_goes_12 v1 v3 σ =
  if v3 ≤ 0 then
    some (none, σ)
  else
    gb_b1 (f_X10_layerOf [gR 36 0, gI v1, gI 0, gI 1] σ) (fun x2 s1 => gb_b1 (f_X10_unit [gR 36 0, gI v1, gI 0] s1) (fun x4 s3 => if s3.1 36 0 14 = 0 then
      gb_b1 (f_X10_layerOf [gR 36 0, gI v1, gI 0, gI 0] (gb_si s3 36 0 15 x4)) (fun x6 s5 => gb_gd (gb_in ((gb_si s3 36 0 15 x4).1 36 0 14) 6) (gb_gd (gb_in ((gb_si s5 43 0 ((gb_si s3 36 0 15 x4).1 36 0 14).toNatClampNeg x6).1 36 0 14) 6) (gb_b1 (f_X10_layerOf [gR 36 0, gI v1, gI 0, gI 2] (gb_si (gb_si s5 43 0 ((gb_si s3 36 0 15 x4).1 36 0 14).toNatClampNeg x6) 44 0 ((gb_si s5 43 0 ((gb_si s3 36 0 15 x4).1 36 0 14).toNatClampNeg x6).1 36 0 14).toNatClampNeg (if x2 < v3 then x2 else v3))) (fun x8 s7 => gb_gd (gb_in ((gb_si (gb_si s5 43 0 ((gb_si s3 36 0 15 x4).1 36 0 14).toNatClampNeg x6) 44 0 ((gb_si s5 43 0 ((gb_si s3 36 0 15 x4).1 36 0 14).toNatClampNeg x6).1 36 0 14).toNatClampNeg (if x2 < v3 then x2 else v3)).1 36 0 14) 6) (gb_b1 (f_X10_layerOf [gR 36 0, gI v1, gI 0, gI 1] (gb_si (gb_si s7 45 0 ((gb_si (gb_si s5 43 0 ((gb_si s3 36 0 15 x4).1 36 0 14).toNatClampNeg x6) 44 0 ((gb_si s5 43 0 ((gb_si s3 36 0 15 x4).1 36 0 14).toNatClampNeg x6).1 36 0 14).toNatClampNeg (if x2 < v3 then x2 else v3)).1 36 0 14).toNatClampNeg x8) 36 0 14 (((gb_si s7 45 0 ((gb_si (gb_si s5 43 0 ((gb_si s3 36 0 15 x4).1 36 0 14).toNatClampNeg x6) 44 0 ((gb_si s5 43 0 ((gb_si s3 36 0 15 x4).1 36 0 14).toNatClampNeg x6).1 36 0 14).toNatClampNeg (if x2 < v3 then x2 else v3)).1 36 0 14).toNatClampNeg x8).1 36 0 14) + 1))) (fun x10 s9 => if x10 ≤ (if x2 < v3 then x2 else v3) then
        gb_gd (gb_in (60 + v1) 176) (gb_gd (gb_in (60 + v1) 176) (j_X10_goes_181 v1 (v3 - (if x2 < v3 then x2 else v3)) 0 (gb_si s9 37 0 (60 + v1).toNatClampNeg ((s9.1 37 0 (60 + v1).toNatClampNeg) - 1))))
      else
        gb_b1 (f_X10_layerOf [gR 36 0, gI v1, gI 0, gI 0] s9) (fun x12 s11 => gb_b1 (f_X10_layerOf [gR 36 0, gI v1, gI 0, gI 1] s11) (fun x14 s13 => gb_b1 (f_X10_layerOf [gR 36 0, gI v1, gI 0, gI 2] s13) (fun x16 s15 => gb_b0 (f_X10_sets [gR 36 0, gI v1, gI 0, gI x12, gI (x14 - (if x2 < v3 then x2 else v3)), gI x16] s15) (fun s17 => j_X10_goes_12 v1 (v3 - (if x2 < v3 then x2 else v3)) s17))))))))))
    else
      gb_b1 (f_X10_layerOf [gR 36 0, gI v1, gI 0, gI 0] (gb_si s3 36 0 15 (if x4 < s3.1 36 0 15 then x4 else s3.1 36 0 15))) (fun x19 s18 => gb_gd (gb_in ((gb_si s3 36 0 15 (if x4 < s3.1 36 0 15 then x4 else s3.1 36 0 15)).1 36 0 14) 6) (gb_gd (gb_in ((gb_si s18 43 0 ((gb_si s3 36 0 15 (if x4 < s3.1 36 0 15 then x4 else s3.1 36 0 15)).1 36 0 14).toNatClampNeg x19).1 36 0 14) 6) (gb_b1 (f_X10_layerOf [gR 36 0, gI v1, gI 0, gI 2] (gb_si (gb_si s18 43 0 ((gb_si s3 36 0 15 (if x4 < s3.1 36 0 15 then x4 else s3.1 36 0 15)).1 36 0 14).toNatClampNeg x19) 44 0 ((gb_si s18 43 0 ((gb_si s3 36 0 15 (if x4 < s3.1 36 0 15 then x4 else s3.1 36 0 15)).1 36 0 14).toNatClampNeg x19).1 36 0 14).toNatClampNeg (if x2 < v3 then x2 else v3))) (fun x21 s20 => gb_gd (gb_in ((gb_si (gb_si s18 43 0 ((gb_si s3 36 0 15 (if x4 < s3.1 36 0 15 then x4 else s3.1 36 0 15)).1 36 0 14).toNatClampNeg x19) 44 0 ((gb_si s18 43 0 ((gb_si s3 36 0 15 (if x4 < s3.1 36 0 15 then x4 else s3.1 36 0 15)).1 36 0 14).toNatClampNeg x19).1 36 0 14).toNatClampNeg (if x2 < v3 then x2 else v3)).1 36 0 14) 6) (gb_b1 (f_X10_layerOf [gR 36 0, gI v1, gI 0, gI 1] (gb_si (gb_si s20 45 0 ((gb_si (gb_si s18 43 0 ((gb_si s3 36 0 15 (if x4 < s3.1 36 0 15 then x4 else s3.1 36 0 15)).1 36 0 14).toNatClampNeg x19) 44 0 ((gb_si s18 43 0 ((gb_si s3 36 0 15 (if x4 < s3.1 36 0 15 then x4 else s3.1 36 0 15)).1 36 0 14).toNatClampNeg x19).1 36 0 14).toNatClampNeg (if x2 < v3 then x2 else v3)).1 36 0 14).toNatClampNeg x21) 36 0 14 (((gb_si s20 45 0 ((gb_si (gb_si s18 43 0 ((gb_si s3 36 0 15 (if x4 < s3.1 36 0 15 then x4 else s3.1 36 0 15)).1 36 0 14).toNatClampNeg x19) 44 0 ((gb_si s18 43 0 ((gb_si s3 36 0 15 (if x4 < s3.1 36 0 15 then x4 else s3.1 36 0 15)).1 36 0 14).toNatClampNeg x19).1 36 0 14).toNatClampNeg (if x2 < v3 then x2 else v3)).1 36 0 14).toNatClampNeg x21).1 36 0 14) + 1))) (fun x23 s22 => if x23 ≤ (if x2 < v3 then x2 else v3) then
        gb_gd (gb_in (60 + v1) 176) (gb_gd (gb_in (60 + v1) 176) (j_X10_goes_181 v1 (v3 - (if x2 < v3 then x2 else v3)) 0 (gb_si s22 37 0 (60 + v1).toNatClampNeg ((s22.1 37 0 (60 + v1).toNatClampNeg) - 1))))
      else
        gb_b1 (f_X10_layerOf [gR 36 0, gI v1, gI 0, gI 0] s22) (fun x25 s24 => gb_b1 (f_X10_layerOf [gR 36 0, gI v1, gI 0, gI 1] s24) (fun x27 s26 => gb_b1 (f_X10_layerOf [gR 36 0, gI v1, gI 0, gI 2] s26) (fun x29 s28 => gb_b0 (f_X10_sets [gR 36 0, gI v1, gI 0, gI x25, gI (x27 - (if x2 < v3 then x2 else v3)), gI x29] s28) (fun s30 => j_X10_goes_12 v1 (v3 - (if x2 < v3 then x2 else v3)) s30)))))))))))) := (gb_fx_eq (L_X10_goes) 12 _ _ _).trans rfl
set_option maxRecDepth 20000 in
theorem e_X10_goes_181 (v1 : Int32) (v3 : Int32) (v6 : Int32) (σ : gb_M) : j_X10_goes_181 v1 v3 v6 σ =
  gb_b1 (f_X10_many [gR 36 0, gI v1] σ) (fun x32 s31 => if x32 ≤ v6 then
    j_X10_goes_12 v1 v3 s31
  else
    gb_b1 (f_X10_layerOf [gR 36 0, gI v1, gI (v6 + 1), gI 0] s31) (fun x34 s33 => gb_b1 (f_X10_layerOf [gR 36 0, gI v1, gI (v6 + 1), gI 1] s33) (fun x36 s35 => gb_b1 (f_X10_layerOf [gR 36 0, gI v1, gI (v6 + 1), gI 2] s35) (fun x38 s37 => gb_b0 (f_X10_sets [gR 36 0, gI v1, gI v6, gI x34, gI x36, gI x38] s37) (fun s39 => j_X10_goes_181 v1 v3 (v6 + 1) s39))))) := (gb_fx_eq (L_X10_goes) 181 _ _ _).trans rfl
set_option maxRecDepth 20000 in
theorem e_X10_goes (a1 : Int32) (a2 : Int32) (σ : gb_M) : f_X10_goes [gR 36 0, gI a1, gI a2] σ =
  j_X10_goes_12 a1 a2 (gb_si (gb_si σ 36 0 14 0) 36 0 15 0) := (gb_hide_at _ _ _).trans rfl
