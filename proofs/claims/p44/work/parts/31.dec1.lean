/-! DEC: the blocks as equations, printed by wip/p44/dec.py -/
noncomputable def j_X5_read_15 (j0 : Nat) (v2 : Int32) (σ : gb_M) : gb_R := K_X5_read 15 [(0, gR 3 j0), (1, gR 1 0), (2, gI v2)] [] σ
set_option maxRecDepth 20000 in
theorem e_X5_read_15 (j0 : Nat) (v2 : Int32) (σ : gb_M) : j_X5_read_15 j0 v2 σ =
  if 200 < v2 then
    gb_b1 (f_X8_fault [gR 1 0] σ) (fun x5 s4 => some (some (gI x5), s4))
  else
    gb_b1 (f_X5_readLine [gR 3 j0, gR 1 0] σ) (fun x7 s6 => if x7 = 0 then
      gb_b1 (f_X8_fault [gR 1 0] s6) (fun x9 s8 => some (some (gI x9), s8))
    else
      gb_b1 (f_X8_ended [gR 1 0] s6) (fun x11 s10 => if x11 = 0 then
        gb_b1 (f_X8_takes [gR 1 0, gI 59] s10) (fun x13 s12 => if x13 = 0 then gb_b1 (f_X8_fault [gR 1 0] s12) (fun x15 s14 => some (some (gI x15), s14)) else j_X5_read_15 j0 (v2 + 1) s12)
      else
        some (some (gI v2), s10))) := (gb_fx_eq (L_X5_read) 15 _ _ _).trans rfl
set_option maxRecDepth 20000 in
theorem e_X5_read (j0 : Nat) (σ : gb_M) : f_X5_read [gR 3 j0, gR 1 0] σ =
  gb_b0 (f_X5_clear [gR 3 j0] σ) (fun s1 => gb_b1 (f_X8_ended [gR 1 0] s1) (fun x3 s2 => if x3 = 0 then j_X5_read_15 j0 1 s2 else some (some (gI 0), s2))) := (gb_hide_at _ _ _).trans rfl
noncomputable def j_X7_clear_2 (j0 : Nat) (v1 : Int32) (σ : gb_M) : gb_R := K_X7_clear 2 [(0, gR 10 j0), (1, gI v1)] [] σ
noncomputable def j_X7_clear_31 (j0 : Nat) (v1 : Int32) (σ : gb_M) : gb_R := K_X7_clear 31 [(0, gR 10 j0), (1, gI v1)] [] σ
noncomputable def j_X7_clear_66 (j0 : Nat) (v1 : Int32) (σ : gb_M) : gb_R := K_X7_clear 66 [(0, gR 10 j0), (1, gI v1)] [] σ
set_option maxRecDepth 20000 in
theorem e_X7_clear_2 (j0 : Nat) (v1 : Int32) (σ : gb_M) : j_X7_clear_2 j0 v1 σ =
  if 6 ≤ v1 then
    j_X7_clear_31 j0 0 σ
  else
    gb_gd (gb_in v1 6) (gb_gd (gb_in v1 6) (j_X7_clear_2 j0 (v1 + 1) (gb_si σ 11 j0 v1.toNatClampNeg (σ.1 4 0 v1.toNatClampNeg)))) := (gb_fx_eq (L_X7_clear) 2 _ _ _).trans rfl
set_option maxRecDepth 20000 in
theorem e_X7_clear_31 (j0 : Nat) (v1 : Int32) (σ : gb_M) : j_X7_clear_31 j0 v1 σ =
  if 6 ≤ v1 then
    j_X7_clear_66 j0 0 σ
  else
    gb_gd (gb_in v1 6) (gb_gd (gb_in v1 6) (gb_gd (gb_in v1 6) (j_X7_clear_31 j0 (v1 + 1) (gb_si (gb_si (gb_si σ 12 j0 v1.toNatClampNeg 0) 13 j0 v1.toNatClampNeg 0) 14 j0 v1.toNatClampNeg 0)))) := (gb_fx_eq (L_X7_clear) 31 _ _ _).trans rfl
set_option maxRecDepth 20000 in
theorem e_X7_clear_66 (j0 : Nat) (v1 : Int32) (σ : gb_M) : j_X7_clear_66 j0 v1 σ =
  if 36 ≤ v1 then
    some (none, gb_si (gb_si σ 10 j0 9 0) 10 j0 10 0)
  else
    gb_gd (gb_in v1 36) (j_X7_clear_66 j0 (v1 + 1) (gb_si σ 18 j0 v1.toNatClampNeg 0)) := (gb_fx_eq (L_X7_clear) 66 _ _ _).trans rfl
set_option maxRecDepth 20000 in
theorem e_X7_clear (j0 : Nat) (σ : gb_M) : f_X7_clear [gR 10 j0] σ =
  j_X7_clear_2 j0 0 σ := (gb_hide_at _ _ _).trans rfl
noncomputable def j_X7_gradesIn_4 (j0 : Nat) (v1 : Int32) (v2 : Int32) (v3 : Int32) (σ : gb_M) : gb_R := K_X7_gradesIn 4 [(0, gR 10 j0), (1, gI v1), (2, gI v2), (3, gI v3)] [] σ
set_option maxRecDepth 20000 in
theorem e_X7_gradesIn_4 (j0 : Nat) (v1 : Int32) (v2 : Int32) (v3 : Int32) (σ : gb_M) : j_X7_gradesIn_4 j0 v1 v2 v3 σ =
  if 6 ≤ v3 then
    some (some (gI v2), σ)
  else
    gb_gd (gb_in ((v1 * 6) + v3) 36) (if σ.1 18 j0 ((v1 * 6) + v3).toNatClampNeg ≤ 0 then j_X7_gradesIn_4 j0 v1 v2 (v3 + 1) σ else j_X7_gradesIn_4 j0 v1 (v2 ||| (1 <<< (v3 &&& 31))) (v3 + 1) σ) := (gb_fx_eq (L_X7_gradesIn) 4 _ _ _).trans rfl
set_option maxRecDepth 20000 in
theorem e_X7_gradesIn (j0 : Nat) (a1 : Int32) (σ : gb_M) : f_X7_gradesIn [gR 10 j0, gI a1] σ =
  j_X7_gradesIn_4 j0 a1 0 0 σ := (gb_hide_at _ _ _).trans rfl
noncomputable def j_X7_tonsOf_4 (j0 : Nat) (v1 : Int32) (v2 : Int32) (v3 : Int32) (σ : gb_M) : gb_R := K_X7_tonsOf 4 [(0, gR 10 j0), (1, gI v1), (2, gI v2), (3, gI v3)] [] σ
set_option maxRecDepth 20000 in
theorem e_X7_tonsOf_4 (j0 : Nat) (v1 : Int32) (v2 : Int32) (v3 : Int32) (σ : gb_M) : j_X7_tonsOf_4 j0 v1 v2 v3 σ =
  if 6 ≤ v3 then
    some (some (gI v2), σ)
  else
    gb_gd (gb_in ((v3 * 6) + v1) 36) (j_X7_tonsOf_4 j0 v1 (v2 + (σ.1 18 j0 ((v3 * 6) + v1).toNatClampNeg)) (v3 + 1) σ) := (gb_fx_eq (L_X7_tonsOf) 4 _ _ _).trans rfl
set_option maxRecDepth 20000 in
theorem e_X7_tonsOf (j0 : Nat) (a1 : Int32) (σ : gb_M) : f_X7_tonsOf [gR 10 j0, gI a1] σ =
  j_X7_tonsOf_4 j0 a1 0 0 σ := (gb_hide_at _ _ _).trans rfl
noncomputable def j_X7_tonsInAll_4 (j0 : Nat) (v1 : Int32) (v2 : Int32) (σ : gb_M) : gb_R := K_X7_tonsInAll 4 [(0, gR 10 j0), (1, gI v1), (2, gI v2)] [] σ
set_option maxRecDepth 20000 in
theorem e_X7_tonsInAll_4 (j0 : Nat) (v1 : Int32) (v2 : Int32) (σ : gb_M) : j_X7_tonsInAll_4 j0 v1 v2 σ =
  if 6 ≤ v2 then some (some (gI v1), σ) else gb_gd (gb_in v2 6) (j_X7_tonsInAll_4 j0 (v1 + (σ.1 14 j0 v2.toNatClampNeg)) (v2 + 1) σ) := (gb_fx_eq (L_X7_tonsInAll) 4 _ _ _).trans rfl
set_option maxRecDepth 20000 in
theorem e_X7_tonsInAll (j0 : Nat) (σ : gb_M) : f_X7_tonsInAll [gR 10 j0] σ =
  j_X7_tonsInAll_4 j0 0 0 σ := (gb_hide_at _ _ _).trans rfl
noncomputable def j_X7_layersInAll_4 (j0 : Nat) (v1 : Int32) (v2 : Int32) (σ : gb_M) : gb_R := K_X7_layersInAll 4 [(0, gR 10 j0), (1, gI v1), (2, gI v2)] [] σ
set_option maxRecDepth 20000 in
theorem e_X7_layersInAll_4 (j0 : Nat) (v1 : Int32) (v2 : Int32) (σ : gb_M) : j_X7_layersInAll_4 j0 v1 v2 σ =
  if 6 ≤ v2 then some (some (gI v1), σ) else gb_gd (gb_in v2 6) (j_X7_layersInAll_4 j0 (v1 + (σ.1 13 j0 v2.toNatClampNeg)) (v2 + 1) σ) := (gb_fx_eq (L_X7_layersInAll) 4 _ _ _).trans rfl
set_option maxRecDepth 20000 in
theorem e_X7_layersInAll (j0 : Nat) (σ : gb_M) : f_X7_layersInAll [gR 10 j0] σ =
  j_X7_layersInAll_4 j0 0 0 σ := (gb_hide_at _ _ _).trans rfl
noncomputable def j_X7_closedBins_4 (j0 : Nat) (v1 : Int32) (v2 : Int32) (σ : gb_M) : gb_R := K_X7_closedBins 4 [(0, gR 10 j0), (1, gI v1), (2, gI v2)] [] σ
set_option maxRecDepth 20000 in
theorem e_X7_closedBins_4 (j0 : Nat) (v1 : Int32) (v2 : Int32) (σ : gb_M) : j_X7_closedBins_4 j0 v1 v2 σ =
  if 6 ≤ v2 then
    some (some (gI v1), σ)
  else
    gb_b1 (f_X7_closed [gR 10 j0, gI v2] σ) (fun x2 s1 => if x2 = 0 then j_X7_closedBins_4 j0 v1 (v2 + 1) s1 else j_X7_closedBins_4 j0 (v1 ||| (1 <<< (v2 &&& 31))) (v2 + 1) s1) := (gb_fx_eq (L_X7_closedBins) 4 _ _ _).trans rfl
set_option maxRecDepth 20000 in
theorem e_X7_closedBins (j0 : Nat) (σ : gb_M) : f_X7_closedBins [gR 10 j0] σ =
  j_X7_closedBins_4 j0 0 0 σ := (gb_hide_at _ _ _).trans rfl
noncomputable def j_X7_emptyBins_4 (j0 : Nat) (v1 : Int32) (v2 : Int32) (σ : gb_M) : gb_R := K_X7_emptyBins 4 [(0, gR 10 j0), (1, gI v1), (2, gI v2)] [] σ
set_option maxRecDepth 20000 in
theorem e_X7_emptyBins_4 (j0 : Nat) (v1 : Int32) (v2 : Int32) (σ : gb_M) : j_X7_emptyBins_4 j0 v1 v2 σ =
  if 6 ≤ v2 then
    some (some (gI v1), σ)
  else
    gb_gd (gb_in v2 6) (if σ.1 13 j0 v2.toNatClampNeg = 0 then j_X7_emptyBins_4 j0 (v1 ||| (1 <<< (v2 &&& 31))) (v2 + 1) σ else j_X7_emptyBins_4 j0 v1 (v2 + 1) σ) := (gb_fx_eq (L_X7_emptyBins) 4 _ _ _).trans rfl
set_option maxRecDepth 20000 in
theorem e_X7_emptyBins (j0 : Nat) (σ : gb_M) : f_X7_emptyBins [gR 10 j0] σ =
  j_X7_emptyBins_4 j0 0 0 σ := (gb_hide_at _ _ _).trans rfl
set_option maxRecDepth 20000 in
theorem e_X7_onTop (j0 : Nat) (a1 : Int32) (a2 : Int32) (a3 : Int32) (σ : gb_M) : f_X7_onTop [gR 10 j0, gI a1, gI a2, gI a3] σ =
  gb_gd (gb_in a1 6) (if σ.1 13 j0 a1.toNatClampNeg = 0 then
    some (some (gI 0), σ)
  else
    gb_gd (gb_in a1 6) (gb_b1 (f_X7_place [gI a1, gI ((σ.1 13 j0 a1.toNatClampNeg) - 1)] σ) (fun x2 s1 => gb_gd (gb_in x2 36) (if s1.1 15 j0 x2.toNatClampNeg = a2 then
      gb_gd (gb_in x2 36) (if s1.1 17 j0 x2.toNatClampNeg = a3 then some (some (gI 1), s1) else some (some (gI 0), s1))
    else
      some (some (gI 0), s1))))) := (gb_hide_at _ _ _).trans rfl
set_option maxRecDepth 20000 in
theorem e_X7_why (j0 : Nat) (a1 : Int32) (a2 : Int32) (a3 : Int32) (a4 : Int32) (σ : gb_M) : f_X7_why [gR 10 j0, gI a1, gI a2, gI a3, gI a4] σ =
  gb_b1 (f_X7_closed [gR 10 j0, gI a1] σ) (fun x2 s1 => if x2 = 0 then
    gb_gd (gb_in a1 6) (gb_gd (gb_in a1 6) (if (s1.1 14 j0 a1.toNatClampNeg) + a3 ≤ s1.1 6 0 a1.toNatClampNeg then
      gb_b1 (f_X7_gradesIn [gR 10 j0, gI a1] s1) (fun x4 s3 => gb_gd (gb_in a2 6) (if x4 &&& (s3.1 8 0 a2.toNatClampNeg) = 0 then
        gb_gd (gb_in a1 6) (if s3.1 13 j0 a1.toNatClampNeg < 6 then
          if 0 = 0 then some (some (gI 0), s3) else some (some (gI (-6)), s3)
        else
          gb_b1 (f_X7_onTop [gR 10 j0, gI a1, gI a2, gI a4] s3) (fun x6 s5 => if x6 = 0 then
            if 1 = 0 then some (some (gI 0), s5) else some (some (gI (-6)), s5)
          else
            if 0 = 0 then some (some (gI 0), s5) else some (some (gI (-6)), s5)))
      else
        some (some (gI (-5)), s3)))
    else
      some (some (gI (-4)), s1)))
  else
    some (some (gI (-2)), s1)) := (gb_hide_at _ _ _).trans rfl
set_option maxRecDepth 20000 in
theorem e_X7_lay (j0 : Nat) (a1 : Int32) (a2 : Int32) (a3 : Int32) (a4 : Int32) (σ : gb_M) : f_X7_lay [gR 10 j0, gI a1, gI a2, gI a3, gI a4] σ =
  gb_b1 (f_X7_onTop [gR 10 j0, gI a1, gI a2, gI a4] σ) (fun x2 s1 => if x2 = 0 then
    gb_gd (gb_in a1 6) (if 6 ≤ s1.1 13 j0 a1.toNatClampNeg then
      some (none, s1)
    else
      gb_gd (gb_in a1 6) (gb_b1 (f_X7_place [gI a1, gI (s1.1 13 j0 a1.toNatClampNeg)] s1) (fun x4 s3 => gb_gd (gb_in x4 36) (gb_gd (gb_in x4 36) (gb_gd (gb_in x4 36) (gb_gd (gb_in a1 6) (gb_gd (gb_in a1 6) (gb_gd (gb_in a1 6) (gb_gd (gb_in a1 6) (gb_gd (gb_in ((a1 * 6) + a2) 36) (gb_gd (gb_in ((a1 * 6) + a2) 36) (some (none, gb_si (gb_si (gb_si (gb_si (gb_si (gb_si s3 15 j0 x4.toNatClampNeg a2) 16 j0 x4.toNatClampNeg a3) 17 j0 x4.toNatClampNeg a4) 13 j0 a1.toNatClampNeg (((gb_si (gb_si (gb_si s3 15 j0 x4.toNatClampNeg a2) 16 j0 x4.toNatClampNeg a3) 17 j0 x4.toNatClampNeg a4).1 13 j0 a1.toNatClampNeg) + 1)) 14 j0 a1.toNatClampNeg (((gb_si (gb_si (gb_si (gb_si s3 15 j0 x4.toNatClampNeg a2) 16 j0 x4.toNatClampNeg a3) 17 j0 x4.toNatClampNeg a4) 13 j0 a1.toNatClampNeg (((gb_si (gb_si (gb_si s3 15 j0 x4.toNatClampNeg a2) 16 j0 x4.toNatClampNeg a3) 17 j0 x4.toNatClampNeg a4).1 13 j0 a1.toNatClampNeg) + 1)).1 14 j0 a1.toNatClampNeg) + a3)) 18 j0 ((a1 * 6) + a2).toNatClampNeg (((gb_si (gb_si (gb_si (gb_si (gb_si s3 15 j0 x4.toNatClampNeg a2) 16 j0 x4.toNatClampNeg a3) 17 j0 x4.toNatClampNeg a4) 13 j0 a1.toNatClampNeg (((gb_si (gb_si (gb_si s3 15 j0 x4.toNatClampNeg a2) 16 j0 x4.toNatClampNeg a3) 17 j0 x4.toNatClampNeg a4).1 13 j0 a1.toNatClampNeg) + 1)) 14 j0 a1.toNatClampNeg (((gb_si (gb_si (gb_si (gb_si s3 15 j0 x4.toNatClampNeg a2) 16 j0 x4.toNatClampNeg a3) 17 j0 x4.toNatClampNeg a4) 13 j0 a1.toNatClampNeg (((gb_si (gb_si (gb_si s3 15 j0 x4.toNatClampNeg a2) 16 j0 x4.toNatClampNeg a3) 17 j0 x4.toNatClampNeg a4).1 13 j0 a1.toNatClampNeg) + 1)).1 14 j0 a1.toNatClampNeg) + a3)).1 18 j0 ((a1 * 6) + a2).toNatClampNeg) + a3))))))))))))))
  else
    gb_gd (gb_in a1 6) (gb_b1 (f_X7_place [gI a1, gI ((s1.1 13 j0 a1.toNatClampNeg) - 1)] s1) (fun x6 s5 => gb_gd (gb_in x6 36) (gb_gd (gb_in x6 36) (gb_gd (gb_in a1 6) (gb_gd (gb_in a1 6) (gb_gd (gb_in ((a1 * 6) + a2) 36) (gb_gd (gb_in ((a1 * 6) + a2) 36) (some (none, gb_si (gb_si (gb_si s5 16 j0 x6.toNatClampNeg ((s5.1 16 j0 x6.toNatClampNeg) + a3)) 14 j0 a1.toNatClampNeg (((gb_si s5 16 j0 x6.toNatClampNeg ((s5.1 16 j0 x6.toNatClampNeg) + a3)).1 14 j0 a1.toNatClampNeg) + a3)) 18 j0 ((a1 * 6) + a2).toNatClampNeg (((gb_si (gb_si s5 16 j0 x6.toNatClampNeg ((s5.1 16 j0 x6.toNatClampNeg) + a3)) 14 j0 a1.toNatClampNeg (((gb_si s5 16 j0 x6.toNatClampNeg ((s5.1 16 j0 x6.toNatClampNeg) + a3)).1 14 j0 a1.toNatClampNeg) + a3)).1 18 j0 ((a1 * 6) + a2).toNatClampNeg) + a3))))))))))) := (gb_hide_at _ _ _).trans rfl
noncomputable def j_X7_tonsUnder_5 (j0 : Nat) (v1 : Int32) (v2 : Int32) (v3 : Int32) (v4 : Int32) (σ : gb_M) : gb_R := K_X7_tonsUnder 5 [(0, gR 10 j0), (1, gI v1), (2, gI v2), (3, gI v3), (4, gI v4)] [] σ
set_option maxRecDepth 20000 in
theorem e_X7_tonsUnder_5 (j0 : Nat) (v1 : Int32) (v2 : Int32) (v3 : Int32) (v4 : Int32) (σ : gb_M) : j_X7_tonsUnder_5 j0 v1 v2 v3 v4 σ =
  if v2 ≤ v4 then
    some (some (gI v3), σ)
  else
    gb_gd (gb_in v1 6) (if σ.1 13 j0 v1.toNatClampNeg ≤ v4 then
      some (some (gI v3), σ)
    else
      gb_b1 (f_X7_place [gI v1, gI v4] σ) (fun x2 s1 => gb_gd (gb_in x2 36) (j_X7_tonsUnder_5 j0 v1 v2 (v3 + (s1.1 16 j0 x2.toNatClampNeg)) (v4 + 1) s1))) := (gb_fx_eq (L_X7_tonsUnder) 5 _ _ _).trans rfl
set_option maxRecDepth 20000 in
theorem e_X7_tonsUnder (j0 : Nat) (a1 : Int32) (a2 : Int32) (σ : gb_M) : f_X7_tonsUnder [gR 10 j0, gI a1, gI a2] σ =
  j_X7_tonsUnder_5 j0 a1 a2 0 0 σ := (gb_hide_at _ _ _).trans rfl
set_option maxRecDepth 20000 in
theorem e_X7_partBelow (j0 : Nat) (a1 : Int32) (a2 : Int32) (a3 : Int32) (σ : gb_M) : f_X7_partBelow [gR 10 j0, gI a1, gI a2, gI a3] σ =
  gb_b1 (f_X7_tonsUnder [gR 10 j0, gI a1, gI a2] σ) (fun x2 s1 => gb_b1 (f_X7_place [gI a1, gI a2] s1) (fun x4 s3 => gb_gd (gb_in x4 36) (some (some (gI (if 0 < (if a3 - x2 < s3.1 16 j0 x4.toNatClampNeg then a3 - x2 else s3.1 16 j0 x4.toNatClampNeg) then (if a3 - x2 < s3.1 16 j0 x4.toNatClampNeg then a3 - x2 else s3.1 16 j0 x4.toNatClampNeg) else 0)), s3)))) := (gb_hide_at _ _ _).trans rfl
noncomputable def j_X7_tonsBelow_6 (j0 : Nat) (v1 : Int32) (v2 : Int32) (v3 : Int32) (v4 : Int32) (v5 : Int32) (σ : gb_M) : gb_R := K_X7_tonsBelow 6 [(0, gR 10 j0), (1, gI v1), (2, gI v2), (3, gI v3), (4, gI v4), (5, gI v5)] [] σ
set_option maxRecDepth 20000 in
theorem e_X7_tonsBelow_6 (j0 : Nat) (v1 : Int32) (v2 : Int32) (v3 : Int32) (v4 : Int32) (v5 : Int32) (σ : gb_M) : j_X7_tonsBelow_6 j0 v1 v2 v3 v4 v5 σ =
  gb_gd (gb_in v1 6) (if σ.1 13 j0 v1.toNatClampNeg ≤ v5 then
    some (some (gI v4), σ)
  else
    gb_b1 (f_X7_place [gI v1, gI v5] σ) (fun x2 s1 => gb_gd (gb_in x2 36) (if s1.1 15 j0 x2.toNatClampNeg = v3 then
      gb_b1 (f_X7_partBelow [gR 10 j0, gI v1, gI v5, gI v2] s1) (fun x4 s3 => j_X7_tonsBelow_6 j0 v1 v2 v3 (v4 + x4) (v5 + 1) s3)
    else
      j_X7_tonsBelow_6 j0 v1 v2 v3 v4 (v5 + 1) s1))) := (gb_fx_eq (L_X7_tonsBelow) 6 _ _ _).trans rfl
set_option maxRecDepth 20000 in
theorem e_X7_tonsBelow (j0 : Nat) (a1 : Int32) (a2 : Int32) (a3 : Int32) (σ : gb_M) : f_X7_tonsBelow [gR 10 j0, gI a1, gI a2, gI a3] σ =
  j_X7_tonsBelow_6 j0 a1 a2 a3 0 0 σ := (gb_hide_at _ _ _).trans rfl
set_option maxRecDepth 20000 in
theorem e_X7_unit (j0 : Nat) (a1 : Int32) (a2 : Int32) (σ : gb_M) : f_X7_unit [gR 10 j0, gI a1, gI a2] σ =
  gb_gd (gb_in a1 36) (gb_gd (gb_in a1 36) (gb_gd (gb_in (σ.1 15 j0 a1.toNatClampNeg) 6) (gb_gd (gb_in (σ.1 15 j0 a1.toNatClampNeg) 6) (some (some (gI (if 0 < (σ.1 11 j0 (σ.1 15 j0 a1.toNatClampNeg).toNatClampNeg) - (if 0 < (a2 - (σ.1 17 j0 a1.toNatClampNeg)) - (σ.1 5 0 (σ.1 15 j0 a1.toNatClampNeg).toNatClampNeg) then (a2 - (σ.1 17 j0 a1.toNatClampNeg)) - (σ.1 5 0 (σ.1 15 j0 a1.toNatClampNeg).toNatClampNeg) else 0) then (σ.1 11 j0 (σ.1 15 j0 a1.toNatClampNeg).toNatClampNeg) - (if 0 < (a2 - (σ.1 17 j0 a1.toNatClampNeg)) - (σ.1 5 0 (σ.1 15 j0 a1.toNatClampNeg).toNatClampNeg) then (a2 - (σ.1 17 j0 a1.toNatClampNeg)) - (σ.1 5 0 (σ.1 15 j0 a1.toNatClampNeg).toNatClampNeg) else 0) else 0)), σ))))) := (gb_hide_at _ _ _).trans rfl
noncomputable def j_X7_take_8 (j0 : Nat) (v1 : Int32) (v3 : Int32) (v4 : Int32) (v5 : Int32) (σ : gb_M) : gb_R := K_X7_take 8 [(0, gR 10 j0), (1, gI v1), (3, gI v3), (4, gI v4), (5, gI v5)] [] σ
set_option maxRecDepth 20000 in
theorem e_X7_take_8 (j0 : Nat) (v1 : Int32) (v3 : Int32) (v4 : Int32) (v5 : Int32) (σ : gb_M) : j_X7_take_8 j0 v1 v3 v4 v5 σ =
  gb_gd (gb_in v1 6) (if σ.1 13 j0 v1.toNatClampNeg ≤ v5 then
    gb_gd (gb_in v1 6) (some (none, gb_si σ 13 j0 v1.toNatClampNeg v4))
  else
    gb_b1 (f_X7_place [gI v1, gI v5] σ) (fun x2 s1 => gb_gd (gb_in x2 36) (gb_gd (gb_in v1 6) (gb_gd (gb_in v1 6) (gb_gd (gb_in x2 36) (gb_gd (gb_in ((v1 * 6) + ((gb_si s1 14 j0 v1.toNatClampNeg ((s1.1 14 j0 v1.toNatClampNeg) - (if s1.1 16 j0 x2.toNatClampNeg < v3 then s1.1 16 j0 x2.toNatClampNeg else v3))).1 15 j0 x2.toNatClampNeg)) 36) (gb_gd (gb_in ((v1 * 6) + ((gb_si s1 14 j0 v1.toNatClampNeg ((s1.1 14 j0 v1.toNatClampNeg) - (if s1.1 16 j0 x2.toNatClampNeg < v3 then s1.1 16 j0 x2.toNatClampNeg else v3))).1 15 j0 x2.toNatClampNeg)) 36) (gb_gd (gb_in x2 36) (if (gb_si (gb_si s1 14 j0 v1.toNatClampNeg ((s1.1 14 j0 v1.toNatClampNeg) - (if s1.1 16 j0 x2.toNatClampNeg < v3 then s1.1 16 j0 x2.toNatClampNeg else v3))) 18 j0 ((v1 * 6) + ((gb_si s1 14 j0 v1.toNatClampNeg ((s1.1 14 j0 v1.toNatClampNeg) - (if s1.1 16 j0 x2.toNatClampNeg < v3 then s1.1 16 j0 x2.toNatClampNeg else v3))).1 15 j0 x2.toNatClampNeg)).toNatClampNeg (((gb_si s1 14 j0 v1.toNatClampNeg ((s1.1 14 j0 v1.toNatClampNeg) - (if s1.1 16 j0 x2.toNatClampNeg < v3 then s1.1 16 j0 x2.toNatClampNeg else v3))).1 18 j0 ((v1 * 6) + ((gb_si s1 14 j0 v1.toNatClampNeg ((s1.1 14 j0 v1.toNatClampNeg) - (if s1.1 16 j0 x2.toNatClampNeg < v3 then s1.1 16 j0 x2.toNatClampNeg else v3))).1 15 j0 x2.toNatClampNeg)).toNatClampNeg) - (if s1.1 16 j0 x2.toNatClampNeg < v3 then s1.1 16 j0 x2.toNatClampNeg else v3))).1 16 j0 x2.toNatClampNeg ≤ (if s1.1 16 j0 x2.toNatClampNeg < v3 then s1.1 16 j0 x2.toNatClampNeg else v3) then
      j_X7_take_8 j0 v1 (v3 - (if s1.1 16 j0 x2.toNatClampNeg < v3 then s1.1 16 j0 x2.toNatClampNeg else v3)) v4 (v5 + 1) (gb_si (gb_si s1 14 j0 v1.toNatClampNeg ((s1.1 14 j0 v1.toNatClampNeg) - (if s1.1 16 j0 x2.toNatClampNeg < v3 then s1.1 16 j0 x2.toNatClampNeg else v3))) 18 j0 ((v1 * 6) + ((gb_si s1 14 j0 v1.toNatClampNeg ((s1.1 14 j0 v1.toNatClampNeg) - (if s1.1 16 j0 x2.toNatClampNeg < v3 then s1.1 16 j0 x2.toNatClampNeg else v3))).1 15 j0 x2.toNatClampNeg)).toNatClampNeg (((gb_si s1 14 j0 v1.toNatClampNeg ((s1.1 14 j0 v1.toNatClampNeg) - (if s1.1 16 j0 x2.toNatClampNeg < v3 then s1.1 16 j0 x2.toNatClampNeg else v3))).1 18 j0 ((v1 * 6) + ((gb_si s1 14 j0 v1.toNatClampNeg ((s1.1 14 j0 v1.toNatClampNeg) - (if s1.1 16 j0 x2.toNatClampNeg < v3 then s1.1 16 j0 x2.toNatClampNeg else v3))).1 15 j0 x2.toNatClampNeg)).toNatClampNeg) - (if s1.1 16 j0 x2.toNatClampNeg < v3 then s1.1 16 j0 x2.toNatClampNeg else v3)))
    else
      gb_b1 (f_X7_place [gI v1, gI v4] (gb_si (gb_si s1 14 j0 v1.toNatClampNeg ((s1.1 14 j0 v1.toNatClampNeg) - (if s1.1 16 j0 x2.toNatClampNeg < v3 then s1.1 16 j0 x2.toNatClampNeg else v3))) 18 j0 ((v1 * 6) + ((gb_si s1 14 j0 v1.toNatClampNeg ((s1.1 14 j0 v1.toNatClampNeg) - (if s1.1 16 j0 x2.toNatClampNeg < v3 then s1.1 16 j0 x2.toNatClampNeg else v3))).1 15 j0 x2.toNatClampNeg)).toNatClampNeg (((gb_si s1 14 j0 v1.toNatClampNeg ((s1.1 14 j0 v1.toNatClampNeg) - (if s1.1 16 j0 x2.toNatClampNeg < v3 then s1.1 16 j0 x2.toNatClampNeg else v3))).1 18 j0 ((v1 * 6) + ((gb_si s1 14 j0 v1.toNatClampNeg ((s1.1 14 j0 v1.toNatClampNeg) - (if s1.1 16 j0 x2.toNatClampNeg < v3 then s1.1 16 j0 x2.toNatClampNeg else v3))).1 15 j0 x2.toNatClampNeg)).toNatClampNeg) - (if s1.1 16 j0 x2.toNatClampNeg < v3 then s1.1 16 j0 x2.toNatClampNeg else v3)))) (fun x4 s3 => gb_gd (gb_in x2 36) (gb_gd (gb_in x4 36) (gb_gd (gb_in x2 36) (gb_gd (gb_in x4 36) (gb_gd (gb_in x2 36) (gb_gd (gb_in x4 36) (j_X7_take_8 j0 v1 (v3 - (if s1.1 16 j0 x2.toNatClampNeg < v3 then s1.1 16 j0 x2.toNatClampNeg else v3)) (v4 + 1) (v5 + 1) (gb_si (gb_si (gb_si s3 16 j0 x4.toNatClampNeg ((s3.1 16 j0 x2.toNatClampNeg) - (if s1.1 16 j0 x2.toNatClampNeg < v3 then s1.1 16 j0 x2.toNatClampNeg else v3))) 15 j0 x4.toNatClampNeg ((gb_si s3 16 j0 x4.toNatClampNeg ((s3.1 16 j0 x2.toNatClampNeg) - (if s1.1 16 j0 x2.toNatClampNeg < v3 then s1.1 16 j0 x2.toNatClampNeg else v3))).1 15 j0 x2.toNatClampNeg)) 17 j0 x4.toNatClampNeg ((gb_si (gb_si s3 16 j0 x4.toNatClampNeg ((s3.1 16 j0 x2.toNatClampNeg) - (if s1.1 16 j0 x2.toNatClampNeg < v3 then s1.1 16 j0 x2.toNatClampNeg else v3))) 15 j0 x4.toNatClampNeg ((gb_si s3 16 j0 x4.toNatClampNeg ((s3.1 16 j0 x2.toNatClampNeg) - (if s1.1 16 j0 x2.toNatClampNeg < v3 then s1.1 16 j0 x2.toNatClampNeg else v3))).1 15 j0 x2.toNatClampNeg)).1 17 j0 x2.toNatClampNeg)))))))))))))))))) := (gb_fx_eq (L_X7_take) 8 _ _ _).trans rfl
set_option maxRecDepth 20000 in
theorem e_X7_take (j0 : Nat) (a1 : Int32) (a2 : Int32) (σ : gb_M) : f_X7_take [gR 10 j0, gI a1, gI a2] σ =
  j_X7_take_8 j0 a1 a2 0 0 σ := (gb_hide_at _ _ _).trans rfl
noncomputable def j_X7_drawOut_7 (j0 : Nat) (v1 : Int32) (v2 : Int32) (v3 : Int32) (v4 : Int32) (σ : gb_M) : gb_R := K_X7_drawOut 7 [(0, gR 10 j0), (1, gI v1), (2, gI v2), (3, gI v3), (4, gI v4)] [] σ
set_option maxRecDepth 20000 in
theorem e_X7_drawOut_7 (j0 : Nat) (v1 : Int32) (v2 : Int32) (v3 : Int32) (v4 : Int32) (σ : gb_M) : j_X7_drawOut_7 j0 v1 v2 v3 v4 σ =
  gb_gd (gb_in v1 6) (if σ.1 13 j0 v1.toNatClampNeg ≤ v4 then
    gb_b0 (f_X7_take [gR 10 j0, gI v1, gI v2] σ) (fun s1 => some (some (gI (v2 * v3)), gb_si s1 10 j0 10 (if (s1.1 10 j0 10) + (v2 * v3) < 2000000000 then (s1.1 10 j0 10) + (v2 * v3) else 2000000000)))
  else
    gb_b1 (f_X7_partBelow [gR 10 j0, gI v1, gI v4, gI v2] σ) (fun x3 s2 => if x3 ≤ 0 then
      j_X7_drawOut_7 j0 v1 v2 v3 (v4 + 1) s2
    else
      gb_b1 (f_X7_place [gI v1, gI v4] s2) (fun x5 s4 => gb_b1 (f_X7_unit [gR 10 j0, gI x5, gI (s4.1 10 j0 9)] s4) (fun x7 s6 => j_X7_drawOut_7 j0 v1 v2 (if x7 < v3 then x7 else v3) (v4 + 1) s6)))) := (gb_fx_eq (L_X7_drawOut) 7 _ _ _).trans rfl
set_option maxRecDepth 20000 in
theorem e_X7_drawOut (j0 : Nat) (a1 : Int32) (a2 : Int32) (σ : gb_M) : f_X7_drawOut [gR 10 j0, gI a1, gI a2] σ =
  j_X7_drawOut_7 j0 a1 a2 999 0 σ := (gb_hide_at _ _ _).trans rfl
noncomputable def j_X7_layersWith_11 (j0 : Nat) (v1 : Int32) (v2 : Int32) (v3 : Int32) (v4 : Int32) (v5 : Int32) (σ : gb_M) : gb_R := K_X7_layersWith 11 [(0, gR 10 j0), (1, gI v1), (2, gI v2), (3, gI v3), (4, gI v4), (5, gI v5)] [] σ
set_option maxRecDepth 20000 in
theorem e_X7_layersWith_11 (j0 : Nat) (v1 : Int32) (v2 : Int32) (v3 : Int32) (v4 : Int32) (v5 : Int32) (σ : gb_M) : j_X7_layersWith_11 j0 v1 v2 v3 v4 v5 σ =
  gb_gd (gb_in v1 6) (if σ.1 13 j0 v1.toNatClampNeg ≤ v5 then
    some (some (gI v4), σ)
  else
    if v5 = 0 then
      gb_b1 (f_X7_place [gI v1, gI 0] σ) (fun x2 s1 => gb_gd (gb_in x2 36) (gb_b1 (f_X7_place [gI v1, gI 0] s1) (fun x4 s3 => gb_gd (gb_in x4 36) (gb_b1 (f_X7_onTop [gR 10 j0, gI v2, gI (s1.1 15 j0 x2.toNatClampNeg), gI (s3.1 17 j0 x4.toNatClampNeg)] s3) (fun x6 s5 => if x6 = 0 then
        gb_b1 (f_X7_partBelow [gR 10 j0, gI v1, gI v5, gI v3] s5) (fun x8 s7 => if x8 ≤ 0 then
          j_X7_layersWith_11 j0 v1 v2 v3 v4 (v5 + 1) s7
        else
          if 0 = 0 then j_X7_layersWith_11 j0 v1 v2 v3 (v4 + 1) (v5 + 1) s7 else j_X7_layersWith_11 j0 v1 v2 v3 v4 (v5 + 1) s7)
      else
        gb_b1 (f_X7_partBelow [gR 10 j0, gI v1, gI v5, gI v3] s5) (fun x10 s9 => if x10 ≤ 0 then
          j_X7_layersWith_11 j0 v1 v2 v3 v4 (v5 + 1) s9
        else
          if 1 = 0 then j_X7_layersWith_11 j0 v1 v2 v3 (v4 + 1) (v5 + 1) s9 else j_X7_layersWith_11 j0 v1 v2 v3 v4 (v5 + 1) s9))))))
    else
      gb_b1 (f_X7_partBelow [gR 10 j0, gI v1, gI v5, gI v3] σ) (fun x12 s11 => if x12 ≤ 0 then
        j_X7_layersWith_11 j0 v1 v2 v3 v4 (v5 + 1) s11
      else
        if 0 = 0 then j_X7_layersWith_11 j0 v1 v2 v3 (v4 + 1) (v5 + 1) s11 else j_X7_layersWith_11 j0 v1 v2 v3 v4 (v5 + 1) s11)) := (gb_fx_eq (L_X7_layersWith) 11 _ _ _).trans rfl
set_option maxRecDepth 20000 in
theorem e_X7_layersWith (j0 : Nat) (a1 : Int32) (a2 : Int32) (a3 : Int32) (σ : gb_M) : f_X7_layersWith [gR 10 j0, gI a1, gI a2, gI a3] σ =
  gb_gd (gb_in a2 6) (j_X7_layersWith_11 j0 a1 a2 a3 (σ.1 13 j0 a2.toNatClampNeg) 0 σ) := (gb_hide_at _ _ _).trans rfl
noncomputable def j_X7_whyNotMove_65 (j0 : Nat) (v1 : Int32) (v2 : Int32) (v3 : Int32) (v4 : Int32) (v5 : Int32) (σ : gb_M) : gb_R := K_X7_whyNotMove 65 [(0, gR 10 j0), (1, gI v1), (2, gI v2), (3, gI v3), (4, gI v4), (5, gI v5)] [] σ
set_option maxRecDepth 20000 in
theorem e_X7_whyNotMove_65 (j0 : Nat) (v1 : Int32) (v2 : Int32) (v3 : Int32) (v4 : Int32) (v5 : Int32) (σ : gb_M) : j_X7_whyNotMove_65 j0 v1 v2 v3 v4 v5 σ =
  gb_gd (gb_in v1 6) (if σ.1 13 j0 v1.toNatClampNeg ≤ v5 then
    gb_b1 (f_X7_layersWith [gR 10 j0, gI v1, gI v2, gI v3] σ) (fun x8 s7 => if x8 ≤ 6 then some (some (gI 0), s7) else some (some (gI (-6)), s7))
  else
    gb_b1 (f_X7_partBelow [gR 10 j0, gI v1, gI v5, gI v3] σ) (fun x10 s9 => if x10 ≤ 0 then
      j_X7_whyNotMove_65 j0 v1 v2 v3 v4 (v5 + 1) s9
    else
      gb_b1 (f_X7_place [gI v1, gI v5] s9) (fun x12 s11 => gb_gd (gb_in x12 36) (gb_gd (gb_in (s11.1 15 j0 x12.toNatClampNeg) 6) (if v4 &&& (s11.1 8 0 (s11.1 15 j0 x12.toNatClampNeg).toNatClampNeg) = 0 then j_X7_whyNotMove_65 j0 v1 v2 v3 v4 (v5 + 1) s11 else some (some (gI (-5)), s11)))))) := (gb_fx_eq (L_X7_whyNotMove) 65 _ _ _).trans rfl
set_option maxRecDepth 20000 in
theorem e_X7_whyNotMove (j0 : Nat) (a1 : Int32) (a2 : Int32) (a3 : Int32) (σ : gb_M) : f_X7_whyNotMove [gR 10 j0, gI a1, gI a2, gI a3] σ =
  gb_b1 (f_X7_closed [gR 10 j0, gI a1] σ) (fun x2 s1 => if x2 = 0 then
    gb_b1 (f_X7_closed [gR 10 j0, gI a2] s1) (fun x4 s3 => if x4 = 0 then
      gb_gd (gb_in a1 6) (if a3 ≤ s3.1 14 j0 a1.toNatClampNeg then
        gb_gd (gb_in a2 6) (gb_gd (gb_in a2 6) (if (s3.1 14 j0 a2.toNatClampNeg) + a3 ≤ s3.1 6 0 a2.toNatClampNeg then
          gb_b1 (f_X7_gradesIn [gR 10 j0, gI a2] s3) (fun x6 s5 => j_X7_whyNotMove_65 j0 a1 a2 a3 x6 0 s5)
        else
          some (some (gI (-4)), s3)))
      else
        some (some (gI (-3)), s3))
    else
      some (some (gI (-2)), s3))
  else
    some (some (gI (-2)), s1)) := (gb_hide_at _ _ _).trans rfl
noncomputable def j_X7_shift_3 (j0 : Nat) (v1 : Int32) (v2 : Int32) (v3 : Int32) (v4 : Int32) (σ : gb_M) : gb_R := K_X7_shift 3 [(0, gR 10 j0), (1, gI v1), (2, gI v2), (3, gI v3), (4, gI v4)] [] σ
set_option maxRecDepth 20000 in
theorem e_X7_shift_3 (j0 : Nat) (v1 : Int32) (v2 : Int32) (v3 : Int32) (v4 : Int32) (σ : gb_M) : j_X7_shift_3 j0 v1 v2 v3 v4 σ =
  gb_gd (gb_in v1 6) (if σ.1 13 j0 v1.toNatClampNeg ≤ v4 then
    gb_b0 (f_X7_take [gR 10 j0, gI v1, gI v3] σ) (fun s1 => some (none, s1))
  else
    gb_b1 (f_X7_partBelow [gR 10 j0, gI v1, gI v4, gI v3] σ) (fun x3 s2 => if x3 ≤ 0 then
      j_X7_shift_3 j0 v1 v2 v3 (v4 + 1) s2
    else
      gb_b1 (f_X7_place [gI v1, gI v4] s2) (fun x5 s4 => gb_gd (gb_in x5 36) (gb_b1 (f_X7_place [gI v1, gI v4] s4) (fun x7 s6 => gb_gd (gb_in x7 36) (gb_b0 (f_X7_lay [gR 10 j0, gI v2, gI (s4.1 15 j0 x5.toNatClampNeg), gI x3, gI (s6.1 17 j0 x7.toNatClampNeg)] s6) (fun s8 => j_X7_shift_3 j0 v1 v2 v3 (v4 + 1) s8))))))) := (gb_fx_eq (L_X7_shift) 3 _ _ _).trans rfl
set_option maxRecDepth 20000 in
theorem e_X7_shift (j0 : Nat) (a1 : Int32) (a2 : Int32) (a3 : Int32) (σ : gb_M) : f_X7_shift [gR 10 j0, gI a1, gI a2, gI a3] σ =
  j_X7_shift_3 j0 a1 a2 a3 0 σ := (gb_hide_at _ _ _).trans rfl
noncomputable def j_X7_join_23 (j0 : Nat) (v1 : Int32) (v2 : Int32) (v3 : Int32) (σ : gb_M) : gb_R := K_X7_join 23 [(0, gR 10 j0), (1, gI v1), (2, gI v2), (3, gI v3)] [] σ
noncomputable def j_X7_join_49 (j0 : Nat) (v1 : Int32) (v2 : Int32) (v3 : Int32) (σ : gb_M) : gb_R := K_X7_join 49 [(0, gR 10 j0), (1, gI v1), (2, gI v2), (3, gI v3)] [] σ
set_option maxRecDepth 20000 in
theorem e_X7_join_23 (j0 : Nat) (v1 : Int32) (v2 : Int32) (v3 : Int32) (σ : gb_M) : j_X7_join_23 j0 v1 v2 v3 σ =
  if 6 ≤ v3 then
    j_X7_join_49 j0 v1 v2 0 σ
  else
    gb_gd (gb_in ((v1 * 6) + v3) 36) (j_X7_join_23 j0 v1 v2 (v3 + 1) (gb_si σ 18 j0 ((v1 * 6) + v3).toNatClampNeg 0)) := (gb_fx_eq (L_X7_join) 23 _ _ _).trans rfl
set_option maxRecDepth 20000 in
theorem e_X7_join_49 (j0 : Nat) (v1 : Int32) (v2 : Int32) (v3 : Int32) (σ : gb_M) : j_X7_join_49 j0 v1 v2 v3 σ =
  if v2 ≤ v3 then
    some (none, σ)
  else
    gb_b1 (f_X7_place [gI v1, gI v3] σ) (fun x2 s1 => gb_gd (gb_in x2 36) (gb_gd (gb_in x2 36) (gb_gd (gb_in x2 36) (gb_b0 (f_X7_lay [gR 10 j0, gI v1, gI (s1.1 15 j0 x2.toNatClampNeg), gI (s1.1 16 j0 x2.toNatClampNeg), gI (s1.1 17 j0 x2.toNatClampNeg)] s1) (fun s3 => j_X7_join_49 j0 v1 v2 (v3 + 1) s3))))) := (gb_fx_eq (L_X7_join) 49 _ _ _).trans rfl
set_option maxRecDepth 20000 in
theorem e_X7_join (j0 : Nat) (a1 : Int32) (σ : gb_M) : f_X7_join [gR 10 j0, gI a1] σ =
  gb_gd (gb_in a1 6) (gb_gd (gb_in a1 6) (gb_gd (gb_in a1 6) (j_X7_join_23 j0 a1 (σ.1 13 j0 a1.toNatClampNeg) 0 (gb_si (gb_si σ 13 j0 a1.toNatClampNeg 0) 14 j0 a1.toNatClampNeg 0)))) := (gb_hide_at _ _ _).trans rfl
noncomputable def j_X7_fumigate_14 (j0 : Nat) (v1 : Int32) (v3 : Int32) (σ : gb_M) : gb_R := K_X7_fumigate 14 [(0, gR 10 j0), (1, gI v1), (3, gI v3)] [] σ
set_option maxRecDepth 20000 in
theorem e_X7_fumigate_14 (j0 : Nat) (v1 : Int32) (v3 : Int32) (σ : gb_M) : j_X7_fumigate_14 j0 v1 v3 σ =
  gb_gd (gb_in v1 6) (if σ.1 13 j0 v1.toNatClampNeg ≤ v3 then
    gb_b0 (f_X7_join [gR 10 j0, gI v1] σ) (fun s1 => some (none, s1))
  else
    gb_b1 (f_X7_place [gI v1, gI v3] σ) (fun x3 s2 => gb_gd (gb_in v1 6) (gb_gd (gb_in x3 36) (j_X7_fumigate_14 j0 v1 (v3 + 1) (gb_si s2 17 j0 x3.toNatClampNeg (s2.1 12 j0 v1.toNatClampNeg)))))) := (gb_fx_eq (L_X7_fumigate) 14 _ _ _).trans rfl
set_option maxRecDepth 20000 in
theorem e_X7_fumigate (j0 : Nat) (a1 : Int32) (a2 : Int32) (σ : gb_M) : f_X7_fumigate [gR 10 j0, gI a1, gI a2] σ =
  gb_gd (gb_in a1 6) (j_X7_fumigate_14 j0 a1 0 (gb_si σ 12 j0 a1.toNatClampNeg ((σ.1 10 j0 9) + a2))) := (gb_hide_at _ _ _).trans rfl
noncomputable def j_X7_raw_5 (j0 : Nat) (v1 : Int32) (v2 : Int32) (v3 : Int32) (v4 : Int32) (σ : gb_M) : gb_R := K_X7_raw 5 [(0, gR 10 j0), (1, gI v1), (2, gI v2), (3, gI v3), (4, gI v4)] [] σ
set_option maxRecDepth 20000 in
theorem e_X7_raw_5 (j0 : Nat) (v1 : Int32) (v2 : Int32) (v3 : Int32) (v4 : Int32) (σ : gb_M) : j_X7_raw_5 j0 v1 v2 v3 v4 σ =
  gb_gd (gb_in v1 6) (if σ.1 13 j0 v1.toNatClampNeg ≤ v4 then
    some (some (gI v3), σ)
  else
    gb_b1 (f_X7_place [gI v1, gI v4] σ) (fun x2 s1 => gb_gd (gb_in x2 36) (gb_b1 (f_X7_unit [gR 10 j0, gI x2, gI v2] s1) (fun x4 s3 => j_X7_raw_5 j0 v1 v2 (v3 + ((s1.1 16 j0 x2.toNatClampNeg) * x4)) (v4 + 1) s3)))) := (gb_fx_eq (L_X7_raw) 5 _ _ _).trans rfl
set_option maxRecDepth 20000 in
theorem e_X7_raw (j0 : Nat) (a1 : Int32) (a2 : Int32) (σ : gb_M) : f_X7_raw [gR 10 j0, gI a1, gI a2] σ =
  j_X7_raw_5 j0 a1 a2 0 0 σ := (gb_hide_at _ _ _).trans rfl
noncomputable def j_X7_rawUnspoilt_4 (j0 : Nat) (v1 : Int32) (v2 : Int32) (v3 : Int32) (σ : gb_M) : gb_R := K_X7_rawUnspoilt 4 [(0, gR 10 j0), (1, gI v1), (2, gI v2), (3, gI v3)] [] σ
set_option maxRecDepth 20000 in
theorem e_X7_rawUnspoilt_4 (j0 : Nat) (v1 : Int32) (v2 : Int32) (v3 : Int32) (σ : gb_M) : j_X7_rawUnspoilt_4 j0 v1 v2 v3 σ =
  if 6 ≤ v3 then
    some (some (gI v2), σ)
  else
    gb_gd (gb_in ((v1 * 6) + v3) 36) (gb_gd (gb_in v3 6) (j_X7_rawUnspoilt_4 j0 v1 (v2 + ((σ.1 18 j0 ((v1 * 6) + v3).toNatClampNeg) * (σ.1 11 j0 v3.toNatClampNeg))) (v3 + 1) σ)) := (gb_fx_eq (L_X7_rawUnspoilt) 4 _ _ _).trans rfl
set_option maxRecDepth 20000 in
theorem e_X7_rawUnspoilt (j0 : Nat) (a1 : Int32) (σ : gb_M) : f_X7_rawUnspoilt [gR 10 j0, gI a1] σ =
  j_X7_rawUnspoilt_4 j0 a1 0 0 σ := (gb_hide_at _ _ _).trans rfl
set_option maxRecDepth 20000 in
theorem e_X7_mixedOf (j0 : Nat) (a1 : Int32) (a2 : Int32) (a3 : Int32) (σ : gb_M) : f_X7_mixedOf [gR 10 j0, gI a1, gI a2, gI a3] σ =
  gb_gd (gb_in ((a1 * 6) + a2) 36) (gb_gd (gb_in ((a1 * 6) + a3) 36) (gb_b1 (f_X5_lossOf [gR 3 0, gI a2, gI a3] σ) (fun x2 s1 => some (some (gI (x2 * (if σ.1 18 j0 ((a1 * 6) + a3).toNatClampNeg < σ.1 18 j0 ((a1 * 6) + a2).toNatClampNeg then σ.1 18 j0 ((a1 * 6) + a3).toNatClampNeg else σ.1 18 j0 ((a1 * 6) + a2).toNatClampNeg))), s1)))) := (gb_hide_at _ _ _).trans rfl
noncomputable def j_X7_mixedIn_4 (j0 : Nat) (v1 : Int32) (v2 : Int32) (v3 : Int32) (σ : gb_M) : gb_R := K_X7_mixedIn 4 [(0, gR 10 j0), (1, gI v1), (2, gI v2), (3, gI v3)] [] σ
noncomputable def j_X7_mixedIn_15 (j0 : Nat) (v1 : Int32) (v2 : Int32) (v3 : Int32) (v4 : Int32) (σ : gb_M) : gb_R := K_X7_mixedIn 15 [(0, gR 10 j0), (1, gI v1), (2, gI v2), (3, gI v3), (4, gI v4)] [] σ
set_option maxRecDepth 20000 in
theorem e_X7_mixedIn_4 (j0 : Nat) (v1 : Int32) (v2 : Int32) (v3 : Int32) (σ : gb_M) : j_X7_mixedIn_4 j0 v1 v2 v3 σ =
  if 6 ≤ v3 then some (some (gI v2), σ) else j_X7_mixedIn_15 j0 v1 v2 v3 (v3 + 1) σ := (gb_fx_eq (L_X7_mixedIn) 4 _ _ _).trans rfl
set_option maxRecDepth 20000 in
theorem e_X7_mixedIn_15 (j0 : Nat) (v1 : Int32) (v2 : Int32) (v3 : Int32) (v4 : Int32) (σ : gb_M) : j_X7_mixedIn_15 j0 v1 v2 v3 v4 σ =
  if 6 ≤ v4 then
    j_X7_mixedIn_4 j0 v1 v2 (v3 + 1) σ
  else
    gb_b1 (f_X7_mixedOf [gR 10 j0, gI v1, gI v3, gI v4] σ) (fun x2 s1 => j_X7_mixedIn_15 j0 v1 (v2 + x2) v3 (v4 + 1) s1) := (gb_fx_eq (L_X7_mixedIn) 15 _ _ _).trans rfl
set_option maxRecDepth 20000 in
theorem e_X7_mixedIn (j0 : Nat) (a1 : Int32) (σ : gb_M) : f_X7_mixedIn [gR 10 j0, gI a1] σ =
  j_X7_mixedIn_4 j0 a1 0 0 σ := (gb_hide_at _ _ _).trans rfl
set_option maxRecDepth 20000 in
theorem e_X7_valueThen (j0 : Nat) (a1 : Int32) (a2 : Int32) (σ : gb_M) : f_X7_valueThen [gR 10 j0, gI a1, gI a2] σ =
  gb_b1 (f_X7_raw [gR 10 j0, gI a1, gI a2] σ) (fun x2 s1 => gb_b1 (f_X7_mixedIn [gR 10 j0, gI a1] s1) (fun x4 s3 => some (some (gI (x2 - x4)), s3))) := (gb_hide_at _ _ _).trans rfl
set_option maxRecDepth 20000 in
theorem e_X7_valueOf (j0 : Nat) (a1 : Int32) (σ : gb_M) : f_X7_valueOf [gR 10 j0, gI a1] σ =
  gb_b1 (f_X7_valueThen [gR 10 j0, gI a1, gI (σ.1 10 j0 9)] σ) (fun x2 s1 => some (some (gI x2), s1)) := (gb_hide_at _ _ _).trans rfl
noncomputable def j_X7_valueOfAll_4 (j0 : Nat) (v1 : Int32) (v2 : Int32) (v3 : Int32) (σ : gb_M) : gb_R := K_X7_valueOfAll 4 [(0, gR 10 j0), (1, gI v1), (2, gI v2), (3, gI v3)] [] σ
set_option maxRecDepth 20000 in
theorem e_X7_valueOfAll_4 (j0 : Nat) (v1 : Int32) (v2 : Int32) (v3 : Int32) (σ : gb_M) : j_X7_valueOfAll_4 j0 v1 v2 v3 σ =
  if 6 ≤ v3 then
    some (some (gI v2), σ)
  else
    gb_b1 (f_X7_valueThen [gR 10 j0, gI v3, gI v1] σ) (fun x2 s1 => j_X7_valueOfAll_4 j0 v1 (v2 + x2) (v3 + 1) s1) := (gb_fx_eq (L_X7_valueOfAll) 4 _ _ _).trans rfl
set_option maxRecDepth 20000 in
theorem e_X7_valueOfAll (j0 : Nat) (a1 : Int32) (σ : gb_M) : f_X7_valueOfAll [gR 10 j0, gI a1] σ =
  j_X7_valueOfAll_4 j0 a1 0 0 σ := (gb_hide_at _ _ _).trans rfl
noncomputable def j_X7_growth_19 (j0 : Nat) (v1 : Int32) (v2 : Int32) (v3 : Int32) (v4 : Int32) (v5 : Int32) (v6 : Int32) (σ : gb_M) : gb_R := K_X7_growth 19 [(0, gR 10 j0), (1, gI v1), (2, gI v2), (3, gI v3), (4, gI v4), (5, gI v5), (6, gI v6)] [] σ
set_option maxRecDepth 20000 in
theorem e_X7_growth_19 (j0 : Nat) (v1 : Int32) (v2 : Int32) (v3 : Int32) (v4 : Int32) (v5 : Int32) (v6 : Int32) (σ : gb_M) : j_X7_growth_19 j0 v1 v2 v3 v4 v5 v6 σ =
  if 6 ≤ v6 then
    some (some (gI v5), σ)
  else
    gb_gd (gb_in ((v1 * 6) + v6) 36) (gb_b1 (f_X5_lossOf [gR 3 0, gI v2, gI v6] σ) (fun x2 s1 => j_X7_growth_19 j0 v1 v2 v3 v4 (v5 + (x2 * ((if σ.1 18 j0 ((v1 * 6) + v6).toNatClampNeg < v4 + v3 then σ.1 18 j0 ((v1 * 6) + v6).toNatClampNeg else v4 + v3) - (if σ.1 18 j0 ((v1 * 6) + v6).toNatClampNeg < v4 then σ.1 18 j0 ((v1 * 6) + v6).toNatClampNeg else v4)))) (v6 + 1) s1)) := (gb_fx_eq (L_X7_growth) 19 _ _ _).trans rfl
set_option maxRecDepth 20000 in
theorem e_X7_growth (j0 : Nat) (a1 : Int32) (a2 : Int32) (a3 : Int32) (σ : gb_M) : f_X7_growth [gR 10 j0, gI a1, gI a2, gI a3] σ =
  gb_gd (gb_in ((a1 * 6) + a2) 36) (j_X7_growth_19 j0 a1 a2 a3 (σ.1 18 j0 ((a1 * 6) + a2).toNatClampNeg) 0 0 σ) := (gb_hide_at _ _ _).trans rfl
set_option maxRecDepth 20000 in
theorem e_X7_gain (j0 : Nat) (a1 : Int32) (a2 : Int32) (a3 : Int32) (σ : gb_M) : f_X7_gain [gR 10 j0, gI a1, gI a2, gI a3] σ =
  gb_gd (gb_in a2 6) (gb_b1 (f_X7_growth [gR 10 j0, gI a1, gI a2, gI a3] σ) (fun x2 s1 => some (some (gI ((a3 * (σ.1 11 j0 a2.toNatClampNeg)) - x2)), s1))) := (gb_hide_at _ _ _).trans rfl
noncomputable def j_X7_runEnd_9 (j0 : Nat) (v1 : Int32) (v2 : Int32) (v3 : Int32) (v4 : Int32) (σ : gb_M) : gb_R := K_X7_runEnd 9 [(0, gR 10 j0), (1, gI v1), (2, gI v2), (3, gI v3), (4, gI v4)] [] σ
set_option maxRecDepth 20000 in
theorem e_X7_runEnd_9 (j0 : Nat) (v1 : Int32) (v2 : Int32) (v3 : Int32) (v4 : Int32) (σ : gb_M) : j_X7_runEnd_9 j0 v1 v2 v3 v4 σ =
  gb_gd (gb_in v1 6) (if σ.1 13 j0 v1.toNatClampNeg ≤ v4 then
    some (some (gI v3), σ)
  else
    gb_b1 (f_X7_place [gI v1, gI v4] σ) (fun x2 s1 => gb_gd (gb_in x2 36) (gb_b1 (f_X7_place [gI v1, gI v2] s1) (fun x4 s3 => gb_gd (gb_in x4 36) (if s1.1 15 j0 x2.toNatClampNeg = s3.1 15 j0 x4.toNatClampNeg then j_X7_runEnd_9 j0 v1 v2 (v4 + 1) (v4 + 1) s3 else some (some (gI v3), s3)))))) := (gb_fx_eq (L_X7_runEnd) 9 _ _ _).trans rfl
set_option maxRecDepth 20000 in
theorem e_X7_runEnd (j0 : Nat) (a1 : Int32) (a2 : Int32) (σ : gb_M) : f_X7_runEnd [gR 10 j0, gI a1, gI a2] σ =
  j_X7_runEnd_9 j0 a1 a2 (a2 + 1) (a2 + 1) σ := (gb_hide_at _ _ _).trans rfl
