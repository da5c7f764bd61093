/-! DEC: the blocks as equations, printed by wip/whole/dec.py -/
noncomputable def j_X0_takeWay_7 (v2 : Int32) (σ : gb_M) : gb_R := K_X0_takeWay 7 [(0, gR 30 0), (2, gI v2)] [] σ
set_option maxRecDepth 20000 in
theorem e_X0_takeWay_7 (v2 : Int32) (σ : gb_M) : j_X0_takeWay_7 v2 σ =
  if σ.1 23 0 3 ≤ v2 then
    some (none, σ)
  else
    gb_gd (gb_in v2 6) (gb_gd (gb_in v2 6) (j_X0_takeWay_7 (v2 + 1) (gb_si σ 33 0 v2.toNatClampNeg (σ.1 32 0 v2.toNatClampNeg)))) := (gb_fx_eq (L_X0_takeWay) 7 _ _ _).trans rfl
set_option maxRecDepth 20000 in
theorem e_X0_takeWay (a1 : Int32) (σ : gb_M) : f_X0_takeWay [gR 30 0, gI a1] σ =
  j_X0_takeWay_7 0 (gb_si σ 30 0 5 a1) := (gb_hide_at _ _ _).trans rfl
set_option maxRecDepth 20000 in
theorem e_X7_closed (j0 : Nat) (a1 : Int32) (σ : gb_M) : f_X7_closed [gR 10 j0, gI a1] σ =
  gb_gd (gb_in a1 6) (if σ.1 12 j0 a1.toNatClampNeg ≤ σ.1 10 j0 9 then some (some (gI 0), σ) else some (some (gI 1), σ)) := (gb_hide_at _ _ _).trans rfl
set_option maxRecDepth 20000 in
theorem e_X7_place (a0 : Int32) (a1 : Int32) (σ : gb_M) : f_X7_place [gI a0, gI a1] σ =
  some (some (gI ((a0 * 6) + a1)), σ) := (gb_hide_at _ _ _).trans rfl
noncomputable def j_X0_canDraw_34 (v1 : Int32) (v2 : Int32) (v3 : Int32) (v4 : Int32) (v5 : Int32) (σ : gb_M) : gb_R := K_X0_canDraw 34 [(0, gR 30 0), (1, gI v1), (2, gI v2), (3, gI v3), (4, gI v4), (5, gI v5)] [] σ
set_option maxRecDepth 20000 in
theorem e_X0_canDraw_34 (v1 : Int32) (v2 : Int32) (v3 : Int32) (v4 : Int32) (v5 : Int32) (σ : gb_M) : j_X0_canDraw_34 v1 v2 v3 v4 v5 σ =
  gb_gd (gb_in v1 6) (if σ.1 13 0 v1.toNatClampNeg ≤ v5 then
    if 0 < v3 then some (some (gI 0), σ) else some (some (gI 1), σ)
  else
    if v3 ≤ 0 then
      if 0 < v3 then some (some (gI 0), σ) else some (some (gI 1), σ)
    else
      gb_b1 (f_X7_place [gI v1, gI v5] σ) (fun x4 s3 => gb_gd (gb_in x4 36) (gb_gd (gb_in x4 36) (if (if 0 < (s3.1 16 0 x4.toNatClampNeg) - v4 then (s3.1 16 0 x4.toNatClampNeg) - v4 else 0) ≤ 0 then
        j_X0_canDraw_34 v1 v2 (v3 - (if 0 < (s3.1 16 0 x4.toNatClampNeg) - v4 then (s3.1 16 0 x4.toNatClampNeg) - v4 else 0)) (if 0 < v4 - (s3.1 16 0 x4.toNatClampNeg) then v4 - (s3.1 16 0 x4.toNatClampNeg) else 0) (v5 + 1) s3
      else
        gb_gd (gb_in x4 36) (gb_gd (gb_in v2 6) (if s3.1 15 0 x4.toNatClampNeg = s3.1 24 0 v2.toNatClampNeg then
          j_X0_canDraw_34 v1 v2 (v3 - (if 0 < (s3.1 16 0 x4.toNatClampNeg) - v4 then (s3.1 16 0 x4.toNatClampNeg) - v4 else 0)) (if 0 < v4 - (s3.1 16 0 x4.toNatClampNeg) then v4 - (s3.1 16 0 x4.toNatClampNeg) else 0) (v5 + 1) s3
        else
          some (some (gI 0), s3))))))) := (gb_fx_eq (L_X0_canDraw) 34 _ _ _).trans rfl
set_option maxRecDepth 20000 in
theorem e_X0_canDraw (a1 : Int32) (a2 : Int32) (σ : gb_M) : f_X0_canDraw [gR 30 0, gI a1, gI a2] σ =
  gb_b1 (f_X7_closed [gR 10 0, gI a1] σ) (fun x2 s1 => if x2 = 0 then
    gb_gd (gb_in a2 6) (gb_gd (gb_in a1 6) (j_X0_canDraw_34 a1 a2 (s1.1 25 0 a2.toNatClampNeg) (s1.1 31 0 a1.toNatClampNeg) 0 s1))
  else
    some (some (gI 0), s1)) := (gb_hide_at _ _ _).trans rfl
noncomputable def j_X0_serveFrom_27 (r : gb_F) (v1 : Int32) (v2 : Int32) (σ : gb_M) : gb_R := K_X0_serveFrom r 27 [(0, gR 30 0), (1, gI v1), (2, gI v2)] [] σ
set_option maxRecDepth 20000 in
theorem e_X0_serveFrom_27 (r : gb_F) (v1 : Int32) (v2 : Int32) (σ : gb_M) : j_X0_serveFrom_27 r v1 v2 σ =
  if 6 ≤ v2 then
    some (none, σ)
  else
    if σ.1 23 0 3 ≤ σ.1 30 0 5 then
      some (none, σ)
    else
      gb_b1 (f_X0_canDraw [gR 30 0, gI v2, gI v1] σ) (fun x3 s2 => if x3 = 0 then
        j_X0_serveFrom_27 r v1 (v2 + 1) s2
      else
        gb_gd (gb_in v1 6) (gb_gd (gb_in v2 6) (gb_gd (gb_in v1 6) (gb_gd (gb_in v2 6) (gb_b0 (r [gR 30 0, gI (v1 + 1)] (gb_si (gb_si s2 32 0 v1.toNatClampNeg v2) 31 0 v2.toNatClampNeg (((gb_si s2 32 0 v1.toNatClampNeg v2).1 31 0 v2.toNatClampNeg) + ((gb_si s2 32 0 v1.toNatClampNeg v2).1 25 0 v1.toNatClampNeg)))) (fun s4 => gb_gd (gb_in v2 6) (gb_gd (gb_in v1 6) (gb_gd (gb_in v2 6) (j_X0_serveFrom_27 r v1 (v2 + 1) (gb_si s4 31 0 v2.toNatClampNeg ((s4.1 31 0 v2.toNatClampNeg) - (s4.1 25 0 v1.toNatClampNeg)))))))))))) := (gb_fx_eq (L_X0_serveFrom r) 27 _ _ _).trans rfl
set_option maxRecDepth 20000 in
theorem e_X0_serveFrom (n : Nat) (a1 : Int32) (σ : gb_M) : g_X0_serveFrom (n + 1) [gR 30 0, gI a1] σ =
  if a1 ≤ σ.1 30 0 5 then
    if a1 < σ.1 23 0 3 then j_X0_serveFrom_27 (g_X0_serveFrom n) a1 0 σ else some (none, σ)
  else
    gb_b0 (f_X0_takeWay [gR 30 0, gI a1] σ) (fun s1 => if a1 < s1.1 23 0 3 then j_X0_serveFrom_27 (g_X0_serveFrom n) a1 0 s1 else some (none, s1)) := rfl
set_option maxRecDepth 20000 in
theorem e_X0_serve  (σ : gb_M) : f_X0_serve [gR 30 0] σ =
  gb_b0 (f_X0_serveFrom [gR 30 0, gI 0] (gb_si σ 30 0 5 0)) (fun s1 => some (some (gI (s1.1 30 0 5)), s1)) := (gb_hide_at _ _ _).trans rfl
noncomputable def j_X0_pickFrom_49 (r : gb_F) (v1 : Int32) (v2 : Int32) (v3 : Int32) (σ : gb_M) : gb_R := K_X0_pickFrom r 49 [(0, gR 30 0), (1, gI v1), (2, gI v2), (3, gI v3)] [] σ
set_option maxRecDepth 20000 in
theorem e_X0_pickFrom_49 (r : gb_F) (v1 : Int32) (v2 : Int32) (v3 : Int32) (σ : gb_M) : j_X0_pickFrom_49 r v1 v2 v3 σ =
  if 6 ≤ v3 then
    gb_gd (gb_in v1 6) (gb_b0 (r [gR 30 0, gI (v1 + 1), gI v2] (gb_si σ 32 0 v1.toNatClampNeg 6)) (fun s2 => some (none, s2)))
  else
    gb_b1 (f_X0_canDraw [gR 30 0, gI v3, gI v1] σ) (fun x4 s3 => if x4 = 0 then
      j_X0_pickFrom_49 r v1 v2 (v3 + 1) s3
    else
      gb_gd (gb_in v1 6) (gb_gd (gb_in v3 6) (gb_gd (gb_in v1 6) (gb_gd (gb_in v3 6) (gb_b0 (r [gR 30 0, gI (v1 + 1), gI (v2 + 1)] (gb_si (gb_si s3 32 0 v1.toNatClampNeg v3) 31 0 v3.toNatClampNeg (((gb_si s3 32 0 v1.toNatClampNeg v3).1 31 0 v3.toNatClampNeg) + ((gb_si s3 32 0 v1.toNatClampNeg v3).1 25 0 v1.toNatClampNeg)))) (fun s5 => gb_gd (gb_in v3 6) (gb_gd (gb_in v1 6) (gb_gd (gb_in v3 6) (j_X0_pickFrom_49 r v1 v2 (v3 + 1) (gb_si s5 31 0 v3.toNatClampNeg ((s5.1 31 0 v3.toNatClampNeg) - (s5.1 25 0 v1.toNatClampNeg)))))))))))) := (gb_fx_eq (L_X0_pickFrom r) 49 _ _ _).trans rfl
set_option maxRecDepth 20000 in
theorem e_X0_pickFrom (n : Nat) (a1 : Int32) (a2 : Int32) (σ : gb_M) : g_X0_pickFrom (n + 1) [gR 30 0, gI a1, gI a2] σ =
  if (a2 + (σ.1 23 0 3)) - a1 ≤ σ.1 30 0 5 then
    some (none, σ)
  else
    if a1 ≤ σ.1 23 0 3 then
      if a1 = σ.1 23 0 3 then gb_b0 (f_X0_takeWay [gR 30 0, gI a2] σ) (fun s1 => some (none, s1)) else j_X0_pickFrom_49 (g_X0_pickFrom n) a1 a2 0 σ
    else
      some (none, σ) := rfl
set_option maxRecDepth 20000 in
theorem e_X0_pick  (σ : gb_M) : f_X0_pick [gR 30 0] σ =
  gb_b0 (f_X0_pickFrom [gR 30 0, gI 0, gI 0] (gb_si σ 30 0 5 (-1))) (fun s1 => some (some (gI (s1.1 30 0 5)), s1)) := (gb_hide_at _ _ _).trans rfl
noncomputable def j_X7_copyBin_26 (j0 : Nat) (j1 : Nat) (v2 : Int32) (v3 : Int32) (σ : gb_M) : gb_R := K_X7_copyBin 26 [(0, gR 10 j0), (1, gR 10 j1), (2, gI v2), (3, gI v3)] [] σ
noncomputable def j_X7_copyBin_62 (j0 : Nat) (j1 : Nat) (v2 : Int32) (v3 : Int32) (σ : gb_M) : gb_R := K_X7_copyBin 62 [(0, gR 10 j0), (1, gR 10 j1), (2, gI v2), (3, gI v3)] [] σ
set_option maxRecDepth 20000 in
theorem e_X7_copyBin_26 (j0 : Nat) (j1 : Nat) (v2 : Int32) (v3 : Int32) (σ : gb_M) : j_X7_copyBin_26 j0 j1 v2 v3 σ =
  if 6 ≤ v3 then
    j_X7_copyBin_62 j0 j1 v2 0 σ
  else
    gb_gd (gb_in ((v2 * 6) + v3) 36) (gb_gd (gb_in ((v2 * 6) + v3) 36) (j_X7_copyBin_26 j0 j1 v2 (v3 + 1) (gb_si σ 18 j0 ((v2 * 6) + v3).toNatClampNeg (σ.1 18 j1 ((v2 * 6) + v3).toNatClampNeg)))) := (gb_fx_eq (L_X7_copyBin) 26 _ _ _).trans rfl
set_option maxRecDepth 20000 in
theorem e_X7_copyBin_62 (j0 : Nat) (j1 : Nat) (v2 : Int32) (v3 : Int32) (σ : gb_M) : j_X7_copyBin_62 j0 j1 v2 v3 σ =
  gb_gd (gb_in v2 6) (if σ.1 13 j1 v2.toNatClampNeg ≤ v3 then
    some (none, σ)
  else
    gb_b1 (f_X7_place [gI v2, gI v3] σ) (fun x2 s1 => gb_gd (gb_in x2 36) (gb_gd (gb_in x2 36) (gb_gd (gb_in x2 36) (gb_gd (gb_in x2 36) (gb_gd (gb_in x2 36) (gb_gd (gb_in x2 36) (j_X7_copyBin_62 j0 j1 v2 (v3 + 1) (gb_si (gb_si (gb_si s1 15 j0 x2.toNatClampNeg (s1.1 15 j1 x2.toNatClampNeg)) 16 j0 x2.toNatClampNeg ((gb_si s1 15 j0 x2.toNatClampNeg (s1.1 15 j1 x2.toNatClampNeg)).1 16 j1 x2.toNatClampNeg)) 17 j0 x2.toNatClampNeg ((gb_si (gb_si s1 15 j0 x2.toNatClampNeg (s1.1 15 j1 x2.toNatClampNeg)) 16 j0 x2.toNatClampNeg ((gb_si s1 15 j0 x2.toNatClampNeg (s1.1 15 j1 x2.toNatClampNeg)).1 16 j1 x2.toNatClampNeg)).1 17 j1 x2.toNatClampNeg)))))))))) := (gb_fx_eq (L_X7_copyBin) 62 _ _ _).trans rfl
set_option maxRecDepth 20000 in
theorem e_X7_copyBin (j0 : Nat) (j1 : Nat) (a2 : Int32) (σ : gb_M) : f_X7_copyBin [gR 10 j0, gR 10 j1, gI a2] σ =
  gb_gd (gb_in a2 6) (gb_gd (gb_in a2 6) (gb_gd (gb_in a2 6) (gb_gd (gb_in a2 6) (j_X7_copyBin_26 j0 j1 a2 0 (gb_si (gb_si σ 13 j0 a2.toNatClampNeg (σ.1 13 j1 a2.toNatClampNeg)) 14 j0 a2.toNatClampNeg ((gb_si σ 13 j0 a2.toNatClampNeg (σ.1 13 j1 a2.toNatClampNeg)).1 14 j1 a2.toNatClampNeg)))))) := (gb_hide_at _ _ _).trans rfl
noncomputable def j_X7_copy_2 (j0 : Nat) (j1 : Nat) (v2 : Int32) (σ : gb_M) : gb_R := K_X7_copy 2 [(0, gR 10 j0), (1, gR 10 j1), (2, gI v2)] [] σ
noncomputable def j_X7_copy_28 (j0 : Nat) (j1 : Nat) (v2 : Int32) (σ : gb_M) : gb_R := K_X7_copy 28 [(0, gR 10 j0), (1, gR 10 j1), (2, gI v2)] [] σ
set_option maxRecDepth 20000 in
theorem e_X7_copy_2 (j0 : Nat) (j1 : Nat) (v2 : Int32) (σ : gb_M) : j_X7_copy_2 j0 j1 v2 σ =
  if 6 ≤ v2 then
    j_X7_copy_28 j0 j1 0 σ
  else
    gb_gd (gb_in v2 6) (gb_gd (gb_in v2 6) (j_X7_copy_2 j0 j1 (v2 + 1) (gb_si σ 11 j0 v2.toNatClampNeg (σ.1 11 j1 v2.toNatClampNeg)))) := (gb_fx_eq (L_X7_copy) 2 _ _ _).trans rfl
set_option maxRecDepth 20000 in
theorem e_X7_copy_28 (j0 : Nat) (j1 : Nat) (v2 : Int32) (σ : gb_M) : j_X7_copy_28 j0 j1 v2 σ =
  if 6 ≤ v2 then
    some (none, gb_si (gb_si σ 10 j0 9 (σ.1 10 j1 9)) 10 j0 10 ((gb_si σ 10 j0 9 (σ.1 10 j1 9)).1 10 j1 10))
  else
    gb_gd (gb_in v2 6) (gb_gd (gb_in v2 6) (gb_b0 (f_X7_copyBin [gR 10 j0, gR 10 j1, gI v2] (gb_si σ 12 j0 v2.toNatClampNeg (σ.1 12 j1 v2.toNatClampNeg))) (fun s1 => j_X7_copy_28 j0 j1 (v2 + 1) s1))) := (gb_fx_eq (L_X7_copy) 28 _ _ _).trans rfl
set_option maxRecDepth 20000 in
theorem e_X7_copy (j0 : Nat) (j1 : Nat) (σ : gb_M) : f_X7_copy [gR 10 j0, gR 10 j1] σ =
  j_X7_copy_2 j0 j1 0 σ := (gb_hide_at _ _ _).trans rfl
set_option maxRecDepth 20000 in
theorem e_X1_start (j1 : Nat) (a2 : Int32) (σ : gb_M) : f_X1_start [gR 27 0, gR 10 j1, gI a2] σ =
  gb_b0 (f_X7_copy [gR 10 10, gR 10 j1] σ) (fun s1 => some (none, gb_si s1 27 0 4 a2)) := (gb_hide_at _ _ _).trans rfl
noncomputable def j_X7_gradesIn_4 (j0 : Nat) (v1 : Int32) (v2 : Int32) (v3 : Int32) (σ : gb_M) : gb_R := K_X7_gradesIn 4 [(0, gR 10 j0), (1, gI v1), (2, gI v2), (3, gI v3)] [] σ
set_option maxRecDepth 20000 in
theorem e_X7_gradesIn_4 (j0 : Nat) (v1 : Int32) (v2 : Int32) (v3 : Int32) (σ : gb_M) : j_X7_gradesIn_4 j0 v1 v2 v3 σ =
  if 6 ≤ v3 then
    some (some (gI v2), σ)
  else
    gb_gd (gb_in ((v1 * 6) + v3) 36) (if σ.1 18 j0 ((v1 * 6) + v3).toNatClampNeg ≤ 0 then j_X7_gradesIn_4 j0 v1 v2 (v3 + 1) σ else j_X7_gradesIn_4 j0 v1 (v2 ||| (1 <<< (v3 &&& 31))) (v3 + 1) σ) := (gb_fx_eq (L_X7_gradesIn) 4 _ _ _).trans rfl
set_option maxRecDepth 20000 in
theorem e_X7_gradesIn (j0 : Nat) (a1 : Int32) (σ : gb_M) : f_X7_gradesIn [gR 10 j0, gI a1] σ =
  j_X7_gradesIn_4 j0 a1 0 0 σ := (gb_hide_at _ _ _).trans rfl
set_option maxRecDepth 20000 in
theorem e_X7_onTop (j0 : Nat) (a1 : Int32) (a2 : Int32) (a3 : Int32) (σ : gb_M) : f_X7_onTop [gR 10 j0, gI a1, gI a2, gI a3] σ =
  gb_gd (gb_in a1 6) (if σ.1 13 j0 a1.toNatClampNeg = 0 then
    some (some (gI 0), σ)
  else
    gb_gd (gb_in a1 6) (gb_b1 (f_X7_place [gI a1, gI ((σ.1 13 j0 a1.toNatClampNeg) - 1)] σ) (fun x2 s1 => gb_gd (gb_in x2 36) (if s1.1 15 j0 x2.toNatClampNeg = a2 then
      gb_gd (gb_in x2 36) (if s1.1 17 j0 x2.toNatClampNeg = a3 then some (some (gI 1), s1) else some (some (gI 0), s1))
    else
      some (some (gI 0), s1))))) := (gb_hide_at _ _ _).trans rfl
set_option maxRecDepth 20000 in
theorem e_X7_why (j0 : Nat) (a1 : Int32) (a2 : Int32) (a3 : Int32) (a4 : Int32) (σ : gb_M) : f_X7_why [gR 10 j0, gI a1, gI a2, gI a3, gI a4] σ =
  gb_b1 (f_X7_closed [gR 10 j0, gI a1] σ) (fun x2 s1 => if x2 = 0 then
    gb_gd (gb_in a1 6) (gb_gd (gb_in a1 6) (if (s1.1 14 j0 a1.toNatClampNeg) + a3 ≤ s1.1 6 0 a1.toNatClampNeg then
      gb_b1 (f_X7_gradesIn [gR 10 j0, gI a1] s1) (fun x4 s3 => gb_gd (gb_in a2 6) (if x4 &&& (s3.1 8 0 a2.toNatClampNeg) = 0 then
        gb_gd (gb_in a1 6) (if s3.1 13 j0 a1.toNatClampNeg < 6 then
          if 0 = 0 then some (some (gI 0), s3) else some (some (gI (-6)), s3)
        else
          gb_b1 (f_X7_onTop [gR 10 j0, gI a1, gI a2, gI a4] s3) (fun x6 s5 => if x6 = 0 then
            if 1 = 0 then some (some (gI 0), s5) else some (some (gI (-6)), s5)
          else
            if 0 = 0 then some (some (gI 0), s5) else some (some (gI (-6)), s5)))
      else
        some (some (gI (-5)), s3)))
    else
      some (some (gI (-4)), s1)))
  else
    some (some (gI (-2)), s1)) := (gb_hide_at _ _ _).trans rfl
set_option maxRecDepth 20000 in
theorem e_X1_mayLie (a1 : Int32) (a2 : Int32) (σ : gb_M) : f_X1_mayLie [gR 27 0, gI a1, gI a2] σ =
  if a1 = σ.1 27 0 4 then
    some (some (gI 0), σ)
  else
    gb_gd (gb_in a2 6) (gb_gd (gb_in a2 6) (gb_gd (gb_in a2 6) (gb_b1 (f_X7_why [gR 10 10, gI a1, gI (σ.1 24 0 a2.toNatClampNeg), gI (σ.1 25 0 a2.toNatClampNeg), gI (σ.1 26 0 a2.toNatClampNeg)] σ) (fun x2 s1 => if x2 = 0 then some (some (gI 1), s1) else some (some (gI 0), s1))))) := (gb_hide_at _ _ _).trans rfl
noncomputable def j_X1_mightLie_2 (v1 : Int32) (σ : gb_M) : gb_R := K_X1_mightLie 2 [(0, gR 27 0), (1, gI v1)] [] σ
noncomputable def j_X1_mightLie_17 (v1 : Int32) (v2 : Int32) (v3 : Int32) (σ : gb_M) : gb_R := K_X1_mightLie 17 [(0, gR 27 0), (1, gI v1), (2, gI v2), (3, gI v3)] [] σ
set_option maxRecDepth 20000 in
theorem e_X1_mightLie_2 (v1 : Int32) (σ : gb_M) : j_X1_mightLie_2 v1 σ =
  if σ.1 23 0 3 ≤ v1 then some (some (gI 1), σ) else j_X1_mightLie_17 v1 0 0 σ := (gb_fx_eq (L_X1_mightLie) 2 _ _ _).trans rfl
set_option maxRecDepth 20000 in
theorem e_X1_mightLie_17 (v1 : Int32) (v2 : Int32) (v3 : Int32) (σ : gb_M) : j_X1_mightLie_17 v1 v2 v3 σ =
  if 6 ≤ v3 then
    if v2 = 0 then some (some (gI 0), σ) else j_X1_mightLie_2 (v1 + 1) σ
  else
    if v2 = 0 then
      gb_b1 (f_X1_mayLie [gR 27 0, gI v3, gI v1] σ) (fun x2 s1 => j_X1_mightLie_17 v1 x2 (v3 + 1) s1)
    else
      if v2 = 0 then some (some (gI 0), σ) else j_X1_mightLie_2 (v1 + 1) σ := (gb_fx_eq (L_X1_mightLie) 17 _ _ _).trans rfl
set_option maxRecDepth 20000 in
theorem e_X1_mightLie  (σ : gb_M) : f_X1_mightLie [gR 27 0] σ =
  j_X1_mightLie_2 0 σ := (gb_hide_at _ _ _).trans rfl
noncomputable def j_X1_takeWay_2 (v1 : Int32) (σ : gb_M) : gb_R := K_X1_takeWay 2 [(0, gR 27 0), (1, gI v1)] [] σ
set_option maxRecDepth 20000 in
theorem e_X1_takeWay_2 (v1 : Int32) (σ : gb_M) : j_X1_takeWay_2 v1 σ =
  if σ.1 23 0 3 ≤ v1 then
    some (none, σ)
  else
    gb_gd (gb_in v1 6) (gb_gd (gb_in v1 6) (j_X1_takeWay_2 (v1 + 1) (gb_si σ 29 0 v1.toNatClampNeg (σ.1 28 0 v1.toNatClampNeg)))) := (gb_fx_eq (L_X1_takeWay) 2 _ _ _).trans rfl
set_option maxRecDepth 20000 in
theorem e_X1_takeWay  (σ : gb_M) : f_X1_takeWay [gR 27 0] σ =
  j_X1_takeWay_2 0 σ := (gb_hide_at _ _ _).trans rfl
set_option maxRecDepth 20000 in
theorem e_X5_lossOf (j0 : Nat) (a1 : Int32) (a2 : Int32) (σ : gb_M) : f_X5_lossOf [gR 3 j0, gI a1, gI a2] σ =
  gb_gd (gb_in ((a1 * 6) + a2) 36) (some (some (gI (σ.1 7 j0 ((a1 * 6) + a2).toNatClampNeg)), σ)) := (gb_hide_at _ _ _).trans rfl
noncomputable def j_X7_growth_19 (j0 : Nat) (v1 : Int32) (v2 : Int32) (v3 : Int32) (v4 : Int32) (v5 : Int32) (v6 : Int32) (σ : gb_M) : gb_R := K_X7_growth 19 [(0, gR 10 j0), (1, gI v1), (2, gI v2), (3, gI v3), (4, gI v4), (5, gI v5), (6, gI v6)] [] σ
set_option maxRecDepth 20000 in
theorem e_X7_growth_19 (j0 : Nat) (v1 : Int32) (v2 : Int32) (v3 : Int32) (v4 : Int32) (v5 : Int32) (v6 : Int32) (σ : gb_M) : j_X7_growth_19 j0 v1 v2 v3 v4 v5 v6 σ =
  if 6 ≤ v6 then
    some (some (gI v5), σ)
  else
    gb_gd (gb_in ((v1 * 6) + v6) 36) (gb_b1 (f_X5_lossOf [gR 3 0, gI v2, gI v6] σ) (fun x2 s1 => j_X7_growth_19 j0 v1 v2 v3 v4 (v5 + (x2 * ((if σ.1 18 j0 ((v1 * 6) + v6).toNatClampNeg < v4 + v3 then σ.1 18 j0 ((v1 * 6) + v6).toNatClampNeg else v4 + v3) - (if σ.1 18 j0 ((v1 * 6) + v6).toNatClampNeg < v4 then σ.1 18 j0 ((v1 * 6) + v6).toNatClampNeg else v4)))) (v6 + 1) s1)) := (gb_fx_eq (L_X7_growth) 19 _ _ _).trans rfl
set_option maxRecDepth 20000 in
theorem e_X7_growth (j0 : Nat) (a1 : Int32) (a2 : Int32) (a3 : Int32) (σ : gb_M) : f_X7_growth [gR 10 j0, gI a1, gI a2, gI a3] σ =
  gb_gd (gb_in ((a1 * 6) + a2) 36) (j_X7_growth_19 j0 a1 a2 a3 (σ.1 18 j0 ((a1 * 6) + a2).toNatClampNeg) 0 0 σ) := (gb_hide_at _ _ _).trans rfl
set_option maxRecDepth 20000 in
theorem e_X7_lay (j0 : Nat) (a1 : Int32) (a2 : Int32) (a3 : Int32) (a4 : Int32) (σ : gb_M) : f_X7_lay [gR 10 j0, gI a1, gI a2, gI a3, gI a4] σ =
  gb_b1 (f_X7_onTop [gR 10 j0, gI a1, gI a2, gI a4] σ) (fun x2 s1 => if x2 = 0 then
    gb_gd (gb_in a1 6) (if 6 ≤ s1.1 13 j0 a1.toNatClampNeg then
      some (none, s1)
    else
      gb_gd (gb_in a1 6) (gb_b1 (f_X7_place [gI a1, gI (s1.1 13 j0 a1.toNatClampNeg)] s1) (fun x4 s3 => gb_gd (gb_in x4 36) (gb_gd (gb_in x4 36) (gb_gd (gb_in x4 36) (gb_gd (gb_in a1 6) (gb_gd (gb_in a1 6) (gb_gd (gb_in a1 6) (gb_gd (gb_in a1 6) (gb_gd (gb_in ((a1 * 6) + a2) 36) (gb_gd (gb_in ((a1 * 6) + a2) 36) (some (none, gb_si (gb_si (gb_si (gb_si (gb_si (gb_si s3 15 j0 x4.toNatClampNeg a2) 16 j0 x4.toNatClampNeg a3) 17 j0 x4.toNatClampNeg a4) 13 j0 a1.toNatClampNeg (((gb_si (gb_si (gb_si s3 15 j0 x4.toNatClampNeg a2) 16 j0 x4.toNatClampNeg a3) 17 j0 x4.toNatClampNeg a4).1 13 j0 a1.toNatClampNeg) + 1)) 14 j0 a1.toNatClampNeg (((gb_si (gb_si (gb_si (gb_si s3 15 j0 x4.toNatClampNeg a2) 16 j0 x4.toNatClampNeg a3) 17 j0 x4.toNatClampNeg a4) 13 j0 a1.toNatClampNeg (((gb_si (gb_si (gb_si s3 15 j0 x4.toNatClampNeg a2) 16 j0 x4.toNatClampNeg a3) 17 j0 x4.toNatClampNeg a4).1 13 j0 a1.toNatClampNeg) + 1)).1 14 j0 a1.toNatClampNeg) + a3)) 18 j0 ((a1 * 6) + a2).toNatClampNeg (((gb_si (gb_si (gb_si (gb_si (gb_si s3 15 j0 x4.toNatClampNeg a2) 16 j0 x4.toNatClampNeg a3) 17 j0 x4.toNatClampNeg a4) 13 j0 a1.toNatClampNeg (((gb_si (gb_si (gb_si s3 15 j0 x4.toNatClampNeg a2) 16 j0 x4.toNatClampNeg a3) 17 j0 x4.toNatClampNeg a4).1 13 j0 a1.toNatClampNeg) + 1)) 14 j0 a1.toNatClampNeg (((gb_si (gb_si (gb_si (gb_si s3 15 j0 x4.toNatClampNeg a2) 16 j0 x4.toNatClampNeg a3) 17 j0 x4.toNatClampNeg a4) 13 j0 a1.toNatClampNeg (((gb_si (gb_si (gb_si s3 15 j0 x4.toNatClampNeg a2) 16 j0 x4.toNatClampNeg a3) 17 j0 x4.toNatClampNeg a4).1 13 j0 a1.toNatClampNeg) + 1)).1 14 j0 a1.toNatClampNeg) + a3)).1 18 j0 ((a1 * 6) + a2).toNatClampNeg) + a3))))))))))))))
  else
    gb_gd (gb_in a1 6) (gb_b1 (f_X7_place [gI a1, gI ((s1.1 13 j0 a1.toNatClampNeg) - 1)] s1) (fun x6 s5 => gb_gd (gb_in x6 36) (gb_gd (gb_in x6 36) (gb_gd (gb_in a1 6) (gb_gd (gb_in a1 6) (gb_gd (gb_in ((a1 * 6) + a2) 36) (gb_gd (gb_in ((a1 * 6) + a2) 36) (some (none, gb_si (gb_si (gb_si s5 16 j0 x6.toNatClampNeg ((s5.1 16 j0 x6.toNatClampNeg) + a3)) 14 j0 a1.toNatClampNeg (((gb_si s5 16 j0 x6.toNatClampNeg ((s5.1 16 j0 x6.toNatClampNeg) + a3)).1 14 j0 a1.toNatClampNeg) + a3)) 18 j0 ((a1 * 6) + a2).toNatClampNeg (((gb_si (gb_si s5 16 j0 x6.toNatClampNeg ((s5.1 16 j0 x6.toNatClampNeg) + a3)) 14 j0 a1.toNatClampNeg (((gb_si s5 16 j0 x6.toNatClampNeg ((s5.1 16 j0 x6.toNatClampNeg) + a3)).1 14 j0 a1.toNatClampNeg) + a3)).1 18 j0 ((a1 * 6) + a2).toNatClampNeg) + a3))))))))))) := (gb_hide_at _ _ _).trans rfl
set_option maxRecDepth 20000 in
theorem e_X1_lay (a1 : Int32) (a2 : Int32) (σ : gb_M) : f_X1_lay [gR 27 0, gI a1, gI a2] σ =
  gb_gd (gb_in a2 6) (gb_gd (gb_in a2 6) (gb_gd (gb_in a2 6) (gb_gd (gb_in a2 6) (gb_b0 (f_X7_lay [gR 10 10, gI a1, gI ((gb_si σ 28 0 a2.toNatClampNeg a1).1 24 0 a2.toNatClampNeg), gI ((gb_si σ 28 0 a2.toNatClampNeg a1).1 25 0 a2.toNatClampNeg), gI ((gb_si σ 28 0 a2.toNatClampNeg a1).1 26 0 a2.toNatClampNeg)] (gb_si σ 28 0 a2.toNatClampNeg a1)) (fun s1 => some (none, s1)))))) := (gb_hide_at _ _ _).trans rfl
set_option maxRecDepth 20000 in
theorem e_X7_unlay (j0 : Nat) (a1 : Int32) (a2 : Int32) (σ : gb_M) : f_X7_unlay [gR 10 j0, gI a1, gI a2] σ =
  gb_gd (gb_in a1 6) (if σ.1 13 j0 a1.toNatClampNeg = 0 then
    some (none, σ)
  else
    gb_gd (gb_in a1 6) (gb_b1 (f_X7_place [gI a1, gI ((σ.1 13 j0 a1.toNatClampNeg) - 1)] σ) (fun x2 s1 => gb_gd (gb_in x2 36) (gb_gd (gb_in x2 36) (gb_gd (gb_in a1 6) (gb_gd (gb_in a1 6) (gb_gd (gb_in x2 36) (gb_gd (gb_in ((a1 * 6) + ((gb_si (gb_si s1 16 j0 x2.toNatClampNeg ((s1.1 16 j0 x2.toNatClampNeg) - a2)) 14 j0 a1.toNatClampNeg (((gb_si s1 16 j0 x2.toNatClampNeg ((s1.1 16 j0 x2.toNatClampNeg) - a2)).1 14 j0 a1.toNatClampNeg) - a2)).1 15 j0 x2.toNatClampNeg)) 36) (gb_gd (gb_in ((a1 * 6) + ((gb_si (gb_si s1 16 j0 x2.toNatClampNeg ((s1.1 16 j0 x2.toNatClampNeg) - a2)) 14 j0 a1.toNatClampNeg (((gb_si s1 16 j0 x2.toNatClampNeg ((s1.1 16 j0 x2.toNatClampNeg) - a2)).1 14 j0 a1.toNatClampNeg) - a2)).1 15 j0 x2.toNatClampNeg)) 36) (gb_gd (gb_in x2 36) (if (gb_si (gb_si (gb_si s1 16 j0 x2.toNatClampNeg ((s1.1 16 j0 x2.toNatClampNeg) - a2)) 14 j0 a1.toNatClampNeg (((gb_si s1 16 j0 x2.toNatClampNeg ((s1.1 16 j0 x2.toNatClampNeg) - a2)).1 14 j0 a1.toNatClampNeg) - a2)) 18 j0 ((a1 * 6) + ((gb_si (gb_si s1 16 j0 x2.toNatClampNeg ((s1.1 16 j0 x2.toNatClampNeg) - a2)) 14 j0 a1.toNatClampNeg (((gb_si s1 16 j0 x2.toNatClampNeg ((s1.1 16 j0 x2.toNatClampNeg) - a2)).1 14 j0 a1.toNatClampNeg) - a2)).1 15 j0 x2.toNatClampNeg)).toNatClampNeg (((gb_si (gb_si s1 16 j0 x2.toNatClampNeg ((s1.1 16 j0 x2.toNatClampNeg) - a2)) 14 j0 a1.toNatClampNeg (((gb_si s1 16 j0 x2.toNatClampNeg ((s1.1 16 j0 x2.toNatClampNeg) - a2)).1 14 j0 a1.toNatClampNeg) - a2)).1 18 j0 ((a1 * 6) + ((gb_si (gb_si s1 16 j0 x2.toNatClampNeg ((s1.1 16 j0 x2.toNatClampNeg) - a2)) 14 j0 a1.toNatClampNeg (((gb_si s1 16 j0 x2.toNatClampNeg ((s1.1 16 j0 x2.toNatClampNeg) - a2)).1 14 j0 a1.toNatClampNeg) - a2)).1 15 j0 x2.toNatClampNeg)).toNatClampNeg) - a2)).1 16 j0 x2.toNatClampNeg = 0 then
      gb_gd (gb_in a1 6) (gb_gd (gb_in a1 6) (some (none, gb_si (gb_si (gb_si (gb_si s1 16 j0 x2.toNatClampNeg ((s1.1 16 j0 x2.toNatClampNeg) - a2)) 14 j0 a1.toNatClampNeg (((gb_si s1 16 j0 x2.toNatClampNeg ((s1.1 16 j0 x2.toNatClampNeg) - a2)).1 14 j0 a1.toNatClampNeg) - a2)) 18 j0 ((a1 * 6) + ((gb_si (gb_si s1 16 j0 x2.toNatClampNeg ((s1.1 16 j0 x2.toNatClampNeg) - a2)) 14 j0 a1.toNatClampNeg (((gb_si s1 16 j0 x2.toNatClampNeg ((s1.1 16 j0 x2.toNatClampNeg) - a2)).1 14 j0 a1.toNatClampNeg) - a2)).1 15 j0 x2.toNatClampNeg)).toNatClampNeg (((gb_si (gb_si s1 16 j0 x2.toNatClampNeg ((s1.1 16 j0 x2.toNatClampNeg) - a2)) 14 j0 a1.toNatClampNeg (((gb_si s1 16 j0 x2.toNatClampNeg ((s1.1 16 j0 x2.toNatClampNeg) - a2)).1 14 j0 a1.toNatClampNeg) - a2)).1 18 j0 ((a1 * 6) + ((gb_si (gb_si s1 16 j0 x2.toNatClampNeg ((s1.1 16 j0 x2.toNatClampNeg) - a2)) 14 j0 a1.toNatClampNeg (((gb_si s1 16 j0 x2.toNatClampNeg ((s1.1 16 j0 x2.toNatClampNeg) - a2)).1 14 j0 a1.toNatClampNeg) - a2)).1 15 j0 x2.toNatClampNeg)).toNatClampNeg) - a2)) 13 j0 a1.toNatClampNeg (((gb_si (gb_si (gb_si s1 16 j0 x2.toNatClampNeg ((s1.1 16 j0 x2.toNatClampNeg) - a2)) 14 j0 a1.toNatClampNeg (((gb_si s1 16 j0 x2.toNatClampNeg ((s1.1 16 j0 x2.toNatClampNeg) - a2)).1 14 j0 a1.toNatClampNeg) - a2)) 18 j0 ((a1 * 6) + ((gb_si (gb_si s1 16 j0 x2.toNatClampNeg ((s1.1 16 j0 x2.toNatClampNeg) - a2)) 14 j0 a1.toNatClampNeg (((gb_si s1 16 j0 x2.toNatClampNeg ((s1.1 16 j0 x2.toNatClampNeg) - a2)).1 14 j0 a1.toNatClampNeg) - a2)).1 15 j0 x2.toNatClampNeg)).toNatClampNeg (((gb_si (gb_si s1 16 j0 x2.toNatClampNeg ((s1.1 16 j0 x2.toNatClampNeg) - a2)) 14 j0 a1.toNatClampNeg (((gb_si s1 16 j0 x2.toNatClampNeg ((s1.1 16 j0 x2.toNatClampNeg) - a2)).1 14 j0 a1.toNatClampNeg) - a2)).1 18 j0 ((a1 * 6) + ((gb_si (gb_si s1 16 j0 x2.toNatClampNeg ((s1.1 16 j0 x2.toNatClampNeg) - a2)) 14 j0 a1.toNatClampNeg (((gb_si s1 16 j0 x2.toNatClampNeg ((s1.1 16 j0 x2.toNatClampNeg) - a2)).1 14 j0 a1.toNatClampNeg) - a2)).1 15 j0 x2.toNatClampNeg)).toNatClampNeg) - a2)).1 13 j0 a1.toNatClampNeg) - 1))))
    else
      some (none, gb_si (gb_si (gb_si s1 16 j0 x2.toNatClampNeg ((s1.1 16 j0 x2.toNatClampNeg) - a2)) 14 j0 a1.toNatClampNeg (((gb_si s1 16 j0 x2.toNatClampNeg ((s1.1 16 j0 x2.toNatClampNeg) - a2)).1 14 j0 a1.toNatClampNeg) - a2)) 18 j0 ((a1 * 6) + ((gb_si (gb_si s1 16 j0 x2.toNatClampNeg ((s1.1 16 j0 x2.toNatClampNeg) - a2)) 14 j0 a1.toNatClampNeg (((gb_si s1 16 j0 x2.toNatClampNeg ((s1.1 16 j0 x2.toNatClampNeg) - a2)).1 14 j0 a1.toNatClampNeg) - a2)).1 15 j0 x2.toNatClampNeg)).toNatClampNeg (((gb_si (gb_si s1 16 j0 x2.toNatClampNeg ((s1.1 16 j0 x2.toNatClampNeg) - a2)) 14 j0 a1.toNatClampNeg (((gb_si s1 16 j0 x2.toNatClampNeg ((s1.1 16 j0 x2.toNatClampNeg) - a2)).1 14 j0 a1.toNatClampNeg) - a2)).1 18 j0 ((a1 * 6) + ((gb_si (gb_si s1 16 j0 x2.toNatClampNeg ((s1.1 16 j0 x2.toNatClampNeg) - a2)) 14 j0 a1.toNatClampNeg (((gb_si s1 16 j0 x2.toNatClampNeg ((s1.1 16 j0 x2.toNatClampNeg) - a2)).1 14 j0 a1.toNatClampNeg) - a2)).1 15 j0 x2.toNatClampNeg)).toNatClampNeg) - a2))))))))))))) := (gb_hide_at _ _ _).trans rfl
noncomputable def j_X1_layCheapest_43 (r : gb_F) (v1 : Int32) (v2 : Int32) (v3 : Int32) (σ : gb_M) : gb_R := K_X1_layCheapest r 43 [(0, gR 27 0), (1, gI v1), (2, gI v2), (3, gI v3)] [] σ
set_option maxRecDepth 20000 in
theorem e_X1_layCheapest_43 (r : gb_F) (v1 : Int32) (v2 : Int32) (v3 : Int32) (σ : gb_M) : j_X1_layCheapest_43 r v1 v2 v3 σ =
  if 6 ≤ v3 then
    some (none, σ)
  else
    gb_b1 (f_X1_mayLie [gR 27 0, gI v3, gI v1] σ) (fun x3 s2 => if x3 = 0 then
      j_X1_layCheapest_43 r v1 v2 (v3 + 1) s2
    else
      gb_gd (gb_in v1 6) (gb_gd (gb_in v1 6) (gb_b1 (f_X7_growth [gR 10 10, gI v3, gI (s2.1 24 0 v1.toNatClampNeg), gI (s2.1 25 0 v1.toNatClampNeg)] s2) (fun x5 s4 => gb_b0 (f_X1_lay [gR 27 0, gI v3, gI v1] s4) (fun s6 => gb_b0 (r [gR 27 0, gI (v1 + 1), gI (v2 + x5)] s6) (fun s7 => gb_gd (gb_in v1 6) (gb_b0 (f_X7_unlay [gR 10 10, gI v3, gI (s7.1 25 0 v1.toNatClampNeg)] s7) (fun s8 => j_X1_layCheapest_43 r v1 v2 (v3 + 1) s8)))))))) := (gb_fx_eq (L_X1_layCheapest r) 43 _ _ _).trans rfl
set_option maxRecDepth 20000 in
theorem e_X1_layCheapest (n : Nat) (a1 : Int32) (a2 : Int32) (σ : gb_M) : g_X1_layCheapest (n + 1) [gR 27 0, gI a1, gI a2] σ =
  if σ.1 27 0 5 ≤ a2 then
    some (none, σ)
  else
    if a1 ≤ σ.1 23 0 3 then
      if a1 = σ.1 23 0 3 then gb_b0 (f_X1_takeWay [gR 27 0] (gb_si σ 27 0 5 a2)) (fun s1 => some (none, s1)) else j_X1_layCheapest_43 (g_X1_layCheapest n) a1 a2 0 σ
    else
      some (none, σ) := rfl
set_option maxRecDepth 20000 in
theorem e_X1_leastGrowth (j1 : Nat) (a2 : Int32) (σ : gb_M) : f_X1_leastGrowth [gR 27 0, gR 10 j1, gI a2] σ =
  gb_b0 (f_X1_start [gR 27 0, gR 10 j1, gI a2] σ) (fun s1 => gb_b1 (f_X1_mightLie [gR 27 0] (gb_si s1 27 0 5 1000000000)) (fun x3 s2 => if x3 = 0 then
    if 1000000000 ≤ s2.1 27 0 5 then some (some (gI (-1)), s2) else some (some (gI (s2.1 27 0 5)), s2)
  else
    gb_b0 (f_X1_layCheapest [gR 27 0, gI 0, gI 0] s2) (fun s4 => if 1000000000 ≤ s4.1 27 0 5 then some (some (gI (-1)), s4) else some (some (gI (s4.1 27 0 5)), s4)))) := (gb_hide_at _ _ _).trans rfl
set_option maxRecDepth 20000 in
theorem e_J6_bitCount_0f7a4 (a0 : Int32) (σ : gb_M) : f_J6_bitCount_0f7a4 [gI a0] σ =
  some (some (gI ((((((((a0 - (((a0.toUInt32 >>> ((1 : Int32).toUInt32 &&& Int32.toUInt32 31)).toInt32) &&& 1431655765)) &&& 858993459) + ((((a0 - (((a0.toUInt32 >>> ((1 : Int32).toUInt32 &&& Int32.toUInt32 31)).toInt32) &&& 1431655765)).toUInt32 >>> ((2 : Int32).toUInt32 &&& Int32.toUInt32 31)).toInt32) &&& 858993459)) + (((((a0 - (((a0.toUInt32 >>> ((1 : Int32).toUInt32 &&& Int32.toUInt32 31)).toInt32) &&& 1431655765)) &&& 858993459) + ((((a0 - (((a0.toUInt32 >>> ((1 : Int32).toUInt32 &&& Int32.toUInt32 31)).toInt32) &&& 1431655765)).toUInt32 >>> ((2 : Int32).toUInt32 &&& Int32.toUInt32 31)).toInt32) &&& 858993459)).toUInt32 >>> ((4 : Int32).toUInt32 &&& Int32.toUInt32 31)).toInt32)) &&& 252645135) + (((((((a0 - (((a0.toUInt32 >>> ((1 : Int32).toUInt32 &&& Int32.toUInt32 31)).toInt32) &&& 1431655765)) &&& 858993459) + ((((a0 - (((a0.toUInt32 >>> ((1 : Int32).toUInt32 &&& Int32.toUInt32 31)).toInt32) &&& 1431655765)).toUInt32 >>> ((2 : Int32).toUInt32 &&& Int32.toUInt32 31)).toInt32) &&& 858993459)) + (((((a0 - (((a0.toUInt32 >>> ((1 : Int32).toUInt32 &&& Int32.toUInt32 31)).toInt32) &&& 1431655765)) &&& 858993459) + ((((a0 - (((a0.toUInt32 >>> ((1 : Int32).toUInt32 &&& Int32.toUInt32 31)).toInt32) &&& 1431655765)).toUInt32 >>> ((2 : Int32).toUInt32 &&& Int32.toUInt32 31)).toInt32) &&& 858993459)).toUInt32 >>> ((4 : Int32).toUInt32 &&& Int32.toUInt32 31)).toInt32)) &&& 252645135).toUInt32 >>> ((8 : Int32).toUInt32 &&& Int32.toUInt32 31)).toInt32)) + ((((((((a0 - (((a0.toUInt32 >>> ((1 : Int32).toUInt32 &&& Int32.toUInt32 31)).toInt32) &&& 1431655765)) &&& 858993459) + ((((a0 - (((a0.toUInt32 >>> ((1 : Int32).toUInt32 &&& Int32.toUInt32 31)).toInt32) &&& 1431655765)).toUInt32 >>> ((2 : Int32).toUInt32 &&& Int32.toUInt32 31)).toInt32) &&& 858993459)) + (((((a0 - (((a0.toUInt32 >>> ((1 : Int32).toUInt32 &&& Int32.toUInt32 31)).toInt32) &&& 1431655765)) &&& 858993459) + ((((a0 - (((a0.toUInt32 >>> ((1 : Int32).toUInt32 &&& Int32.toUInt32 31)).toInt32) &&& 1431655765)).toUInt32 >>> ((2 : Int32).toUInt32 &&& Int32.toUInt32 31)).toInt32) &&& 858993459)).toUInt32 >>> ((4 : Int32).toUInt32 &&& Int32.toUInt32 31)).toInt32)) &&& 252645135) + (((((((a0 - (((a0.toUInt32 >>> ((1 : Int32).toUInt32 &&& Int32.toUInt32 31)).toInt32) &&& 1431655765)) &&& 858993459) + ((((a0 - (((a0.toUInt32 >>> ((1 : Int32).toUInt32 &&& Int32.toUInt32 31)).toInt32) &&& 1431655765)).toUInt32 >>> ((2 : Int32).toUInt32 &&& Int32.toUInt32 31)).toInt32) &&& 858993459)) + (((((a0 - (((a0.toUInt32 >>> ((1 : Int32).toUInt32 &&& Int32.toUInt32 31)).toInt32) &&& 1431655765)) &&& 858993459) + ((((a0 - (((a0.toUInt32 >>> ((1 : Int32).toUInt32 &&& Int32.toUInt32 31)).toInt32) &&& 1431655765)).toUInt32 >>> ((2 : Int32).toUInt32 &&& Int32.toUInt32 31)).toInt32) &&& 858993459)).toUInt32 >>> ((4 : Int32).toUInt32 &&& Int32.toUInt32 31)).toInt32)) &&& 252645135).toUInt32 >>> ((8 : Int32).toUInt32 &&& Int32.toUInt32 31)).toInt32)).toUInt32 >>> ((16 : Int32).toUInt32 &&& Int32.toUInt32 31)).toInt32)) &&& 63)), σ) := (gb_hide_at _ _ _).trans rfl
set_option maxRecDepth 20000 in
theorem e_X1_isFewer (a1 : Int32) (σ : gb_M) : f_X1_isFewer [gR 27 0, gI a1] σ =
  if 0 ≤ σ.1 27 0 6 then
    gb_b1 (f_J6_bitCount_0f7a4 [gI a1] σ) (fun x2 s1 => gb_b1 (f_J6_bitCount_0f7a4 [gI (s1.1 27 0 6)] s1) (fun x4 s3 => if x2 - x4 < 0 then
      some (some (gI 1), s3)
    else
      if x2 - x4 = 0 then if s3.1 27 0 6 ≤ a1 then some (some (gI 0), s3) else some (some (gI 1), s3) else some (some (gI 0), s3)))
  else
    some (some (gI 1), σ) := (gb_hide_at _ _ _).trans rfl
noncomputable def j_X1_layFewest_39 (r : gb_F) (v1 : Int32) (v2 : Int32) (v3 : Int32) (σ : gb_M) : gb_R := K_X1_layFewest r 39 [(0, gR 27 0), (1, gI v1), (2, gI v2), (3, gI v3)] [] σ
set_option maxRecDepth 20000 in
theorem e_X1_layFewest_39 (r : gb_F) (v1 : Int32) (v2 : Int32) (v3 : Int32) (σ : gb_M) : j_X1_layFewest_39 r v1 v2 v3 σ =
  if 6 ≤ v3 then
    some (none, σ)
  else
    gb_b1 (f_X1_mayLie [gR 27 0, gI v3, gI v1] σ) (fun x4 s3 => if x4 = 0 then
      j_X1_layFewest_39 r v1 v2 (v3 + 1) s3
    else
      gb_b0 (f_X1_lay [gR 27 0, gI v3, gI v1] s3) (fun s5 => gb_b0 (r [gR 27 0, gI (v1 + 1), gI (v2 ||| (1 <<< (v3 &&& 31)))] s5) (fun s6 => gb_gd (gb_in v1 6) (gb_b0 (f_X7_unlay [gR 10 10, gI v3, gI (s6.1 25 0 v1.toNatClampNeg)] s6) (fun s7 => j_X1_layFewest_39 r v1 v2 (v3 + 1) s7))))) := (gb_fx_eq (L_X1_layFewest r) 39 _ _ _).trans rfl
set_option maxRecDepth 20000 in
theorem e_X1_layFewest (n : Nat) (a1 : Int32) (a2 : Int32) (σ : gb_M) : g_X1_layFewest (n + 1) [gR 27 0, gI a1, gI a2] σ =
  gb_b1 (f_X1_isFewer [gR 27 0, gI a2] σ) (fun x2 s1 => if x2 = 0 then
    some (none, s1)
  else
    if a1 ≤ s1.1 23 0 3 then if a1 = s1.1 23 0 3 then some (none, gb_si s1 27 0 6 a2) else j_X1_layFewest_39 (g_X1_layFewest n) a1 a2 0 s1 else some (none, s1)) := rfl
set_option maxRecDepth 20000 in
theorem e_X1_fewestBins (j1 : Nat) (σ : gb_M) : f_X1_fewestBins [gR 27 0, gR 10 j1] σ =
  gb_b0 (f_X1_start [gR 27 0, gR 10 j1, gI (-1)] σ) (fun s1 => gb_b1 (f_X1_mightLie [gR 27 0] (gb_si s1 27 0 6 (-1))) (fun x3 s2 => if x3 = 0 then
    some (some (gI (s2.1 27 0 6)), s2)
  else
    gb_b0 (f_X1_layFewest [gR 27 0, gI 0, gI 0] s2) (fun s4 => some (some (gI (s4.1 27 0 6)), s4)))) := (gb_hide_at _ _ _).trans rfl
set_option maxRecDepth 20000 in
theorem e_X8_ended  (σ : gb_M) : f_X8_ended [gR 1 0] σ =
  if σ.1 1 0 2 < σ.1 1 0 1 then some (some (gI 0), σ) else some (some (gI 1), σ) := (gb_hide_at _ _ _).trans rfl
set_option maxRecDepth 20000 in
theorem e_X8_newNumber (a1 : Int32) (σ : gb_M) : f_X8_newNumber [gR 1 0, gI a1] σ =
  gb_b1 (f_X8_ended [gR 1 0] σ) (fun x2 s1 => if x2 = 0 then
    gb_gd (gb_in (s1.1 1 0 2) 200) (if s1.1 2 0 (s1.1 1 0 2).toNatClampNeg < 48 then
      some (some (gI (-1)), s1)
    else
      gb_gd (gb_in (s1.1 1 0 2) 200) (if s1.1 2 0 (s1.1 1 0 2).toNatClampNeg < 54 then
        gb_gd (gb_in (s1.1 1 0 2) 200) (if a1 &&& (1 <<< (((s1.1 2 0 (s1.1 1 0 2).toNatClampNeg) - 48) &&& 31)) = 0 then
          some (some (gI ((s1.1 2 0 (s1.1 1 0 2).toNatClampNeg) - 48)), gb_si s1 1 0 2 ((s1.1 1 0 2) + 1))
        else
          some (some (gI (-1)), s1))
      else
        some (some (gI (-1)), s1)))
  else
    some (some (gI (-1)), s1)) := (gb_hide_at _ _ _).trans rfl
