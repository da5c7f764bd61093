/-! DEC: the blocks as equations, printed by wip/whole/dec.py -/
noncomputable def j_X10_dear_7 (v1 : Int32) (σ : gb_M) : gb_R := K_X10_dear 7 [(0, gR 36 0), (1, gI v1)] [] σ
noncomputable def j_X10_dear_18 (v1 : Int32) (v2 : Int64) (v4 : Int32) (σ : gb_M) : gb_R := K_X10_dear 18 [(0, gR 36 0), (1, gI v1), (2, gL v2), (4, gI v4)] [] σ
noncomputable def j_X10_dear_107 (v1 : Int32) (v2 : Int32) (σ : gb_M) : gb_R := K_X10_dear 107 [(0, gR 36 0), (1, gI v1), (2, gI v2)] [] σ
noncomputable def j_X10_dear_28 (v1 : Int32) (v2 : Int64) (v4 : Int32) (v5 : Int32) (σ : gb_M) : gb_R := K_X10_dear 28 [(0, gR 36 0), (1, gI v1), (2, gL v2), (4, gI v4), (5, gI v5)] [] σ
noncomputable def j_X10_dear_158 (v1 : Int32) (v2 : Int32) (σ : gb_M) : gb_R := K_X10_dear 158 [(0, gR 36 0), (1, gI v1), (2, gI v2)] [] σ
set_option maxRecDepth 20000 in
theorem e_X10_dear_7 (v1 : Int32) (σ : gb_M) : j_X10_dear_7 v1 σ =
  if 6 ≤ v1 then j_X10_dear_107 0 1 σ else j_X10_dear_18 v1 0 0 σ := (gb_fx_eq (L_X10_dear) 7 _ _ _).trans rfl
set_option maxRecDepth 20000 in
theorem e_X10_dear_18 (v1 : Int32) (v2 : Int64) (v4 : Int32) (σ : gb_M) : j_X10_dear_18 v1 v2 v4 σ =
  if 6 ≤ v4 then gb_gd (gb_in v1 6) (j_X10_dear_7 (v1 + 1) (gb_sl σ 52 0 v1.toNatClampNeg v2)) else j_X10_dear_28 v1 v2 v4 0 σ := (gb_fx_eq (L_X10_dear) 18 _ _ _).trans rfl
set_option maxRecDepth 20000 in
theorem e_X10_dear_107 (v1 : Int32) (v2 : Int32) (σ : gb_M) : j_X10_dear_107 v1 v2 σ =
  if 6 ≤ v2 then
    gb_gd (gb_in v1 6) (if lg_cmp (σ.2 52 0 v1.toNatClampNeg) 0 = 0 then some (some (gI (-2)), σ) else j_X10_dear_158 v1 0 (gb_si σ 36 0 9 0))
  else
    gb_gd (gb_in v2 6) (gb_gd (gb_in v1 6) (if lg_cmp (σ.2 52 0 v2.toNatClampNeg) (σ.2 52 0 v1.toNatClampNeg) ≤ 0 then j_X10_dear_107 v1 (v2 + 1) σ else j_X10_dear_107 v2 (v2 + 1) σ)) := (gb_fx_eq (L_X10_dear) 107 _ _ _).trans rfl
set_option maxRecDepth 20000 in
theorem e_X10_dear_28 (v1 : Int32) (v2 : Int64) (v4 : Int32) (v5 : Int32) (σ : gb_M) : j_X10_dear_28 v1 v2 v4 v5 σ =
  gb_b1 (f_X10_many [gR 36 0, gI v4] σ) (fun x2 s1 => if x2 ≤ v5 then
    j_X10_dear_18 v1 v2 (v4 + 1) s1
  else
    gb_b1 (f_X10_layerOf [gR 36 0, gI v4, gI v5, gI 0] s1) (fun x4 s3 => if x4 = v1 then
      gb_b1 (f_X10_layerOf [gR 36 0, gI v4, gI v5, gI 1] s3) (fun x6 s5 => gb_b1 (f_X10_unit [gR 36 0, gI v4, gI v5] s5) (fun x8 s7 => j_X10_dear_28 v1 (v2 + ((x6 * x8).toInt64)) v4 (v5 + 1) s7))
    else
      j_X10_dear_28 v1 (v2 + 0) v4 (v5 + 1) s3)) := (gb_fx_eq (L_X10_dear) 28 _ _ _).trans rfl
set_option maxRecDepth 20000 in
theorem e_X10_dear_158 (v1 : Int32) (v2 : Int32) (σ : gb_M) : j_X10_dear_158 v1 v2 σ =
  if 6 ≤ v2 then
    some (some (gI v1), σ)
  else
    gb_gd (gb_in v2 6) (gb_b0 (f_X10_tell [gR 36 0, gL (σ.2 52 0 v2.toNatClampNeg)] σ) (fun s9 => j_X10_dear_158 v1 (v2 + 1) s9)) := (gb_fx_eq (L_X10_dear) 158 _ _ _).trans rfl
set_option maxRecDepth 20000 in
theorem e_X10_dear  (σ : gb_M) : f_X10_dear [gR 36 0] σ =
  j_X10_dear_7 0 (gb_si σ 36 0 10 0) := (gb_hide_at _ _ _).trans rfl
noncomputable def j_X10_takers_23 (v1 : Int32) (v2 : Int32) (v3 : Int32) (σ : gb_M) : gb_R := K_X10_takers 23 [(0, gR 36 0), (1, gI v1), (2, gI v2), (3, gI v3)] [] σ
noncomputable def j_X10_takers_35 (v1 : Int32) (v2 : Int32) (v3 : Int32) (v4 : Int32) (v5 : Int32) (σ : gb_M) : gb_R := K_X10_takers 35 [(0, gR 36 0), (1, gI v1), (2, gI v2), (3, gI v3), (4, gI v4), (5, gI v5)] [] σ
set_option maxRecDepth 20000 in
theorem e_X10_takers_23 (v1 : Int32) (v2 : Int32) (v3 : Int32) (σ : gb_M) : j_X10_takers_23 v1 v2 v3 σ =
  if 6 ≤ v3 then some (some (gI v2), σ) else j_X10_takers_35 v1 v2 v3 0 0 σ := (gb_fx_eq (L_X10_takers) 23 _ _ _).trans rfl
set_option maxRecDepth 20000 in
theorem e_X10_takers_35 (v1 : Int32) (v2 : Int32) (v3 : Int32) (v4 : Int32) (v5 : Int32) (σ : gb_M) : j_X10_takers_35 v1 v2 v3 v4 v5 σ =
  if 6 ≤ v5 then
    gb_b0 (f_X10_tell [gR 36 0, gL v4.toInt64] σ) (fun s3 => j_X10_takers_23 v1 v2 (v3 + 1) s3)
  else
    gb_gd (gb_in 174 176) (gb_b1 (f_X10_whyNot [gR 36 0, gI v5, gI v3, gI v1, gI (σ.1 37 0 (174 : Int32).toNatClampNeg)] σ) (fun x5 s4 => if x5 = 0 then j_X10_takers_35 v1 (v2 ||| (1 <<< (v5 &&& 31))) v3 (v4 + 1) (v5 + 1) s4 else j_X10_takers_35 v1 v2 v3 v4 (v5 + 1) s4)) := (gb_fx_eq (L_X10_takers) 35 _ _ _).trans rfl
set_option maxRecDepth 20000 in
theorem e_X10_takers (a1 : Int32) (σ : gb_M) : f_X10_takers [gR 36 0, gI a1] σ =
  gb_b1 (f_X10_isLoad [gI a1] (gb_si σ 36 0 10 0)) (fun x2 s1 => if x2 = 0 then some (some (gI (-1)), s1) else j_X10_takers_23 a1 0 0 (gb_si s1 36 0 9 0)) := (gb_hide_at _ _ _).trans rfl
noncomputable def j_X10_room_21 (v1 : Int32) (v2 : Int32) (v3 : Int32) (v4 : Int32) (σ : gb_M) : gb_R := K_X10_room 21 [(0, gR 36 0), (1, gI v1), (2, gI v2), (3, gI v3), (4, gI v4)] [] σ
set_option maxRecDepth 20000 in
theorem e_X10_room_21 (v1 : Int32) (v2 : Int32) (v3 : Int32) (v4 : Int32) (σ : gb_M) : j_X10_room_21 v1 v2 v3 v4 σ =
  if 6 ≤ v4 then
    gb_b0 (f_X10_tell [gR 36 0, gL v3.toInt64] (gb_si σ 36 0 9 0)) (fun s3 => some (some (gI v2), s3))
  else
    gb_gd (gb_in (48 + v4) 176) (gb_b1 (f_X10_tonsIn [gR 36 0, gI v4] σ) (fun x5 s4 => if (σ.1 37 0 (48 + v4).toNatClampNeg) - x5 ≤ v2 then
      j_X10_room_21 v1 v2 v3 (v4 + 1) s4
    else
      gb_gd (gb_in 174 176) (gb_b1 (f_X10_whyNot [gR 36 0, gI v4, gI v1, gI ((σ.1 37 0 (48 + v4).toNatClampNeg) - x5), gI (s4.1 37 0 (174 : Int32).toNatClampNeg)] s4) (fun x7 s6 => if x7 = 0 then j_X10_room_21 v1 ((σ.1 37 0 (48 + v4).toNatClampNeg) - x5) v4 (v4 + 1) s6 else j_X10_room_21 v1 v2 v3 (v4 + 1) s6)))) := (gb_fx_eq (L_X10_room) 21 _ _ _).trans rfl
set_option maxRecDepth 20000 in
theorem e_X10_room (a1 : Int32) (σ : gb_M) : f_X10_room [gR 36 0, gI a1] σ =
  gb_b1 (f_X10_isGrade [gI a1] (gb_si σ 36 0 10 0)) (fun x2 s1 => if x2 = 0 then some (some (gI (-1)), s1) else j_X10_room_21 a1 0 (-1) 0 s1) := (gb_hide_at _ _ _).trans rfl
noncomputable def j_X10_bottom_35 (v1 : Int32) (v2 : Int32) (v3 : Int32) (σ : gb_M) : gb_R := K_X10_bottom 35 [(0, gR 36 0), (1, gI v1), (2, gI v2), (3, gI v3)] [] σ
set_option maxRecDepth 20000 in
theorem e_X10_bottom_35 (v1 : Int32) (v2 : Int32) (v3 : Int32) (σ : gb_M) : j_X10_bottom_35 v1 v2 v3 σ =
  gb_b1 (f_X10_many [gR 36 0, gI v1] σ) (fun x8 s7 => if x8 ≤ v3 then
    gb_b1 (f_X10_lowest [gR 36 0, gI v1, gI v2] (gb_si s7 36 0 9 0)) (fun x10 s9 => gb_b0 (f_X10_tell [gR 36 0, gL x10.toInt64] s9) (fun s11 => gb_b0 (f_X10_tell [gR 36 0, gL v3.toInt64] s11) (fun s12 => some (some (gI v2), s12))))
  else
    gb_b1 (f_X10_layerOf [gR 36 0, gI v1, gI v3, gI 0] s7) (fun x14 s13 => if x14 = v2 then
      j_X10_bottom_35 v1 v2 (v3 + 1) s13
    else
      gb_b1 (f_X10_lowest [gR 36 0, gI v1, gI v2] (gb_si s13 36 0 9 0)) (fun x16 s15 => gb_b0 (f_X10_tell [gR 36 0, gL x16.toInt64] s15) (fun s17 => gb_b0 (f_X10_tell [gR 36 0, gL v3.toInt64] s17) (fun s18 => some (some (gI v2), s18)))))) := (gb_fx_eq (L_X10_bottom) 35 _ _ _).trans rfl
set_option maxRecDepth 20000 in
theorem e_X10_bottom (a1 : Int32) (σ : gb_M) : f_X10_bottom [gR 36 0, gI a1] σ =
  gb_b1 (f_X10_isBin [gI a1] (gb_si σ 36 0 10 0)) (fun x2 s1 => if x2 = 0 then
    some (some (gI (-1)), s1)
  else
    gb_b1 (f_X10_many [gR 36 0, gI a1] s1) (fun x4 s3 => if x4 = 0 then some (some (gI (-2)), s3) else gb_b1 (f_X10_layerOf [gR 36 0, gI a1, gI 0, gI 0] s3) (fun x6 s5 => j_X10_bottom_35 a1 x6 0 s5))) := (gb_hide_at _ _ _).trans rfl
noncomputable def j_X10_below_9 (v1 : Int32) (v2 : Int32) (v3 : Int32) (v4 : Int32) (v5 : Int32) (v6 : Int32) (σ : gb_M) : gb_R := K_X10_below 9 [(0, gR 36 0), (1, gI v1), (2, gI v2), (3, gI v3), (4, gI v4), (5, gI v5), (6, gI v6)] [] σ
set_option maxRecDepth 20000 in
theorem e_X10_below_9 (v1 : Int32) (v2 : Int32) (v3 : Int32) (v4 : Int32) (v5 : Int32) (v6 : Int32) (σ : gb_M) : j_X10_below_9 v1 v2 v3 v4 v5 v6 σ =
  gb_b1 (f_X10_many [gR 36 0, gI v1] σ) (fun x2 s1 => if x2 ≤ v6 then
    some (some (gI (-1)), s1)
  else
    gb_b1 (f_X10_layerOf [gR 36 0, gI v1, gI v6, gI 1] s1) (fun x4 s3 => gb_b1 (f_X10_layerOf [gR 36 0, gI v1, gI v6, gI 0] s3) (fun x6 s5 => if x6 = v2 then
      if v5 + x4 < v3 then j_X10_below_9 v1 v2 v3 v4 (v5 + x4) (v6 + 1) s5 else some (some (gI v4), s5)
    else
      j_X10_below_9 v1 v2 v3 (v4 + (v5 + x4)) 0 (v6 + 1) s5))) := (gb_fx_eq (L_X10_below) 9 _ _ _).trans rfl
set_option maxRecDepth 20000 in
theorem e_X10_below (a1 : Int32) (a2 : Int32) (a3 : Int32) (σ : gb_M) : f_X10_below [gR 36 0, gI a1, gI a2, gI a3] σ =
  j_X10_below_9 a1 a2 a3 0 0 0 σ := (gb_hide_at _ _ _).trans rfl
noncomputable def j_X10_reaches_29 (v1 : Int32) (v2 : Int32) (v3 : Int32) (v4 : Int32) (v5 : Int32) (σ : gb_M) : gb_R := K_X10_reaches 29 [(0, gR 36 0), (1, gI v1), (2, gI v2), (3, gI v3), (4, gI v4), (5, gI v5)] [] σ
set_option maxRecDepth 20000 in
theorem e_X10_reaches_29 (v1 : Int32) (v2 : Int32) (v3 : Int32) (v4 : Int32) (v5 : Int32) (σ : gb_M) : j_X10_reaches_29 v1 v2 v3 v4 v5 σ =
  if 6 ≤ v5 then
    if v3 = (-1) then
      some (some (gI (-2)), σ)
    else
      gb_b0 (f_X10_tell [gR 36 0, gL v3.toInt64] (gb_si σ 36 0 9 0)) (fun s5 => some (some (gI v4), s5))
  else
    gb_b1 (f_X10_isClosed [gR 36 0, gI v5] σ) (fun x7 s6 => if x7 = 0 then
      gb_b1 (f_X10_below [gR 36 0, gI v5, gI v1, gI v2] s6) (fun x9 s8 => if x9 = (-1) then
        j_X10_reaches_29 v1 v2 v3 v4 (v5 + 1) s8
      else
        if v3 = (-1) then
          j_X10_reaches_29 v1 v2 v5 x9 (v5 + 1) s8
        else
          if x9 < v4 then j_X10_reaches_29 v1 v2 v5 x9 (v5 + 1) s8 else j_X10_reaches_29 v1 v2 v3 v4 (v5 + 1) s8)
    else
      if (-1) = (-1) then
        j_X10_reaches_29 v1 v2 v3 v4 (v5 + 1) s6
      else
        if v3 = (-1) then
          j_X10_reaches_29 v1 v2 v5 (-1) (v5 + 1) s6
        else
          if (-1) < v4 then j_X10_reaches_29 v1 v2 v5 (-1) (v5 + 1) s6 else j_X10_reaches_29 v1 v2 v3 v4 (v5 + 1) s6) := (gb_fx_eq (L_X10_reaches) 29 _ _ _).trans rfl
set_option maxRecDepth 20000 in
theorem e_X10_reaches (a1 : Int32) (a2 : Int32) (σ : gb_M) : f_X10_reaches [gR 36 0, gI a1, gI a2] σ =
  gb_b1 (f_X10_isGrade [gI a1] (gb_si σ 36 0 10 0)) (fun x2 s1 => if x2 = 0 then
    some (some (gI (-1)), s1)
  else
    gb_b1 (f_X10_isLoad [gI a2] s1) (fun x4 s3 => if x4 = 0 then some (some (gI (-1)), s3) else j_X10_reaches_29 a1 a2 (-1) 0 0 s3)) := (gb_hide_at _ _ _).trans rfl
noncomputable def j_X10_serves_36 (v1 : Int32) (σ : gb_M) : gb_R := K_X10_serves 36 [(0, gR 36 0), (1, gI v1)] [] σ
set_option maxRecDepth 20000 in
theorem e_X10_serves_36 (v1 : Int32) (σ : gb_M) : j_X10_serves_36 v1 σ =
  if σ.1 36 0 29 ≤ v1 then
    some (some (gI (σ.1 36 0 29)), σ)
  else
    gb_gd (gb_in v1 6) (gb_b0 (f_X10_tell [gR 36 0, gL ((σ.1 50 0 v1.toNatClampNeg).toInt64)] σ) (fun s3 => j_X10_serves_36 (v1 + 1) s3)) := (gb_fx_eq (L_X10_serves) 36 _ _ _).trans rfl
set_option maxRecDepth 20000 in
theorem e_X10_serves  (σ : gb_M) : f_X10_serves [gR 36 0] σ =
  gb_b0 (f_X10_readsList [gR 36 0] (gb_si σ 36 0 10 0)) (fun s1 => if s1.1 36 0 18 = (-1) then
    gb_b0 (f_X10_findsServed [gR 36 0] s1) (fun s2 => j_X10_serves_36 0 (gb_si s2 36 0 9 0))
  else
    some (some (gI ((-21) - (s1.1 36 0 18))), s1)) := (gb_hide_at _ _ _).trans rfl
noncomputable def j_X10_picks_43 (v1 : Int32) (σ : gb_M) : gb_R := K_X10_picks 43 [(0, gR 36 0), (1, gI v1)] [] σ
set_option maxRecDepth 20000 in
theorem e_X10_picks_43 (v1 : Int32) (σ : gb_M) : j_X10_picks_43 v1 σ =
  if σ.1 36 0 25 ≤ v1 then
    some (some (gI (σ.1 36 0 29)), σ)
  else
    gb_gd (gb_in v1 6) (gb_b0 (f_X10_tell [gR 36 0, gL ((σ.1 50 0 v1.toNatClampNeg).toInt64)] σ) (fun s3 => j_X10_picks_43 (v1 + 1) s3)) := (gb_fx_eq (L_X10_picks) 43 _ _ _).trans rfl
set_option maxRecDepth 20000 in
theorem e_X10_picks  (σ : gb_M) : f_X10_picks [gR 36 0] σ =
  gb_b0 (f_X10_readsList [gR 36 0] (gb_si σ 36 0 10 0)) (fun s1 => if s1.1 36 0 18 = (-1) then
    gb_b0 (f_X10_picksFrom [gR 36 0, gI 0, gI 0] (gb_si s1 36 0 29 (-1))) (fun s2 => j_X10_picks_43 0 (gb_si s2 36 0 9 0))
  else
    some (some (gI ((-21) - (s1.1 36 0 18))), s1)) := (gb_hide_at _ _ _).trans rfl
noncomputable def j_X10_mixedOfOthers_4 (v1 : Int32) (v2 : Int32) (v3 : Int32) (σ : gb_M) : gb_R := K_X10_mixedOfOthers 4 [(0, gR 36 0), (1, gI v1), (2, gI v2), (3, gI v3)] [] σ
set_option maxRecDepth 20000 in
theorem e_X10_mixedOfOthers_4 (v1 : Int32) (v2 : Int32) (v3 : Int32) (σ : gb_M) : j_X10_mixedOfOthers_4 v1 v2 v3 σ =
  if 6 ≤ v3 then
    some (some (gI v2), σ)
  else
    if v3 = v1 then
      j_X10_mixedOfOthers_4 v1 (v2 + 0) (v3 + 1) σ
    else
      gb_b1 (f_X10_mixedIn [gR 36 0, gI v3] σ) (fun x2 s1 => j_X10_mixedOfOthers_4 v1 (v2 + x2) (v3 + 1) s1) := (gb_fx_eq (L_X10_mixedOfOthers) 4 _ _ _).trans rfl
set_option maxRecDepth 20000 in
theorem e_X10_mixedOfOthers (a1 : Int32) (σ : gb_M) : f_X10_mixedOfOthers [gR 36 0, gI a1] σ =
  j_X10_mixedOfOthers_4 a1 0 0 σ := (gb_hide_at _ _ _).trans rfl
noncomputable def j_X10_emptiesFrom_60 (r : gb_F) (v1 : Int32) (v2 : Int32) (v3 : Int32) (v4 : Int32) (σ : gb_M) : gb_R := K_X10_emptiesFrom r 60 [(0, gR 36 0), (1, gI v1), (2, gI v2), (3, gI v3), (4, gI v4)] [] σ
set_option maxRecDepth 20000 in
theorem e_X10_emptiesFrom_60 (r : gb_F) (v1 : Int32) (v2 : Int32) (v3 : Int32) (v4 : Int32) (σ : gb_M) : j_X10_emptiesFrom_60 r v1 v2 v3 v4 σ =
  if 6 ≤ v4 then
    some (none, σ)
  else
    if v4 = v1 then
      j_X10_emptiesFrom_60 r v1 v2 v3 (v4 + 1) σ
    else
      gb_b1 (f_X10_layerOf [gR 36 0, gI v1, gI v2, gI 0] σ) (fun x9 s8 => gb_b1 (f_X10_layerOf [gR 36 0, gI v1, gI v2, gI 1] s8) (fun x11 s10 => gb_b1 (f_X10_layerOf [gR 36 0, gI v1, gI v2, gI 2] s10) (fun x13 s12 => gb_b1 (f_X10_whyNot [gR 36 0, gI v4, gI x9, gI x11, gI x13] s12) (fun x15 s14 => if x15 = 0 then
        gb_gd (gb_in v2 6) (gb_b1 (f_X10_layerOf [gR 36 0, gI v1, gI v2, gI 0] (gb_si s14 49 0 v2.toNatClampNeg v4)) (fun x17 s16 => gb_b1 (f_X10_layerOf [gR 36 0, gI v1, gI v2, gI 1] s16) (fun x19 s18 => gb_b1 (f_X10_layerOf [gR 36 0, gI v1, gI v2, gI 2] s18) (fun x21 s20 => gb_b0 (f_X10_lies [gR 36 0, gI v4, gI x17, gI x19, gI x21] s20) (fun s22 => gb_b0 (r [gR 36 0, gI v1, gI (v2 + 1), gI v3] s22) (fun s23 => gb_b0 (f_X10_takesUp [gR 36 0, gI v2] s23) (fun s24 => j_X10_emptiesFrom_60 r v1 v2 v3 (v4 + 1) s24)))))))
      else
        j_X10_emptiesFrom_60 r v1 v2 v3 (v4 + 1) s14)))) := (gb_fx_eq (L_X10_emptiesFrom r) 60 _ _ _).trans rfl
set_option maxRecDepth 20000 in
theorem e_X10_emptiesFrom (n : Nat) (a1 : Int32) (a2 : Int32) (a3 : Int32) (σ : gb_M) : g_X10_emptiesFrom (n + 1) [gR 36 0, gI a1, gI a2, gI a3] σ =
  gb_b1 (f_X10_many [gR 36 0, gI a1] σ) (fun x2 s1 => if a2 = x2 then
    gb_b1 (f_X10_mixedOfOthers [gR 36 0, gI a1] s1) (fun x4 s3 => if s3.1 36 0 32 = 0 then
      gb_b0 (f_X10_findsRow [gR 36 0, gI a2] (gb_si (gb_si s3 36 0 32 1) 36 0 33 (x4 - a3))) (fun s5 => some (none, s5))
    else
      if x4 - a3 < s3.1 36 0 33 then
        gb_b0 (f_X10_findsRow [gR 36 0, gI a2] (gb_si (gb_si s3 36 0 32 1) 36 0 33 (x4 - a3))) (fun s6 => some (none, s6))
      else
        some (none, s3))
  else
    gb_b0 (f_X10_laysDown [gR 36 0, gI a2] s1) (fun s7 => j_X10_emptiesFrom_60 (g_X10_emptiesFrom n) a1 a2 a3 0 s7)) := rfl
noncomputable def j_X10_empties_58 (v1 : Int32) (v2 : Int32) (σ : gb_M) : gb_R := K_X10_empties 58 [(0, gR 36 0), (1, gI v1), (2, gI v2)] [] σ
set_option maxRecDepth 20000 in
theorem e_X10_empties_58 (v1 : Int32) (v2 : Int32) (σ : gb_M) : j_X10_empties_58 v1 v2 σ =
  gb_b1 (f_X10_many [gR 36 0, gI v1] σ) (fun x9 s8 => if x9 ≤ v2 then
    some (some (gI (s8.1 36 0 33)), s8)
  else
    gb_gd (gb_in v2 6) (gb_b0 (f_X10_tell [gR 36 0, gL ((s8.1 50 0 v2.toNatClampNeg).toInt64)] s8) (fun s10 => j_X10_empties_58 v1 (v2 + 1) s10))) := (gb_fx_eq (L_X10_empties) 58 _ _ _).trans rfl
set_option maxRecDepth 20000 in
theorem e_X10_empties (a1 : Int32) (σ : gb_M) : f_X10_empties [gR 36 0, gI a1] σ =
  gb_b1 (f_X10_isBin [gI a1] (gb_si σ 36 0 10 0)) (fun x2 s1 => if x2 = 0 then
    some (some (gI (-1)), s1)
  else
    gb_b1 (f_X10_isClosed [gR 36 0, gI a1] s1) (fun x4 s3 => if x4 = 0 then
      gb_b1 (f_X10_mixedOfOthers [gR 36 0, gI a1] (gb_si s3 36 0 32 0)) (fun x6 s5 => gb_b0 (f_X10_emptiesFrom [gR 36 0, gI a1, gI 0, gI x6] s5) (fun s7 => if s7.1 36 0 32 = 0 then some (some (gI (-3)), s7) else j_X10_empties_58 a1 0 (gb_si s7 36 0 9 0)))
    else
      some (some (gI (-2)), s3))) := (gb_hide_at _ _ _).trans rfl
noncomputable def j_X10_then_23 (v1 : Int32) (v2 : Int32) (v3 : Int32) (σ : gb_M) : gb_R := K_X10_then 23 [(0, gR 36 0), (1, gI v1), (2, gI v2), (3, gI v3)] [] σ
noncomputable def j_X10_then_32 (v1 : Int32) (v2 : Int32) (v3 : Int32) (v4 : Int32) (σ : gb_M) : gb_R := K_X10_then 32 [(0, gR 36 0), (1, gI v1), (2, gI v2), (3, gI v3), (4, gI v4)] [] σ
set_option maxRecDepth 20000 in
theorem e_X10_then_23 (v1 : Int32) (v2 : Int32) (v3 : Int32) (σ : gb_M) : j_X10_then_23 v1 v2 v3 σ =
  if 6 ≤ v3 then
    gb_b1 (f_X10_allNow [gR 36 0] (gb_si σ 36 0 9 0)) (fun x4 s3 => gb_gd (gb_in 174 176) (gb_b1 (f_X10_allOn [gR 36 0, gI ((s3.1 37 0 (174 : Int32).toNatClampNeg) + v1)] s3) (fun x6 s5 => gb_b0 (f_X10_tell [gR 36 0, gL ((x4 - x6).toInt64)] s5) (fun s7 => gb_b0 (f_X10_tell [gR 36 0, gL v2.toInt64] s7) (fun s8 => gb_gd (gb_in 174 176) (gb_b1 (f_X10_allOn [gR 36 0, gI ((s8.1 37 0 (174 : Int32).toNatClampNeg) + v1)] s8) (fun x10 s9 => some (some (gI x10), s9))))))))
  else
    j_X10_then_32 v1 v2 v3 0 σ := (gb_fx_eq (L_X10_then) 23 _ _ _).trans rfl
set_option maxRecDepth 20000 in
theorem e_X10_then_32 (v1 : Int32) (v2 : Int32) (v3 : Int32) (v4 : Int32) (σ : gb_M) : j_X10_then_32 v1 v2 v3 v4 σ =
  gb_b1 (f_X10_many [gR 36 0, gI v3] σ) (fun x12 s11 => if x12 ≤ v4 then
    j_X10_then_23 v1 v2 (v3 + 1) s11
  else
    gb_gd (gb_in 174 176) (gb_b1 (f_X10_unitOn [gR 36 0, gI ((s11.1 37 0 (174 : Int32).toNatClampNeg) + v1), gI v3, gI v4] s11) (fun x14 s13 => gb_b1 (f_X10_layerOf [gR 36 0, gI v3, gI v4, gI 0] s13) (fun x16 s15 => gb_gd (gb_in (0 + x16) 176) (if s15.1 37 0 (0 + x16).toNatClampNeg ≤ x14 then
      j_X10_then_32 v1 v2 v3 (v4 + 1) s15
    else
      gb_b1 (f_X10_layerOf [gR 36 0, gI v3, gI v4, gI 0] s15) (fun x18 s17 => j_X10_then_32 v1 (v2 ||| (1 <<< (x18 &&& 31))) v3 (v4 + 1) s17)))))) := (gb_fx_eq (L_X10_then) 32 _ _ _).trans rfl
set_option maxRecDepth 20000 in
theorem e_X10_then (a1 : Int32) (σ : gb_M) : f_X10_then [gR 36 0, gI a1] σ =
  gb_b1 (f_X10_in [gL a1.toInt64, gL 0, gL 999] (gb_si σ 36 0 10 0)) (fun x2 s1 => if x2 = 0 then some (some (gI (-1)), s1) else j_X10_then_23 a1 0 0 s1) := (gb_hide_at _ _ _).trans rfl
noncomputable def j_X10_falls_16 (v1 : Int32) (v2 : Int32) (v3 : Int32) (σ : gb_M) : gb_R := K_X10_falls 16 [(0, gR 36 0), (1, gI v1), (2, gI v2), (3, gI v3)] [] σ
set_option maxRecDepth 20000 in
theorem e_X10_falls_16 (v1 : Int32) (v2 : Int32) (v3 : Int32) (σ : gb_M) : j_X10_falls_16 v1 v2 v3 σ =
  if 1000 ≤ v3 then
    some (some (gI (-2)), σ)
  else
    gb_gd (gb_in 174 176) (gb_b1 (f_X10_valueOn [gR 36 0, gI ((σ.1 37 0 (174 : Int32).toNatClampNeg) + v3), gI v1] σ) (fun x4 s3 => if v2 ≤ x4 then j_X10_falls_16 v1 v2 (v3 + 1) s3 else some (some (gI v3), s3))) := (gb_fx_eq (L_X10_falls) 16 _ _ _).trans rfl
set_option maxRecDepth 20000 in
theorem e_X10_falls (a1 : Int32) (a2 : Int32) (σ : gb_M) : f_X10_falls [gR 36 0, gI a1, gI a2] σ =
  gb_b1 (f_X10_isBin [gI a1] (gb_si σ 36 0 10 0)) (fun x2 s1 => if x2 = 0 then some (some (gI (-1)), s1) else j_X10_falls_16 a1 a2 0 s1) := (gb_hide_at _ _ _).trans rfl
noncomputable def j_X10_old_16 (v1 : Int32) (v2 : Int32) (v3 : Int32) (σ : gb_M) : gb_R := K_X10_old 16 [(0, gR 36 0), (1, gI v1), (2, gI v2), (3, gI v3)] [] σ
noncomputable def j_X10_old_28 (v1 : Int32) (v2 : Int32) (v3 : Int32) (v4 : Int32) (v5 : Int32) (σ : gb_M) : gb_R := K_X10_old 28 [(0, gR 36 0), (1, gI v1), (2, gI v2), (3, gI v3), (4, gI v4), (5, gI v5)] [] σ
set_option maxRecDepth 20000 in
theorem e_X10_old_16 (v1 : Int32) (v2 : Int32) (v3 : Int32) (σ : gb_M) : j_X10_old_16 v1 v2 v3 σ =
  if 6 ≤ v3 then gb_b0 (f_X10_tell [gR 36 0, gL v2.toInt64] σ) (fun s1 => some (some (gI v1), s1)) else j_X10_old_28 v1 v2 v3 0 0 σ := (gb_fx_eq (L_X10_old) 16 _ _ _).trans rfl
set_option maxRecDepth 20000 in
theorem e_X10_old_28 (v1 : Int32) (v2 : Int32) (v3 : Int32) (v4 : Int32) (v5 : Int32) (σ : gb_M) : j_X10_old_28 v1 v2 v3 v4 v5 σ =
  gb_b1 (f_X10_many [gR 36 0, gI v3] σ) (fun x3 s2 => if x3 ≤ v5 then
    gb_b0 (f_X10_tell [gR 36 0, gL v4.toInt64] s2) (fun s4 => if v4 ≤ 0 then j_X10_old_16 (v1 + v4) (v2 ||| 0) (v3 + 1) s4 else j_X10_old_16 (v1 + v4) (v2 ||| (1 <<< (v3 &&& 31))) (v3 + 1) s4)
  else
    gb_b1 (f_X10_unit [gR 36 0, gI v3, gI v5] s2) (fun x6 s5 => gb_b1 (f_X10_layerOf [gR 36 0, gI v3, gI v5, gI 0] s5) (fun x8 s7 => gb_gd (gb_in (0 + x8) 176) (if s7.1 37 0 (0 + x8).toNatClampNeg ≤ x6 then
      j_X10_old_28 v1 v2 v3 (v4 + 0) (v5 + 1) s7
    else
      gb_b1 (f_X10_layerOf [gR 36 0, gI v3, gI v5, gI 1] s7) (fun x10 s9 => j_X10_old_28 v1 v2 v3 (v4 + x10) (v5 + 1) s9))))) := (gb_fx_eq (L_X10_old) 28 _ _ _).trans rfl
set_option maxRecDepth 20000 in
theorem e_X10_old  (σ : gb_M) : f_X10_old [gR 36 0] σ =
  j_X10_old_16 0 0 0 (gb_si (gb_si σ 36 0 10 0) 36 0 9 0) := (gb_hide_at _ _ _).trans rfl
noncomputable def j_X10_cures_56 (v1 : Int32) (v2 : Int32) (v3 : Int32) (v4 : Int32) (v5 : Int32) (v6 : Int32) (σ : gb_M) : gb_R := K_X10_cures 56 [(0, gR 36 0), (1, gI v1), (2, gI v2), (3, gI v3), (4, gI v4), (5, gI v5), (6, gI v6)] [] σ
set_option maxRecDepth 20000 in
theorem e_X10_cures_56 (v1 : Int32) (v2 : Int32) (v3 : Int32) (v4 : Int32) (v5 : Int32) (v6 : Int32) (σ : gb_M) : j_X10_cures_56 v1 v2 v3 v4 v5 v6 σ =
  if 6 ≤ v6 then
    if v4 = (-2) then
      some (some (gI (-2)), σ)
    else
      gb_b0 (f_X10_tell [gR 36 0, gL v5.toInt64] (gb_si σ 36 0 9 0)) (fun s7 => some (some (gI v4), s7))
  else
    gb_b1 (f_X10_isClosed [gR 36 0, gI v6] σ) (fun x9 s8 => if x9 = 0 then
      gb_b1 (f_X10_many [gR 36 0, gI v6] s8) (fun x11 s10 => if x11 = 0 then
        j_X10_cures_56 v1 v2 v3 v4 v5 (v6 + 1) s10
      else
        gb_b0 (f_X10_laysDown [gR 36 0, gI 0] s10) (fun s12 => gb_b0 (f_X10_fumigates [gR 36 0, gI v6, gI v1] s12) (fun s13 => gb_gd (gb_in 174 176) (gb_b1 (f_X10_allOn [gR 36 0, gI ((s13.1 37 0 (174 : Int32).toNatClampNeg) + v2)] s13) (fun x15 s14 => gb_b0 (f_X10_takesUp [gR 36 0, gI 0] s14) (fun s16 => if v5 < x15 - v3 then j_X10_cures_56 v1 v2 v3 v6 (x15 - v3) (v6 + 1) s16 else j_X10_cures_56 v1 v2 v3 v4 v5 (v6 + 1) s16))))))
    else
      j_X10_cures_56 v1 v2 v3 v4 v5 (v6 + 1) s8) := (gb_fx_eq (L_X10_cures) 56 _ _ _).trans rfl
set_option maxRecDepth 20000 in
theorem e_X10_cures (a1 : Int32) (a2 : Int32) (σ : gb_M) : f_X10_cures [gR 36 0, gI a1, gI a2] σ =
  gb_b1 (f_X10_in [gL a1.toInt64, gL 1, gL 20] (gb_si σ 36 0 10 0)) (fun x2 s1 => if x2 = 0 then
    some (some (gI (-1)), s1)
  else
    gb_b1 (f_X10_in [gL a2.toInt64, gL 0, gL 999] s1) (fun x4 s3 => if x4 = 0 then
      some (some (gI (-1)), s3)
    else
      gb_gd (gb_in 174 176) (gb_b1 (f_X10_allOn [gR 36 0, gI ((s3.1 37 0 (174 : Int32).toNatClampNeg) + a2)] s3) (fun x6 s5 => j_X10_cures_56 a1 a2 x6 (-2) 0 0 s5)))) := (gb_hide_at _ _ _).trans rfl
noncomputable def j_X10_undo_27 (v1 : Int32) (σ : gb_M) : gb_R := K_X10_undo 27 [(0, gR 36 0), (1, gI v1)] [] σ
set_option maxRecDepth 20000 in
theorem e_X10_undo_27 (v1 : Int32) (σ : gb_M) : j_X10_undo_27 v1 σ =
  if 176 ≤ v1 then
    some (some (gI (σ.1 36 0 5)), σ)
  else
    gb_gd (gb_in ((176 * (σ.1 36 0 5)) + v1) 1408) (gb_gd (gb_in v1 176) (j_X10_undo_27 (v1 + 1) (gb_si σ 37 0 v1.toNatClampNeg (σ.1 40 0 ((176 * (σ.1 36 0 5)) + v1).toNatClampNeg)))) := (gb_fx_eq (L_X10_undo) 27 _ _ _).trans rfl
set_option maxRecDepth 20000 in
theorem e_X10_undo  (σ : gb_M) : f_X10_undo [gR 36 0] σ =
  if (gb_si σ 36 0 10 0).1 36 0 5 = 0 then
    some (some (gI (-2)), gb_si σ 36 0 10 0)
  else
    j_X10_undo_27 0 (gb_si (gb_si σ 36 0 10 0) 36 0 5 (((gb_si σ 36 0 10 0).1 36 0 5) - 1)) := (gb_hide_at _ _ _).trans rfl
noncomputable def j_X10_keeps_7 (v1 : Int32) (σ : gb_M) : gb_R := K_X10_keeps 7 [(0, gR 36 0), (1, gI v1)] [] σ
set_option maxRecDepth 20000 in
theorem e_X10_keeps_7 (v1 : Int32) (σ : gb_M) : j_X10_keeps_7 v1 σ =
  if 176 ≤ v1 then
    gb_gd (gb_in 174 176) (some (some (gI ((gb_si σ 36 0 3 1).1 37 0 (174 : Int32).toNatClampNeg)), gb_si σ 36 0 3 1))
  else
    gb_gd (gb_in v1 176) (gb_gd (gb_in v1 176) (j_X10_keeps_7 (v1 + 1) (gb_si σ 39 0 v1.toNatClampNeg (σ.1 37 0 v1.toNatClampNeg)))) := (gb_fx_eq (L_X10_keeps) 7 _ _ _).trans rfl
set_option maxRecDepth 20000 in
theorem e_X10_keeps  (σ : gb_M) : f_X10_keeps [gR 36 0] σ =
  j_X10_keeps_7 0 (gb_si σ 36 0 10 0) := (gb_hide_at _ _ _).trans rfl
noncomputable def j_X10_back_21 (v1 : Int32) (σ : gb_M) : gb_R := K_X10_back 21 [(0, gR 36 0), (1, gI v1)] [] σ
set_option maxRecDepth 20000 in
theorem e_X10_back_21 (v1 : Int32) (σ : gb_M) : j_X10_back_21 v1 σ =
  if 176 ≤ v1 then
    gb_gd (gb_in 174 176) (some (some (gI (σ.1 37 0 (174 : Int32).toNatClampNeg)), σ))
  else
    gb_gd (gb_in v1 176) (gb_gd (gb_in v1 176) (j_X10_back_21 (v1 + 1) (gb_si σ 37 0 v1.toNatClampNeg (σ.1 39 0 v1.toNatClampNeg)))) := (gb_fx_eq (L_X10_back) 21 _ _ _).trans rfl
set_option maxRecDepth 20000 in
theorem e_X10_back  (σ : gb_M) : f_X10_back [gR 36 0] σ =
  if (gb_si σ 36 0 10 0).1 36 0 3 = 0 then some (some (gI (-2)), gb_si σ 36 0 10 0) else gb_b0 (f_X10_does [gR 36 0] (gb_si σ 36 0 10 0)) (fun s1 => j_X10_back_21 0 s1) := (gb_hide_at _ _ _).trans rfl
set_option maxRecDepth 20000 in
theorem e_X10_writesSign (a1 : Int32) (σ : gb_M) : f_X10_writesSign [gR 36 0, gI a1] σ =
  gb_gd (gb_in (σ.1 36 0 37) 256) (some (none, gb_si (gb_si σ 53 0 (σ.1 36 0 37).toNatClampNeg a1.toInt8.toInt32.toInt8.toInt32) 36 0 37 (((gb_si σ 53 0 (σ.1 36 0 37).toNatClampNeg a1.toInt8.toInt32.toInt8.toInt32).1 36 0 37) + 1))) := (gb_hide_at _ _ _).trans rfl
set_option maxRecDepth 20000 in
theorem e_X10_writesNumber (a1 : Int32) (σ : gb_M) : f_X10_writesNumber [gR 36 0, gI a1] σ =
  if a1 ≤ 9 then
    gb_b0 (f_X10_writesSign [gR 36 0, gI (48 + (a1 - a1 / 10 * 10))] σ) (fun s1 => some (none, s1))
  else
    gb_b0 (f_X10_writesSign [gR 36 0, gI (48 + (a1 / 10))] σ) (fun s2 => gb_b0 (f_X10_writesSign [gR 36 0, gI (48 + (a1 - a1 / 10 * 10))] s2) (fun s3 => some (none, s3))) := (gb_hide_at _ _ _).trans rfl
noncomputable def j_X10_written_12 (v1 : Int32) (v2 : Int32) (σ : gb_M) : gb_R := K_X10_written 12 [(0, gR 36 0), (1, gI v1), (2, gI v2)] [] σ
noncomputable def j_X10_written_49 (v1 : Int32) (v2 : Int32) (v3 : Int32) (σ : gb_M) : gb_R := K_X10_written 49 [(0, gR 36 0), (1, gI v1), (2, gI v2), (3, gI v3)] [] σ
set_option maxRecDepth 20000 in
theorem e_X10_written_12 (v1 : Int32) (v2 : Int32) (σ : gb_M) : j_X10_written_12 v1 v2 σ =
  if 6 ≤ v2 then
    if v1 = (-1) then
      some (some (gI (σ.1 36 0 37)), σ)
    else
      gb_b1 (f_X10_in [gL v1.toInt64, gL 0, gL (((σ.1 36 0 37) - 1).toInt64)] σ) (fun x2 s1 => if x2 = 0 then some (some (gI (-1)), s1) else gb_gd (gb_in v1 256) (some (some (gI (s1.1 53 0 v1.toNatClampNeg)), s1)))
  else
    gb_b1 (f_X10_many [gR 36 0, gI v2] σ) (fun x4 s3 => if x4 = 0 then
      j_X10_written_12 v1 (v2 + 1) s3
    else
      if s3.1 36 0 37 ≤ 0 then
        gb_b0 (f_X10_writesNumber [gR 36 0, gI v2] s3) (fun s5 => j_X10_written_49 v1 v2 0 s5)
      else
        gb_b0 (f_X10_writesSign [gR 36 0, gI 59] s3) (fun s6 => gb_b0 (f_X10_writesNumber [gR 36 0, gI v2] s6) (fun s7 => j_X10_written_49 v1 v2 0 s7))) := (gb_fx_eq (L_X10_written) 12 _ _ _).trans rfl
set_option maxRecDepth 20000 in
theorem e_X10_written_49 (v1 : Int32) (v2 : Int32) (v3 : Int32) (σ : gb_M) : j_X10_written_49 v1 v2 v3 σ =
  gb_b1 (f_X10_many [gR 36 0, gI v2] σ) (fun x9 s8 => if x9 ≤ v3 then
    j_X10_written_12 v1 (v2 + 1) s8
  else
    if v3 = 0 then
      gb_b0 (f_X10_writesSign [gR 36 0, gI 58] s8) (fun s10 => gb_b1 (f_X10_layerOf [gR 36 0, gI v2, gI v3, gI 0] s10) (fun x12 s11 => gb_b0 (f_X10_writesNumber [gR 36 0, gI x12] s11) (fun s13 => gb_b0 (f_X10_writesSign [gR 36 0, gI 120] s13) (fun s14 => gb_b1 (f_X10_layerOf [gR 36 0, gI v2, gI v3, gI 1] s14) (fun x16 s15 => gb_b0 (f_X10_writesNumber [gR 36 0, gI x16] s15) (fun s17 => j_X10_written_49 v1 v2 (v3 + 1) s17))))))
    else
      gb_b0 (f_X10_writesSign [gR 36 0, gI 44] s8) (fun s18 => gb_b1 (f_X10_layerOf [gR 36 0, gI v2, gI v3, gI 0] s18) (fun x20 s19 => gb_b0 (f_X10_writesNumber [gR 36 0, gI x20] s19) (fun s21 => gb_b0 (f_X10_writesSign [gR 36 0, gI 120] s21) (fun s22 => gb_b1 (f_X10_layerOf [gR 36 0, gI v2, gI v3, gI 1] s22) (fun x24 s23 => gb_b0 (f_X10_writesNumber [gR 36 0, gI x24] s23) (fun s25 => j_X10_written_49 v1 v2 (v3 + 1) s25))))))) := (gb_fx_eq (L_X10_written) 49 _ _ _).trans rfl
set_option maxRecDepth 20000 in
theorem e_X10_written (a1 : Int32) (σ : gb_M) : f_X10_written [gR 36 0, gI a1] σ =
  j_X10_written_12 a1 0 (gb_si (gb_si σ 36 0 10 0) 36 0 37 0) := (gb_hide_at _ _ _).trans rfl
