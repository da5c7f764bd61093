/-! DEC: the blocks as equations, printed by wip/whole/dec.py -/
noncomputable def j_X10_fumigates_41 (v1 : Int32) (v3 : Int32) (v4 : Int32) (v5 : Int32) (σ : gb_M) : gb_R := K_X10_fumigates 41 [(0, gR 36 0), (1, gI v1), (3, gI v3), (4, gI v4), (5, gI v5)] [] σ
set_option maxRecDepth 20000 in
theorem e_X10_fumigates_41 (v1 : Int32) (v3 : Int32) (v4 : Int32) (v5 : Int32) (σ : gb_M) : j_X10_fumigates_41 v1 v3 v4 v5 σ =
  if v4 ≤ v5 then
    some (none, σ)
  else
    gb_b1 (f_X10_layerOf [gR 36 0, gI v1, gI v5, gI 0] σ) (fun x4 s3 => gb_b1 (f_X10_layerOf [gR 36 0, gI v1, gI v5, gI 1] s3) (fun x6 s5 => gb_b0 (f_X10_lies [gR 36 0, gI v1, gI x4, gI x6, gI v3] s5) (fun s7 => j_X10_fumigates_41 v1 v3 v4 (v5 + 1) s7))) := (gb_fx_eq (L_X10_fumigates) 41 _ _ _).trans rfl
set_option maxRecDepth 20000 in
theorem e_X10_fumigates (a1 : Int32) (a2 : Int32) (σ : gb_M) : f_X10_fumigates [gR 36 0, gI a1, gI a2] σ =
  gb_gd (gb_in 174 176) (gb_gd (gb_in (54 + a1) 176) (gb_b1 (f_X10_many [gR 36 0, gI a1] (gb_si σ 37 0 (54 + a1).toNatClampNeg ((σ.1 37 0 (174 : Int32).toNatClampNeg) + a2))) (fun x2 s1 => gb_gd (gb_in (60 + a1) 176) (j_X10_fumigates_41 a1 ((σ.1 37 0 (174 : Int32).toNatClampNeg) + a2) x2 0 (gb_si s1 37 0 (60 + a1).toNatClampNeg 0))))) := (gb_hide_at _ _ _).trans rfl
set_option maxRecDepth 20000 in
theorem e_X10_fumes (a1 : Int32) (a2 : Int32) (σ : gb_M) : f_X10_fumes [gR 36 0, gI a1, gI a2] σ =
  gb_b1 (f_X10_isBin [gI a1] (gb_si σ 36 0 10 0)) (fun x2 s1 => if x2 = 0 then
    some (some (gI (-1)), s1)
  else
    gb_b1 (f_X10_in [gL a2.toInt64, gL 1, gL 20] s1) (fun x4 s3 => if x4 = 0 then
      some (some (gI (-1)), s3)
    else
      gb_b1 (f_X10_isClosed [gR 36 0, gI a1] s3) (fun x6 s5 => if x6 = 0 then
        gb_b0 (f_X10_does [gR 36 0] s5) (fun s7 => gb_b0 (f_X10_fumigates [gR 36 0, gI a1, gI a2] s7) (fun s8 => gb_gd (gb_in (54 + a1) 176) (some (some (gI (s8.1 37 0 (54 + a1).toNatClampNeg)), s8))))
      else
        some (some (gI (-2)), s5)))) := (gb_hide_at _ _ _).trans rfl
set_option maxRecDepth 20000 in
theorem e_X10_days (a1 : Int32) (σ : gb_M) : f_X10_days [gR 36 0, gI a1] σ =
  gb_b1 (f_X10_in [gL a1.toInt64, gL 1, gL 99] (gb_si σ 36 0 10 0)) (fun x2 s1 => if x2 = 0 then
    some (some (gI (-1)), s1)
  else
    gb_gd (gb_in 174 176) (if (s1.1 37 0 (174 : Int32).toNatClampNeg) + a1 ≤ 9999 then
      gb_b0 (f_X10_does [gR 36 0] s1) (fun s3 => gb_gd (gb_in 174 176) (gb_gd (gb_in 174 176) (gb_gd (gb_in 174 176) (some (some (gI ((gb_si s3 37 0 (174 : Int32).toNatClampNeg ((s3.1 37 0 (174 : Int32).toNatClampNeg) + a1)).1 37 0 (174 : Int32).toNatClampNeg)), gb_si s3 37 0 (174 : Int32).toNatClampNeg ((s3.1 37 0 (174 : Int32).toNatClampNeg) + a1))))))
    else
      some (some (gI (-1)), s1))) := (gb_hide_at _ _ _).trans rfl
set_option maxRecDepth 20000 in
theorem e_X10_price (a1 : Int32) (a2 : Int32) (σ : gb_M) : f_X10_price [gR 36 0, gI a1, gI a2] σ =
  gb_b1 (f_X10_isGrade [gI a1] (gb_si σ 36 0 10 0)) (fun x2 s1 => if x2 = 0 then
    some (some (gI (-1)), s1)
  else
    gb_b1 (f_X10_in [gL a2.toInt64, gL 0, gL 999] s1) (fun x4 s3 => if x4 = 0 then
      some (some (gI (-1)), s3)
    else
      gb_b0 (f_X10_does [gR 36 0] s3) (fun s5 => gb_gd (gb_in (0 + a1) 176) (gb_gd (gb_in (0 + a1) 176) (some (some (gI (s5.1 37 0 (0 + a1).toNatClampNeg)), gb_si s5 37 0 (0 + a1).toNatClampNeg a2)))))) := (gb_hide_at _ _ _).trans rfl
noncomputable def j_X10_readsList_22 (v1 : Int32) (σ : gb_M) : gb_R := K_X10_readsList 22 [(0, gR 36 0), (1, gI v1)] [] σ
set_option maxRecDepth 20000 in
theorem e_X10_readsList_22 (v1 : Int32) (σ : gb_M) : j_X10_readsList_22 v1 σ =
  if v1 = 0 then
    if σ.1 36 0 18 = (-1) then
      if σ.1 36 0 16 ≤ σ.1 36 0 17 then some (none, σ) else gb_b0 (f_X10_fault [gR 36 0, gI (σ.1 36 0 17)] σ) (fun s2 => some (none, s2))
    else
      some (none, σ)
  else
    if σ.1 36 0 18 = (-1) then
      gb_b1 (f_X10_gradeSign [gR 36 0] σ) (fun x4 s3 => gb_gd (gb_in (σ.1 36 0 25) 6) (gb_b0 (f_X10_expect [gR 36 0, gI 58] (gb_si s3 47 0 (σ.1 36 0 25).toNatClampNeg x4)) (fun s5 => gb_b1 (f_X10_number [gR 36 0, gI 1, gI 99, gI 2] s5) (fun x7 s6 => gb_gd (gb_in (s5.1 36 0 25) 6) (if (gb_si (gb_si s6 48 0 (s5.1 36 0 25).toNatClampNeg x7) 36 0 25 (((gb_si s6 48 0 (s5.1 36 0 25).toNatClampNeg x7).1 36 0 25) + 1)).1 36 0 18 = (-1) then
        gb_b1 (f_X10_sees [gR 36 0] (gb_si (gb_si s6 48 0 (s5.1 36 0 25).toNatClampNeg x7) 36 0 25 (((gb_si s6 48 0 (s5.1 36 0 25).toNatClampNeg x7).1 36 0 25) + 1))) (fun x9 s8 => if x9 = 44 then
          if 6 ≤ s8.1 36 0 25 then
            if 0 = 0 then j_X10_readsList_22 0 s8 else j_X10_readsList_22 0 (gb_si s8 36 0 17 ((s8.1 36 0 17) + 1))
          else
            if 1 = 0 then j_X10_readsList_22 1 s8 else j_X10_readsList_22 1 (gb_si s8 36 0 17 ((s8.1 36 0 17) + 1))
        else
          if 0 = 0 then j_X10_readsList_22 0 s8 else j_X10_readsList_22 0 (gb_si s8 36 0 17 ((s8.1 36 0 17) + 1)))
      else
        if 0 = 0 then
          j_X10_readsList_22 0 (gb_si (gb_si s6 48 0 (s5.1 36 0 25).toNatClampNeg x7) 36 0 25 (((gb_si s6 48 0 (s5.1 36 0 25).toNatClampNeg x7).1 36 0 25) + 1))
        else
          j_X10_readsList_22 0 (gb_si (gb_si (gb_si s6 48 0 (s5.1 36 0 25).toNatClampNeg x7) 36 0 25 (((gb_si s6 48 0 (s5.1 36 0 25).toNatClampNeg x7).1 36 0 25) + 1)) 36 0 17 (((gb_si (gb_si s6 48 0 (s5.1 36 0 25).toNatClampNeg x7) 36 0 25 (((gb_si s6 48 0 (s5.1 36 0 25).toNatClampNeg x7).1 36 0 25) + 1)).1 36 0 17) + 1)))))))
    else
      if σ.1 36 0 18 = (-1) then
        if σ.1 36 0 16 ≤ σ.1 36 0 17 then some (none, σ) else gb_b0 (f_X10_fault [gR 36 0, gI (σ.1 36 0 17)] σ) (fun s10 => some (none, s10))
      else
        some (none, σ) := (gb_fx_eq (L_X10_readsList) 22 _ _ _).trans rfl
set_option maxRecDepth 20000 in
theorem e_X10_readsList  (σ : gb_M) : f_X10_readsList [gR 36 0] σ =
  gb_b0 (f_X10_begin [gR 36 0] σ) (fun s1 => if (gb_si s1 36 0 25 0).1 36 0 16 ≤ 0 then j_X10_readsList_22 0 (gb_si s1 36 0 25 0) else j_X10_readsList_22 1 (gb_si s1 36 0 25 0)) := (gb_hide_at _ _ _).trans rfl
noncomputable def j_X10_lowest_5 (v1 : Int32) (v2 : Int32) (v3 : Int32) (v4 : Int32) (σ : gb_M) : gb_R := K_X10_lowest 5 [(0, gR 36 0), (1, gI v1), (2, gI v2), (3, gI v3), (4, gI v4)] [] σ
set_option maxRecDepth 20000 in
theorem e_X10_lowest_5 (v1 : Int32) (v2 : Int32) (v3 : Int32) (v4 : Int32) (σ : gb_M) : j_X10_lowest_5 v1 v2 v3 v4 σ =
  gb_b1 (f_X10_many [gR 36 0, gI v1] σ) (fun x2 s1 => if x2 ≤ v4 then
    some (some (gI v3), s1)
  else
    gb_b1 (f_X10_layerOf [gR 36 0, gI v1, gI v4, gI 0] s1) (fun x4 s3 => if x4 = v2 then
      gb_b1 (f_X10_layerOf [gR 36 0, gI v1, gI v4, gI 1] s3) (fun x6 s5 => j_X10_lowest_5 v1 v2 (v3 + x6) (v4 + 1) s5)
    else
      some (some (gI v3), s3))) := (gb_fx_eq (L_X10_lowest) 5 _ _ _).trans rfl
set_option maxRecDepth 20000 in
theorem e_X10_lowest (a1 : Int32) (a2 : Int32) (σ : gb_M) : f_X10_lowest [gR 36 0, gI a1, gI a2] σ =
  j_X10_lowest_5 a1 a2 0 0 σ := (gb_hide_at _ _ _).trans rfl
noncomputable def j_X10_laysDown_2 (v1 : Int32) (v2 : Int32) (σ : gb_M) : gb_R := K_X10_laysDown 2 [(0, gR 36 0), (1, gI v1), (2, gI v2)] [] σ
set_option maxRecDepth 20000 in
theorem e_X10_laysDown_2 (v1 : Int32) (v2 : Int32) (σ : gb_M) : j_X10_laysDown_2 v1 v2 σ =
  if 176 ≤ v2 then
    some (none, σ)
  else
    gb_gd (gb_in v2 176) (gb_gd (gb_in ((176 * v1) + v2) 1232) (j_X10_laysDown_2 v1 (v2 + 1) (gb_si σ 51 0 ((176 * v1) + v2).toNatClampNeg (σ.1 37 0 v2.toNatClampNeg)))) := (gb_fx_eq (L_X10_laysDown) 2 _ _ _).trans rfl
set_option maxRecDepth 20000 in
theorem e_X10_laysDown (a1 : Int32) (σ : gb_M) : f_X10_laysDown [gR 36 0, gI a1] σ =
  j_X10_laysDown_2 a1 0 σ := (gb_hide_at _ _ _).trans rfl
noncomputable def j_X10_takesUp_2 (v1 : Int32) (v2 : Int32) (σ : gb_M) : gb_R := K_X10_takesUp 2 [(0, gR 36 0), (1, gI v1), (2, gI v2)] [] σ
set_option maxRecDepth 20000 in
theorem e_X10_takesUp_2 (v1 : Int32) (v2 : Int32) (σ : gb_M) : j_X10_takesUp_2 v1 v2 σ =
  if 176 ≤ v2 then
    some (none, σ)
  else
    gb_gd (gb_in ((176 * v1) + v2) 1232) (gb_gd (gb_in v2 176) (j_X10_takesUp_2 v1 (v2 + 1) (gb_si σ 37 0 v2.toNatClampNeg (σ.1 51 0 ((176 * v1) + v2).toNatClampNeg)))) := (gb_fx_eq (L_X10_takesUp) 2 _ _ _).trans rfl
set_option maxRecDepth 20000 in
theorem e_X10_takesUp (a1 : Int32) (σ : gb_M) : f_X10_takesUp [gR 36 0, gI a1] σ =
  j_X10_takesUp_2 a1 0 σ := (gb_hide_at _ _ _).trans rfl
noncomputable def j_X10_findsRow_2 (v1 : Int32) (v2 : Int32) (σ : gb_M) : gb_R := K_X10_findsRow 2 [(0, gR 36 0), (1, gI v1), (2, gI v2)] [] σ
set_option maxRecDepth 20000 in
theorem e_X10_findsRow_2 (v1 : Int32) (v2 : Int32) (σ : gb_M) : j_X10_findsRow_2 v1 v2 σ =
  if v1 ≤ v2 then
    some (none, σ)
  else
    gb_gd (gb_in v2 6) (gb_gd (gb_in v2 6) (j_X10_findsRow_2 v1 (v2 + 1) (gb_si σ 50 0 v2.toNatClampNeg (σ.1 49 0 v2.toNatClampNeg)))) := (gb_fx_eq (L_X10_findsRow) 2 _ _ _).trans rfl
set_option maxRecDepth 20000 in
theorem e_X10_findsRow (a1 : Int32) (σ : gb_M) : f_X10_findsRow [gR 36 0, gI a1] σ =
  j_X10_findsRow_2 a1 0 σ := (gb_hide_at _ _ _).trans rfl
set_option maxRecDepth 20000 in
theorem e_X10_canServe (a1 : Int32) (a2 : Int32) (σ : gb_M) : f_X10_canServe [gR 36 0, gI a1, gI a2] σ =
  gb_b1 (f_X10_isClosed [gR 36 0, gI a1] σ) (fun x2 s1 => if x2 = 0 then
    gb_gd (gb_in a2 6) (gb_b1 (f_X10_lowest [gR 36 0, gI a1, gI (s1.1 47 0 a2.toNatClampNeg)] s1) (fun x4 s3 => gb_gd (gb_in a2 6) (if x4 < s3.1 48 0 a2.toNatClampNeg then some (some (gI 0), s3) else some (some (gI 1), s3))))
  else
    some (some (gI 0), s1)) := (gb_hide_at _ _ _).trans rfl
noncomputable def j_X10_servesFrom_34 (r : gb_F) (v1 : Int32) (v2 : Int32) (σ : gb_M) : gb_R := K_X10_servesFrom r 34 [(0, gR 36 0), (1, gI v1), (2, gI v2)] [] σ
set_option maxRecDepth 20000 in
theorem e_X10_servesFrom_34 (r : gb_F) (v1 : Int32) (v2 : Int32) (σ : gb_M) : j_X10_servesFrom_34 r v1 v2 σ =
  if 6 ≤ v2 then
    some (none, σ)
  else
    if σ.1 36 0 25 ≤ σ.1 36 0 29 then
      some (none, σ)
    else
      gb_b1 (f_X10_canServe [gR 36 0, gI v2, gI v1] σ) (fun x5 s4 => if x5 = 0 then
        j_X10_servesFrom_34 r v1 (v2 + 1) s4
      else
        gb_gd (gb_in v1 6) (gb_gd (gb_in v1 6) (gb_b0 (f_X10_goes [gR 36 0, gI v2, gI ((gb_si s4 49 0 v1.toNatClampNeg v2).1 48 0 v1.toNatClampNeg)] (gb_si s4 49 0 v1.toNatClampNeg v2)) (fun s6 => gb_b0 (r [gR 36 0, gI (v1 + 1)] s6) (fun s7 => gb_b0 (f_X10_takesUp [gR 36 0, gI v1] s7) (fun s8 => j_X10_servesFrom_34 r v1 (v2 + 1) s8)))))) := (gb_fx_eq (L_X10_servesFrom r) 34 _ _ _).trans rfl
set_option maxRecDepth 20000 in
theorem e_X10_servesFrom (n : Nat) (a1 : Int32) (σ : gb_M) : g_X10_servesFrom (n + 1) [gR 36 0, gI a1] σ =
  if a1 ≤ σ.1 36 0 29 then
    if a1 = σ.1 36 0 25 then some (none, σ) else gb_b0 (f_X10_laysDown [gR 36 0, gI a1] σ) (fun s1 => j_X10_servesFrom_34 (g_X10_servesFrom n) a1 0 s1)
  else
    gb_b0 (f_X10_findsRow [gR 36 0, gI a1] (gb_si σ 36 0 29 a1)) (fun s2 => if a1 = s2.1 36 0 25 then some (none, s2) else gb_b0 (f_X10_laysDown [gR 36 0, gI a1] s2) (fun s3 => j_X10_servesFrom_34 (g_X10_servesFrom n) a1 0 s3)) := rfl
set_option maxRecDepth 20000 in
theorem e_X10_findsServed  (σ : gb_M) : f_X10_findsServed [gR 36 0] σ =
  gb_b0 (f_X10_servesFrom [gR 36 0, gI 0] (gb_si σ 36 0 29 0)) (fun s1 => some (none, s1)) := (gb_hide_at _ _ _).trans rfl
noncomputable def j_X10_picksFrom_42 (r : gb_F) (v1 : Int32) (v2 : Int32) (v3 : Int32) (σ : gb_M) : gb_R := K_X10_picksFrom r 42 [(0, gR 36 0), (1, gI v1), (2, gI v2), (3, gI v3)] [] σ
set_option maxRecDepth 20000 in
theorem e_X10_picksFrom_42 (r : gb_F) (v1 : Int32) (v2 : Int32) (v3 : Int32) (σ : gb_M) : j_X10_picksFrom_42 r v1 v2 v3 σ =
  if 6 ≤ v3 then
    gb_gd (gb_in v1 6) (gb_b0 (r [gR 36 0, gI (v1 + 1), gI v2] (gb_si σ 49 0 v1.toNatClampNeg 6)) (fun s3 => some (none, s3)))
  else
    gb_b1 (f_X10_canServe [gR 36 0, gI v3, gI v1] σ) (fun x5 s4 => if x5 = 0 then
      j_X10_picksFrom_42 r v1 v2 (v3 + 1) s4
    else
      gb_gd (gb_in v1 6) (gb_gd (gb_in v1 6) (gb_b0 (f_X10_goes [gR 36 0, gI v3, gI ((gb_si s4 49 0 v1.toNatClampNeg v3).1 48 0 v1.toNatClampNeg)] (gb_si s4 49 0 v1.toNatClampNeg v3)) (fun s6 => gb_b0 (r [gR 36 0, gI (v1 + 1), gI (v2 + 1)] s6) (fun s7 => gb_b0 (f_X10_takesUp [gR 36 0, gI v1] s7) (fun s8 => j_X10_picksFrom_42 r v1 v2 (v3 + 1) s8)))))) := (gb_fx_eq (L_X10_picksFrom r) 42 _ _ _).trans rfl
set_option maxRecDepth 20000 in
theorem e_X10_picksFrom (n : Nat) (a1 : Int32) (a2 : Int32) (σ : gb_M) : g_X10_picksFrom (n + 1) [gR 36 0, gI a1, gI a2] σ =
  if σ.1 36 0 29 < (a2 + (σ.1 36 0 25)) - a1 then
    if a1 = σ.1 36 0 25 then
      gb_b0 (f_X10_findsRow [gR 36 0, gI a1] (gb_si σ 36 0 29 a2)) (fun s1 => some (none, s1))
    else
      gb_b0 (f_X10_laysDown [gR 36 0, gI a1] σ) (fun s2 => j_X10_picksFrom_42 (g_X10_picksFrom n) a1 a2 0 s2)
  else
    some (none, σ) := rfl
noncomputable def j_X10_sells_48 (v1 : Int32) (v2 : Int32) (v3 : Int32) (v4 : Int32) (σ : gb_M) : gb_R := K_X10_sells 48 [(0, gR 36 0), (1, gI v1), (2, gI v2), (3, gI v3), (4, gI v4)] [] σ
set_option maxRecDepth 20000 in
theorem e_X10_sells_48 (v1 : Int32) (v2 : Int32) (v3 : Int32) (v4 : Int32) (σ : gb_M) : j_X10_sells_48 v1 v2 v3 v4 σ =
  if v1 ≤ v4 then
    gb_b0 (f_X10_counts [gR 36 0, gI v3] σ) (fun s6 => gb_b0 (f_X10_tell [gR 36 0, gL v3.toInt64] (gb_si s6 36 0 9 0)) (fun s7 => gb_b0 (f_X10_tell [gR 36 0, gL v2.toInt64] s7) (fun s8 => gb_b1 (f_X10_allNow [gR 36 0] s8) (fun x10 s9 => gb_b0 (f_X10_tell [gR 36 0, gL x10.toInt64] s9) (fun s11 => some (some (gI v1), s11))))))
  else
    gb_gd (gb_in v4 6) (gb_gd (gb_in v4 6) (gb_b0 (f_X10_goes [gR 36 0, gI (σ.1 50 0 v4.toNatClampNeg), gI (σ.1 48 0 v4.toNatClampNeg)] σ) (fun s12 => gb_gd (gb_in v4 6) (j_X10_sells_48 v1 v2 (v3 + ((s12.1 48 0 v4.toNatClampNeg) * (s12.1 36 0 15))) (v4 + 1) s12)))) := (gb_fx_eq (L_X10_sells) 48 _ _ _).trans rfl
set_option maxRecDepth 20000 in
theorem e_X10_sells  (σ : gb_M) : f_X10_sells [gR 36 0] σ =
  gb_b0 (f_X10_readsList [gR 36 0] (gb_si σ 36 0 10 0)) (fun s1 => if s1.1 36 0 18 = (-1) then
    gb_b0 (f_X10_findsServed [gR 36 0] s1) (fun s2 => gb_b0 (f_X10_does [gR 36 0] s2) (fun s3 => gb_b1 (f_X10_allNow [gR 36 0] s3) (fun x5 s4 => j_X10_sells_48 (s2.1 36 0 29) x5 0 0 s4)))
  else
    some (some (gI ((-21) - (s1.1 36 0 18))), s1)) := (gb_hide_at _ _ _).trans rfl
noncomputable def j_X10_value_18 (v1 : Int32) (v2 : Int32) (v3 : Int32) (σ : gb_M) : gb_R := K_X10_value 18 [(0, gR 36 0), (1, gI v1), (2, gI v2), (3, gI v3)] [] σ
set_option maxRecDepth 20000 in
theorem e_X10_value_18 (v1 : Int32) (v2 : Int32) (v3 : Int32) (σ : gb_M) : j_X10_value_18 v1 v2 v3 σ =
  gb_b1 (f_X10_many [gR 36 0, gI v1] σ) (fun x4 s3 => if x4 ≤ v3 then
    gb_gd (gb_in 174 176) (gb_b1 (f_X10_rawOn [gR 36 0, gI ((gb_si s3 36 0 9 0).1 37 0 (174 : Int32).toNatClampNeg), gI v1] (gb_si s3 36 0 9 0)) (fun x6 s5 => gb_b0 (f_X10_tell [gR 36 0, gL x6.toInt64] s5) (fun s7 => gb_b1 (f_X10_mixedIn [gR 36 0, gI v1] s7) (fun x9 s8 => gb_b0 (f_X10_tell [gR 36 0, gL x9.toInt64] s8) (fun s10 => gb_b0 (f_X10_tell [gR 36 0, gL v2.toInt64] s10) (fun s11 => gb_b1 (f_X10_valueOf [gR 36 0, gI v1] s11) (fun x13 s12 => some (some (gI x13), s12))))))))
  else
    gb_b1 (f_X10_layerOf [gR 36 0, gI v1, gI v3, gI 1] s3) (fun x15 s14 => gb_b1 (f_X10_layerOf [gR 36 0, gI v1, gI v3, gI 0] s14) (fun x17 s16 => gb_gd (gb_in (0 + x17) 176) (j_X10_value_18 v1 (v2 + (x15 * (s16.1 37 0 (0 + x17).toNatClampNeg))) (v3 + 1) s16)))) := (gb_fx_eq (L_X10_value) 18 _ _ _).trans rfl
set_option maxRecDepth 20000 in
theorem e_X10_value (a1 : Int32) (σ : gb_M) : f_X10_value [gR 36 0, gI a1] σ =
  gb_b1 (f_X10_isBin [gI a1] (gb_si σ 36 0 10 0)) (fun x2 s1 => if x2 = 0 then some (some (gI (-1)), s1) else j_X10_value_18 a1 0 0 s1) := (gb_hide_at _ _ _).trans rfl
noncomputable def j_X10_all_12 (v1 : Int32) (σ : gb_M) : gb_R := K_X10_all 12 [(0, gR 36 0), (1, gI v1)] [] σ
set_option maxRecDepth 20000 in
theorem e_X10_all_12 (v1 : Int32) (σ : gb_M) : j_X10_all_12 v1 σ =
  if 6 ≤ v1 then
    gb_b1 (f_X10_allNow [gR 36 0] σ) (fun x2 s1 => some (some (gI x2), s1))
  else
    gb_b1 (f_X10_valueOf [gR 36 0, gI v1] σ) (fun x4 s3 => gb_b0 (f_X10_tell [gR 36 0, gL x4.toInt64] s3) (fun s5 => j_X10_all_12 (v1 + 1) s5)) := (gb_fx_eq (L_X10_all) 12 _ _ _).trans rfl
set_option maxRecDepth 20000 in
theorem e_X10_all  (σ : gb_M) : f_X10_all [gR 36 0] σ =
  j_X10_all_12 0 (gb_si (gb_si σ 36 0 10 0) 36 0 9 0) := (gb_hide_at _ _ _).trans rfl
noncomputable def j_X10_mixed_23 (v1 : Int32) (v2 : Int32) (v3 : Int32) (σ : gb_M) : gb_R := K_X10_mixed 23 [(0, gR 36 0), (1, gI v1), (2, gI v2), (3, gI v3)] [] σ
noncomputable def j_X10_mixed_35 (v1 : Int32) (v2 : Int32) (v3 : Int32) (v4 : Int32) (v5 : Int32) (σ : gb_M) : gb_R := K_X10_mixed 35 [(0, gR 36 0), (1, gI v1), (2, gI v2), (3, gI v3), (4, gI v4), (5, gI v5)] [] σ
set_option maxRecDepth 20000 in
theorem e_X10_mixed_23 (v1 : Int32) (v2 : Int32) (v3 : Int32) (σ : gb_M) : j_X10_mixed_23 v1 v2 v3 σ =
  if 6 ≤ v3 then some (some (gI v2), σ) else j_X10_mixed_35 v1 v2 v3 0 0 σ := (gb_fx_eq (L_X10_mixed) 23 _ _ _).trans rfl
set_option maxRecDepth 20000 in
theorem e_X10_mixed_35 (v1 : Int32) (v2 : Int32) (v3 : Int32) (v4 : Int32) (v5 : Int32) (σ : gb_M) : j_X10_mixed_35 v1 v2 v3 v4 v5 σ =
  if 6 ≤ v5 then
    gb_b0 (f_X10_tell [gR 36 0, gL v4.toInt64] σ) (fun s3 => j_X10_mixed_23 v1 (v2 + v4) (v3 + 1) s3)
  else
    gb_b1 (f_X10_mixedOf [gR 36 0, gI v5, gI v1, gI v3] σ) (fun x5 s4 => j_X10_mixed_35 v1 v2 v3 (v4 + x5) (v5 + 1) s4) := (gb_fx_eq (L_X10_mixed) 35 _ _ _).trans rfl
set_option maxRecDepth 20000 in
theorem e_X10_mixed (a1 : Int32) (σ : gb_M) : f_X10_mixed [gR 36 0, gI a1] σ =
  gb_b1 (f_X10_isGrade [gI a1] (gb_si σ 36 0 10 0)) (fun x2 s1 => if x2 = 0 then some (some (gI (-1)), s1) else j_X10_mixed_23 a1 0 0 (gb_si s1 36 0 9 0)) := (gb_hide_at _ _ _).trans rfl
set_option maxRecDepth 20000 in
theorem e_X10_more (a1 : Int32) (a2 : Int32) (a3 : Int32) (σ : gb_M) : f_X10_more [gR 36 0, gI a1, gI a2, gI a3] σ =
  gb_b1 (f_X10_valueOf [gR 36 0, gI a3] σ) (fun x2 s1 => gb_b0 (f_X10_laysDown [gR 36 0, gI 6] s1) (fun s3 => gb_gd (gb_in 174 176) (gb_b0 (f_X10_lies [gR 36 0, gI a3, gI a1, gI a2, gI (s3.1 37 0 (174 : Int32).toNatClampNeg)] s3) (fun s4 => gb_b1 (f_X10_valueOf [gR 36 0, gI a3] s4) (fun x6 s5 => gb_b1 (f_X10_mixedIn [gR 36 0, gI a3] (gb_si s5 36 0 30 x6)) (fun x8 s7 => gb_b0 (f_X10_takesUp [gR 36 0, gI 6] (gb_si s7 36 0 31 x8)) (fun s9 => some (some (gI ((s9.1 36 0 30) - x2)), s9)))))))) := (gb_hide_at _ _ _).trans rfl
set_option maxRecDepth 20000 in
theorem e_X10_would (a1 : Int32) (a2 : Int32) (a3 : Int32) (σ : gb_M) : f_X10_would [gR 36 0, gI a1, gI a2, gI a3] σ =
  gb_b1 (f_X10_isGrade [gI a1] (gb_si σ 36 0 10 0)) (fun x2 s1 => if x2 = 0 then
    some (some (gI (-1)), s1)
  else
    gb_b1 (f_X10_isLoad [gI a2] s1) (fun x4 s3 => if x4 = 0 then
      some (some (gI (-1)), s3)
    else
      gb_b1 (f_X10_isBin [gI a3] s3) (fun x6 s5 => if x6 = 0 then
        some (some (gI (-1)), s5)
      else
        gb_gd (gb_in 174 176) (gb_b1 (f_X10_whyNot [gR 36 0, gI a3, gI a1, gI a2, gI (s5.1 37 0 (174 : Int32).toNatClampNeg)] s5) (fun x8 s7 => if x8 = 0 then
          gb_b1 (f_X10_more [gR 36 0, gI a1, gI a2, gI a3] s7) (fun x10 s9 => gb_b0 (f_X10_tell [gR 36 0, gL (((gb_si s9 36 0 9 0).1 36 0 30).toInt64)] (gb_si s9 36 0 9 0)) (fun s11 => gb_b0 (f_X10_tell [gR 36 0, gL ((s11.1 36 0 31).toInt64)] s11) (fun s12 => some (some (gI x10), s12))))
        else
          some (some (gI (x8 - 1000000)), s7)))))) := (gb_hide_at _ _ _).trans rfl
noncomputable def j_X10_worst_15 (v1 : Int32) (v2 : Int32) (v3 : Int32) (v4 : Int32) (σ : gb_M) : gb_R := K_X10_worst 15 [(0, gR 36 0), (1, gI v1), (2, gI v2), (3, gI v3), (4, gI v4)] [] σ
noncomputable def j_X10_worst_25 (v1 : Int32) (v2 : Int32) (v3 : Int32) (v4 : Int32) (v5 : Int32) (σ : gb_M) : gb_R := K_X10_worst 25 [(0, gR 36 0), (1, gI v1), (2, gI v2), (3, gI v3), (4, gI v4), (5, gI v5)] [] σ
noncomputable def j_X10_worst_38 (v1 : Int32) (v2 : Int32) (v3 : Int32) (v4 : Int32) (v5 : Int32) (v6 : Int32) (σ : gb_M) : gb_R := K_X10_worst 38 [(0, gR 36 0), (1, gI v1), (2, gI v2), (3, gI v3), (4, gI v4), (5, gI v5), (6, gI v6)] [] σ
set_option maxRecDepth 20000 in
theorem e_X10_worst_15 (v1 : Int32) (v2 : Int32) (v3 : Int32) (v4 : Int32) (σ : gb_M) : j_X10_worst_15 v1 v2 v3 v4 σ =
  if 6 ≤ v4 then
    if v2 = (-2) then
      some (some (gI (-2)), σ)
    else
      gb_b0 (f_X10_tell [gR 36 0, gL v1.toInt64] (gb_si σ 36 0 9 0)) (fun s1 => gb_b0 (f_X10_tell [gR 36 0, gL v3.toInt64] s1) (fun s2 => some (some (gI v2), s2)))
  else
    j_X10_worst_25 v1 v2 v3 v4 0 σ := (gb_fx_eq (L_X10_worst) 15 _ _ _).trans rfl
set_option maxRecDepth 20000 in
theorem e_X10_worst_25 (v1 : Int32) (v2 : Int32) (v3 : Int32) (v4 : Int32) (v5 : Int32) (σ : gb_M) : j_X10_worst_25 v1 v2 v3 v4 v5 σ =
  if 6 ≤ v5 then j_X10_worst_15 v1 v2 v3 (v4 + 1) σ else j_X10_worst_38 v1 v2 v3 v4 v5 (v5 + 1) σ := (gb_fx_eq (L_X10_worst) 25 _ _ _).trans rfl
set_option maxRecDepth 20000 in
theorem e_X10_worst_38 (v1 : Int32) (v2 : Int32) (v3 : Int32) (v4 : Int32) (v5 : Int32) (v6 : Int32) (σ : gb_M) : j_X10_worst_38 v1 v2 v3 v4 v5 v6 σ =
  if 6 ≤ v6 then
    j_X10_worst_25 v1 v2 v3 v4 (v5 + 1) σ
  else
    gb_b1 (f_X10_mixedOf [gR 36 0, gI v4, gI v5, gI v6] σ) (fun x4 s3 => if v1 < x4 then
      gb_b1 (f_X10_mixedOf [gR 36 0, gI v4, gI v5, gI v6] s3) (fun x6 s5 => j_X10_worst_38 x6 ((10 * v5) + v6) v4 v4 v5 (v6 + 1) s5)
    else
      j_X10_worst_38 v1 v2 v3 v4 v5 (v6 + 1) s3) := (gb_fx_eq (L_X10_worst) 38 _ _ _).trans rfl
set_option maxRecDepth 20000 in
theorem e_X10_worst  (σ : gb_M) : f_X10_worst [gR 36 0] σ =
  j_X10_worst_15 0 (-2) 0 0 (gb_si σ 36 0 10 0) := (gb_hide_at _ _ _).trans rfl
noncomputable def j_X10_best_30 (v1 : Int32) (v2 : Int32) (v3 : Int32) (v4 : Int32) (v5 : Int32) (σ : gb_M) : gb_R := K_X10_best 30 [(0, gR 36 0), (1, gI v1), (2, gI v2), (3, gI v3), (4, gI v4), (5, gI v5)] [] σ
set_option maxRecDepth 20000 in
theorem e_X10_best_30 (v1 : Int32) (v2 : Int32) (v3 : Int32) (v4 : Int32) (v5 : Int32) (σ : gb_M) : j_X10_best_30 v1 v2 v3 v4 v5 σ =
  if 6 ≤ v5 then
    if v3 = (-2) then
      some (some (gI (-2)), σ)
    else
      gb_b0 (f_X10_tell [gR 36 0, gL v4.toInt64] (gb_si σ 36 0 9 0)) (fun s5 => some (some (gI v3), s5))
  else
    gb_gd (gb_in 174 176) (gb_b1 (f_X10_whyNot [gR 36 0, gI v5, gI v1, gI v2, gI (σ.1 37 0 (174 : Int32).toNatClampNeg)] σ) (fun x7 s6 => if x7 = 0 then
      gb_b1 (f_X10_more [gR 36 0, gI v1, gI v2, gI v5] s6) (fun x9 s8 => if v3 = (-2) then
        j_X10_best_30 v1 v2 v5 x9 (v5 + 1) s8
      else
        if v4 < x9 then j_X10_best_30 v1 v2 v5 x9 (v5 + 1) s8 else j_X10_best_30 v1 v2 v3 v4 (v5 + 1) s8)
    else
      j_X10_best_30 v1 v2 v3 v4 (v5 + 1) s6)) := (gb_fx_eq (L_X10_best) 30 _ _ _).trans rfl
set_option maxRecDepth 20000 in
theorem e_X10_best (a1 : Int32) (a2 : Int32) (σ : gb_M) : f_X10_best [gR 36 0, gI a1, gI a2] σ =
  gb_b1 (f_X10_isGrade [gI a1] (gb_si σ 36 0 10 0)) (fun x2 s1 => if x2 = 0 then
    some (some (gI (-1)), s1)
  else
    gb_b1 (f_X10_isLoad [gI a2] s1) (fun x4 s3 => if x4 = 0 then some (some (gI (-1)), s3) else j_X10_best_30 a1 a2 (-2) 0 0 s3)) := (gb_hide_at _ _ _).trans rfl
noncomputable def j_X10_ones_4 (v1 : Int32) (v2 : Int32) (σ : gb_M) : gb_R := K_X10_ones 4 [(1, gI v1), (2, gI v2)] [] σ
set_option maxRecDepth 20000 in
theorem e_X10_ones_4 (v1 : Int32) (v2 : Int32) (σ : gb_M) : j_X10_ones_4 v1 v2 σ =
  if v2 = 0 then some (some (gI v1), σ) else j_X10_ones_4 (v1 + 1) (v2 &&& (v2 - 1)) σ := (gb_fx_eq (L_X10_ones) 4 _ _ _).trans rfl
set_option maxRecDepth 20000 in
theorem e_X10_ones (a0 : Int32) (σ : gb_M) : f_X10_ones [gI a0] σ =
  j_X10_ones_4 0 a0 σ := (gb_hide_at _ _ _).trans rfl
noncomputable def j_X10_laysFrom_111 (r : gb_F) (v1 : Int32) (v2 : Int32) (v3 : Int32) (σ : gb_M) : gb_R := K_X10_laysFrom r 111 [(0, gR 36 0), (1, gI v1), (2, gI v2), (3, gI v3)] [] σ
set_option maxRecDepth 20000 in
theorem e_X10_laysFrom_111 (r : gb_F) (v1 : Int32) (v2 : Int32) (v3 : Int32) (σ : gb_M) : j_X10_laysFrom_111 r v1 v2 v3 σ =
  if 6 ≤ v3 then
    some (none, σ)
  else
    gb_gd (gb_in v1 6) (gb_gd (gb_in v1 6) (gb_gd (gb_in 174 176) (gb_b1 (f_X10_whyNot [gR 36 0, gI v3, gI (σ.1 47 0 v1.toNatClampNeg), gI (σ.1 48 0 v1.toNatClampNeg), gI (σ.1 37 0 (174 : Int32).toNatClampNeg)] σ) (fun x31 s30 => if x31 = 0 then
      gb_gd (gb_in v1 6) (gb_gd (gb_in v1 6) (gb_gd (gb_in v1 6) (gb_gd (gb_in 174 176) (gb_b0 (f_X10_lies [gR 36 0, gI v3, gI ((gb_si s30 49 0 v1.toNatClampNeg v3).1 47 0 v1.toNatClampNeg), gI ((gb_si s30 49 0 v1.toNatClampNeg v3).1 48 0 v1.toNatClampNeg), gI ((gb_si s30 49 0 v1.toNatClampNeg v3).1 37 0 (174 : Int32).toNatClampNeg)] (gb_si s30 49 0 v1.toNatClampNeg v3)) (fun s32 => gb_b0 (r [gR 36 0, gI (v1 + 1), gI (v2 ||| (1 <<< (v3 &&& 31)))] s32) (fun s33 => gb_b0 (f_X10_takesUp [gR 36 0, gI v1] s33) (fun s34 => j_X10_laysFrom_111 r v1 v2 (v3 + 1) s34)))))))
    else
      j_X10_laysFrom_111 r v1 v2 (v3 + 1) s30)))) := (gb_fx_eq (L_X10_laysFrom r) 111 _ _ _).trans rfl
set_option maxRecDepth 20000 in
theorem e_X10_laysFrom (n : Nat) (a1 : Int32) (a2 : Int32) (σ : gb_M) : g_X10_laysFrom (n + 1) [gR 36 0, gI a1, gI a2] σ =
  if a1 = σ.1 36 0 25 then
    gb_b1 (f_X10_allNow [gR 36 0] σ) (fun x2 s1 => if s1.1 36 0 32 = 0 then
      gb_b0 (f_X10_findsRow [gR 36 0, gI a1] (gb_si s1 36 0 33 x2)) (fun s3 => gb_b1 (f_X10_ones [gI a2] s3) (fun x5 s4 => gb_b1 (f_X10_ones [gI (s4.1 36 0 34)] s4) (fun x7 s6 => if x5 < x7 then
        if s6.1 36 0 32 = 0 then
          some (none, gb_si (gb_si s6 36 0 34 a2) 36 0 32 1)
        else
          if 1 = 0 then some (none, gb_si s6 36 0 32 1) else some (none, gb_si (gb_si s6 36 0 34 a2) 36 0 32 1)
      else
        gb_b1 (f_X10_ones [gI a2] s6) (fun x9 s8 => gb_b1 (f_X10_ones [gI (s8.1 36 0 34)] s8) (fun x11 s10 => if x9 = x11 then
          if s10.1 36 0 34 ≤ a2 then
            if s10.1 36 0 32 = 0 then
              some (none, gb_si (gb_si s10 36 0 34 a2) 36 0 32 1)
            else
              if 0 = 0 then some (none, gb_si s10 36 0 32 1) else some (none, gb_si (gb_si s10 36 0 34 a2) 36 0 32 1)
          else
            if s10.1 36 0 32 = 0 then
              some (none, gb_si (gb_si s10 36 0 34 a2) 36 0 32 1)
            else
              if 1 = 0 then some (none, gb_si s10 36 0 32 1) else some (none, gb_si (gb_si s10 36 0 34 a2) 36 0 32 1)
        else
          if s10.1 36 0 32 = 0 then
            some (none, gb_si (gb_si s10 36 0 34 a2) 36 0 32 1)
          else
            if 0 = 0 then some (none, gb_si s10 36 0 32 1) else some (none, gb_si (gb_si s10 36 0 34 a2) 36 0 32 1))))))
    else
      if x2 ≤ s1.1 36 0 33 then
        gb_b1 (f_X10_ones [gI a2] s1) (fun x13 s12 => gb_b1 (f_X10_ones [gI (s12.1 36 0 34)] s12) (fun x15 s14 => if x13 < x15 then
          if s14.1 36 0 32 = 0 then
            some (none, gb_si (gb_si s14 36 0 34 a2) 36 0 32 1)
          else
            if 1 = 0 then some (none, gb_si s14 36 0 32 1) else some (none, gb_si (gb_si s14 36 0 34 a2) 36 0 32 1)
        else
          gb_b1 (f_X10_ones [gI a2] s14) (fun x17 s16 => gb_b1 (f_X10_ones [gI (s16.1 36 0 34)] s16) (fun x19 s18 => if x17 = x19 then
            if s18.1 36 0 34 ≤ a2 then
              if s18.1 36 0 32 = 0 then
                some (none, gb_si (gb_si s18 36 0 34 a2) 36 0 32 1)
              else
                if 0 = 0 then some (none, gb_si s18 36 0 32 1) else some (none, gb_si (gb_si s18 36 0 34 a2) 36 0 32 1)
            else
              if s18.1 36 0 32 = 0 then
                some (none, gb_si (gb_si s18 36 0 34 a2) 36 0 32 1)
              else
                if 1 = 0 then some (none, gb_si s18 36 0 32 1) else some (none, gb_si (gb_si s18 36 0 34 a2) 36 0 32 1)
          else
            if s18.1 36 0 32 = 0 then
              some (none, gb_si (gb_si s18 36 0 34 a2) 36 0 32 1)
            else
              if 0 = 0 then some (none, gb_si s18 36 0 32 1) else some (none, gb_si (gb_si s18 36 0 34 a2) 36 0 32 1)))))
      else
        gb_b0 (f_X10_findsRow [gR 36 0, gI a1] (gb_si s1 36 0 33 x2)) (fun s20 => gb_b1 (f_X10_ones [gI a2] s20) (fun x22 s21 => gb_b1 (f_X10_ones [gI (s21.1 36 0 34)] s21) (fun x24 s23 => if x22 < x24 then
          if s23.1 36 0 32 = 0 then
            some (none, gb_si (gb_si s23 36 0 34 a2) 36 0 32 1)
          else
            if 1 = 0 then some (none, gb_si s23 36 0 32 1) else some (none, gb_si (gb_si s23 36 0 34 a2) 36 0 32 1)
        else
          gb_b1 (f_X10_ones [gI a2] s23) (fun x26 s25 => gb_b1 (f_X10_ones [gI (s25.1 36 0 34)] s25) (fun x28 s27 => if x26 = x28 then
            if s27.1 36 0 34 ≤ a2 then
              if s27.1 36 0 32 = 0 then
                some (none, gb_si (gb_si s27 36 0 34 a2) 36 0 32 1)
              else
                if 0 = 0 then some (none, gb_si s27 36 0 32 1) else some (none, gb_si (gb_si s27 36 0 34 a2) 36 0 32 1)
            else
              if s27.1 36 0 32 = 0 then
                some (none, gb_si (gb_si s27 36 0 34 a2) 36 0 32 1)
              else
                if 1 = 0 then some (none, gb_si s27 36 0 32 1) else some (none, gb_si (gb_si s27 36 0 34 a2) 36 0 32 1)
          else
            if s27.1 36 0 32 = 0 then
              some (none, gb_si (gb_si s27 36 0 34 a2) 36 0 32 1)
            else
              if 0 = 0 then some (none, gb_si s27 36 0 32 1) else some (none, gb_si (gb_si s27 36 0 34 a2) 36 0 32 1)))))))
  else
    gb_b0 (f_X10_laysDown [gR 36 0, gI a1] σ) (fun s29 => j_X10_laysFrom_111 (g_X10_laysFrom n) a1 a2 0 s29) := rfl
set_option maxRecDepth 20000 in
theorem e_X10_findsWays  (σ : gb_M) : f_X10_findsWays [gR 36 0] σ =
  gb_b0 (f_X10_laysFrom [gR 36 0, gI 0, gI 0] (gb_si σ 36 0 32 0)) (fun s1 => some (none, s1)) := (gb_hide_at _ _ _).trans rfl
noncomputable def j_X10_lays_62 (v2 : Int32) (σ : gb_M) : gb_R := K_X10_lays 62 [(0, gR 36 0), (2, gI v2)] [] σ
set_option maxRecDepth 20000 in
theorem e_X10_lays_62 (v2 : Int32) (σ : gb_M) : j_X10_lays_62 v2 σ =
  if σ.1 36 0 25 ≤ v2 then
    some (some (gI (σ.1 36 0 25)), σ)
  else
    gb_gd (gb_in v2 6) (gb_b0 (f_X10_tell [gR 36 0, gL ((σ.1 50 0 v2.toNatClampNeg).toInt64)] σ) (fun s6 => j_X10_lays_62 (v2 + 1) s6)) := (gb_fx_eq (L_X10_lays) 62 _ _ _).trans rfl
set_option maxRecDepth 20000 in
theorem e_X10_lays  (σ : gb_M) : f_X10_lays [gR 36 0] σ =
  gb_b0 (f_X10_readsList [gR 36 0] (gb_si σ 36 0 10 0)) (fun s1 => if s1.1 36 0 18 = (-1) then
    gb_b1 (f_X10_allNow [gR 36 0] s1) (fun x3 s2 => gb_b0 (f_X10_findsWays [gR 36 0] s2) (fun s4 => if s4.1 36 0 32 = 0 then
      some (some (gI (-2)), s4)
    else
      gb_b0 (f_X10_tell [gR 36 0, gL ((((gb_si s4 36 0 9 0).1 36 0 33) - x3).toInt64)] (gb_si s4 36 0 9 0)) (fun s5 => j_X10_lays_62 0 s5)))
  else
    some (some (gI ((-21) - (s1.1 36 0 18))), s1)) := (gb_hide_at _ _ _).trans rfl
set_option maxRecDepth 20000 in
theorem e_X10_few  (σ : gb_M) : f_X10_few [gR 36 0] σ =
  gb_b0 (f_X10_readsList [gR 36 0] (gb_si σ 36 0 10 0)) (fun s1 => if s1.1 36 0 18 = (-1) then
    gb_b0 (f_X10_findsWays [gR 36 0] s1) (fun s2 => if s2.1 36 0 32 = 0 then
      some (some (gI (-2)), s2)
    else
      gb_b0 (f_X10_tell [gR 36 0, gL (((gb_si s2 36 0 9 0).1 36 0 34).toInt64)] (gb_si s2 36 0 9 0)) (fun s3 => gb_b1 (f_X10_ones [gI (s3.1 36 0 34)] s3) (fun x5 s4 => some (some (gI x5), s4))))
  else
    some (some (gI ((-21) - (s1.1 36 0 18))), s1)) := (gb_hide_at _ _ _).trans rfl
