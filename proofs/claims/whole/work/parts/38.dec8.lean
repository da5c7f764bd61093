/-! DEC: the blocks as equations, printed by wip/whole/dec.py -/
noncomputable def j_X10_count_18 (v1 : Int32) (v2 : Int32) (v3 : Int32) (v4 : Int32) (v5 : Int32) (v6 : Int32) (σ : gb_M) : gb_R := K_X10_count 18 [(0, gR 36 0), (1, gI v1), (2, gI v2), (3, gI v3), (4, gI v4), (5, gI v5), (6, gI v6)] [] σ
set_option maxRecDepth 20000 in
theorem e_X10_count_18 (v1 : Int32) (v2 : Int32) (v3 : Int32) (v4 : Int32) (v5 : Int32) (v6 : Int32) (σ : gb_M) : j_X10_count_18 v1 v2 v3 v4 v5 v6 σ =
  if 6 ≤ v6 then
    gb_tsel v1 0 8 [k_X10_count_144 (K_X10_count), k_X10_count_153 (K_X10_count), k_X10_count_155 (K_X10_count), k_X10_count_157 (K_X10_count), k_X10_count_160 (K_X10_count), k_X10_count_163 (K_X10_count), k_X10_count_168 (K_X10_count), k_X10_count_177 (K_X10_count), k_X10_count_182 (K_X10_count)] (k_X10_count_187 (K_X10_count)) [(0, gR 36 0), (1, gI v1), (2, gI v2), (3, gI v3), (4, gI v4), (5, gI v5), (6, gI v6)] [] σ
  else
    gb_b1 (f_X10_tonsIn [gR 36 0, gI v6] σ) (fun x2 s1 => gb_b1 (f_X10_many [gR 36 0, gI v6] s1) (fun x4 s3 => gb_b1 (f_X10_isClosed [gR 36 0, gI v6] s3) (fun x6 s5 => if x6 = 0 then
      gb_b1 (f_X10_many [gR 36 0, gI v6] s5) (fun x8 s7 => if x8 = 0 then
        j_X10_count_18 v1 (v2 + x2) (v3 + x4) (v4 ||| 0) (v5 ||| (1 <<< (v6 &&& 31))) (v6 + 1) s7
      else
        j_X10_count_18 v1 (v2 + x2) (v3 + x4) (v4 ||| 0) (v5 ||| 0) (v6 + 1) s7)
    else
      gb_b1 (f_X10_many [gR 36 0, gI v6] s5) (fun x10 s9 => if x10 = 0 then
        j_X10_count_18 v1 (v2 + x2) (v3 + x4) (v4 ||| (1 <<< (v6 &&& 31))) (v5 ||| (1 <<< (v6 &&& 31))) (v6 + 1) s9
      else
        j_X10_count_18 v1 (v2 + x2) (v3 + x4) (v4 ||| (1 <<< (v6 &&& 31))) (v5 ||| 0) (v6 + 1) s9)))) := (gb_fx_eq (L_X10_count) 18 _ _ _).trans rfl
set_option maxRecDepth 20000 in
theorem e_X10_count_144 (v1 : Int32) (v2 : Int32) (v3 : Int32) (v4 : Int32) (v5 : Int32) (v6 : Int32) (σ : gb_M) : k_X10_count_144 (K_X10_count) [(0, gR 36 0), (1, gI v1), (2, gI v2), (3, gI v3), (4, gI v4), (5, gI v5), (6, gI v6)] [] σ =
  gb_gd (gb_in 174 176) (some (some (gI (σ.1 37 0 (174 : Int32).toNatClampNeg)), σ)) := rfl
set_option maxRecDepth 20000 in
theorem e_X10_count_153 (v1 : Int32) (v2 : Int32) (v3 : Int32) (v4 : Int32) (v5 : Int32) (v6 : Int32) (σ : gb_M) : k_X10_count_153 (K_X10_count) [(0, gR 36 0), (1, gI v1), (2, gI v2), (3, gI v3), (4, gI v4), (5, gI v5), (6, gI v6)] [] σ =
  some (some (gI v2), σ) := rfl
set_option maxRecDepth 20000 in
theorem e_X10_count_155 (v1 : Int32) (v2 : Int32) (v3 : Int32) (v4 : Int32) (v5 : Int32) (v6 : Int32) (σ : gb_M) : k_X10_count_155 (K_X10_count) [(0, gR 36 0), (1, gI v1), (2, gI v2), (3, gI v3), (4, gI v4), (5, gI v5), (6, gI v6)] [] σ =
  some (some (gI v3), σ) := rfl
set_option maxRecDepth 20000 in
theorem e_X10_count_157 (v1 : Int32) (v2 : Int32) (v3 : Int32) (v4 : Int32) (v5 : Int32) (v6 : Int32) (σ : gb_M) : k_X10_count_157 (K_X10_count) [(0, gR 36 0), (1, gI v1), (2, gI v2), (3, gI v3), (4, gI v4), (5, gI v5), (6, gI v6)] [] σ =
  some (some (gI v4), σ) := rfl
set_option maxRecDepth 20000 in
theorem e_X10_count_160 (v1 : Int32) (v2 : Int32) (v3 : Int32) (v4 : Int32) (v5 : Int32) (v6 : Int32) (σ : gb_M) : k_X10_count_160 (K_X10_count) [(0, gR 36 0), (1, gI v1), (2, gI v2), (3, gI v3), (4, gI v4), (5, gI v5), (6, gI v6)] [] σ =
  some (some (gI v5), σ) := rfl
set_option maxRecDepth 20000 in
theorem e_X10_count_163 (v1 : Int32) (v2 : Int32) (v3 : Int32) (v4 : Int32) (v5 : Int32) (v6 : Int32) (σ : gb_M) : k_X10_count_163 (K_X10_count) [(0, gR 36 0), (1, gI v1), (2, gI v2), (3, gI v3), (4, gI v4), (5, gI v5), (6, gI v6)] [] σ =
  some (some (gI (σ.1 36 0 5)), σ) := rfl
set_option maxRecDepth 20000 in
theorem e_X10_count_168 (v1 : Int32) (v2 : Int32) (v3 : Int32) (v4 : Int32) (v5 : Int32) (v6 : Int32) (σ : gb_M) : k_X10_count_168 (K_X10_count) [(0, gR 36 0), (1, gI v1), (2, gI v2), (3, gI v3), (4, gI v4), (5, gI v5), (6, gI v6)] [] σ =
  gb_gd (gb_in 175 176) (some (some (gI (σ.1 37 0 (175 : Int32).toNatClampNeg)), σ)) := rfl
set_option maxRecDepth 20000 in
theorem e_X10_count_177 (v1 : Int32) (v2 : Int32) (v3 : Int32) (v4 : Int32) (v5 : Int32) (v6 : Int32) (σ : gb_M) : k_X10_count_177 (K_X10_count) [(0, gR 36 0), (1, gI v1), (2, gI v2), (3, gI v3), (4, gI v4), (5, gI v5), (6, gI v6)] [] σ =
  some (some (gI (σ.1 36 0 9)), σ) := rfl
set_option maxRecDepth 20000 in
theorem e_X10_count_182 (v1 : Int32) (v2 : Int32) (v3 : Int32) (v4 : Int32) (v5 : Int32) (v6 : Int32) (σ : gb_M) : k_X10_count_182 (K_X10_count) [(0, gR 36 0), (1, gI v1), (2, gI v2), (3, gI v3), (4, gI v4), (5, gI v5), (6, gI v6)] [] σ =
  some (some (gI (σ.1 36 0 7)), σ) := rfl
set_option maxRecDepth 20000 in
theorem e_X10_count_187 (v1 : Int32) (v2 : Int32) (v3 : Int32) (v4 : Int32) (v5 : Int32) (v6 : Int32) (σ : gb_M) : k_X10_count_187 (K_X10_count) [(0, gR 36 0), (1, gI v1), (2, gI v2), (3, gI v3), (4, gI v4), (5, gI v5), (6, gI v6)] [] σ =
  some (some (gI (-1)), σ) := rfl
set_option maxRecDepth 20000 in
theorem e_X10_count (a1 : Int32) (σ : gb_M) : f_X10_count [gR 36 0, gI a1] σ =
  j_X10_count_18 a1 0 0 0 0 0 (gb_si σ 36 0 10 0) := (gb_hide_at _ _ _).trans rfl
set_option maxRecDepth 20000 in
theorem e_X10_row (a1 : Int32) (σ : gb_M) : f_X10_row [gR 36 0, gI a1] σ =
  gb_b1 (f_X10_in [gL a1.toInt64, gL 0, gL ((((gb_si σ 36 0 10 0).1 36 0 9) - 1).toInt64)] (gb_si σ 36 0 10 0)) (fun x2 s1 => if x2 = 0 then
    gb_b1 (f_X10_lost [gR 36 0] s1) (fun x4 s3 => some (some (gL x4.toInt64), s3))
  else
    gb_gd (gb_in a1 32) (some (some (gL (s1.2 42 0 a1.toNatClampNeg)), s1))) := (gb_hide_at _ _ _).trans rfl
