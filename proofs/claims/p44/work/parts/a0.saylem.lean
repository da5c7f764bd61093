/-! SAY: four signs at a time -/
def jsh (v : Int32) : Int32 := v <<< ((8 : Int32) &&& 31)
theorem jsh_n {a : Nat} (h : a < 2 ^ 23) : jsh (nI a) = nI (a * 256) := by
  unfold jsh
  rw [show ((8 : Int32) &&& 31) = 8 from by decide]
  exact pk_shlN 8 8 (by decide) (by omega)
theorem jor_n {a c : Nat} (h : a < 2 ^ 23) (hc : c < 256) : nI (a * 256) ||| nI c = nI (a * 256 + c) := by
  have e : a * 256 + c = a * 256 ||| c := by
    have := Nat.shiftLeft_add_eq_or_of_lt (b := c) (i := 8) (show c < 2 ^ 8 from hc) a
    rw [Nat.shiftLeft_eq] at this
    exact this
  rw [e]
  apply Int32.toBitVec_inj.mp
  show BitVec.ofNat 32 (a * 256) ||| BitVec.ofNat 32 c = BitVec.ofNat 32 (a * 256 ||| c)
  exact BitVec.ofNat_or.symm
theorem jbw {n : Nat} (hn : n < 2 ^ 31) (s : Int32) (k : Nat) (hs : ((s.toUInt32 &&& Int32.toUInt32 31).toBitVec % 32).toNat = k) (h31 : s.toUInt32 = s.toUInt32 &&& Int32.toUInt32 31) : (bw (nI n) s).toInt = ((n / 2 ^ k % 256 : Nat) : Int) := by
  unfold bw
  rw [h31, pk_ushrN (by omega) s k hs, pk_andN (by have := Nat.div_le_self n (2 ^ k); omega) 8 (by decide)]
  exact nI_toInt (by omega)
theorem tx4_n (X : List Int) {a b c d : Nat} (ha : a < 128) (hb : b < 128) (hc : c < 128) (hd : d < 128) : tx4 X (jsh (jsh (jsh (jsh 0 ||| nI a) ||| nI b) ||| nI c) ||| nI d) = X ++ [(a : Int), (b : Int), (c : Int), (d : Int)] := by
  have e0 : jsh 0 = nI (0 * 256) := by decide
  rw [e0, jor_n (by omega) (by omega), jsh_n (by omega), jor_n (by omega) (by omega), jsh_n (by omega), jor_n (by omega) (by omega), jsh_n (by omega), jor_n (by omega) (by omega)]
  unfold tx4
  rw [jbw (by omega) 24 24 (by decide) (by decide), jbw (by omega) 16 16 (by decide) (by decide), jbw (by omega) 8 8 (by decide) (by decide), jbw (by omega) 0 0 (by decide) (by decide)]
  rw [show (((0 * 256 + a) * 256 + b) * 256 + c) * 256 + d = a * 16777216 + b * 65536 + c * 256 + d by omega]
  rw [show (a * 16777216 + b * 65536 + c * 256 + d) / 2 ^ 24 % 256 = a by omega, show (a * 16777216 + b * 65536 + c * 256 + d) / 2 ^ 16 % 256 = b by omega, show (a * 16777216 + b * 65536 + c * 256 + d) / 2 ^ 8 % 256 = c by omega, show (a * 16777216 + b * 65536 + c * 256 + d) / 2 ^ 0 % 256 = d by omega]
  simp
/-- the sign at place x of a text, 0 behind it -/
def pc4 (T : List Nat) (x : Nat) : Nat := if x < T.length then T.getD x 0 else 0
theorem pc4_lt {T : List Nat} (h : ∀ x ∈ T, x < 128) (x : Nat) : pc4 T x < 128 := by
  unfold pc4
  split
  · next c =>
    rw [List.getD_eq_getElem?_getD, List.getElem?_eq_getElem c]
    exact h _ (List.getElem_mem c)
  · omega
def pT (T : List Nat) (n : Nat) : List Int := (List.range n).map (fun x => (pc4 T x : Int))
theorem pT_0 (T : List Nat) : pT T 0 = [] := rfl
theorem pT_len (T : List Nat) (n : Nat) : (pT T n).length = n := by unfold pT; rw [List.length_map, List.length_range]
theorem pT_4 (T : List Nat) (n : Nat) : pT T n ++ [(pc4 T n : Int), (pc4 T (n + 1) : Int), (pc4 T (n + 2) : Int), (pc4 T (n + 3) : Int)] = pT T (n + 4) := by
  unfold pT
  rw [show n + 4 = n + 1 + 1 + 1 + 1 from rfl, List.range_succ, List.range_succ, List.range_succ, List.range_succ]
  simp
theorem pT_take {T : List Nat} {n : Nat} (h : T.length ≤ n) : (pT T n).take T.length = T.map (fun (x : Nat) => (x : Int)) := by
  apply List.ext_getElem?
  intro i
  by_cases c : i < T.length
  · rw [List.getElem?_take_of_lt c]
    unfold pT
    rw [List.getElem?_map, List.getElem?_map, List.getElem?_range (by omega), List.getElem?_eq_getElem c]
    show some ((pc4 T i : Nat) : Int) = some ((T[i] : Nat) : Int)
    unfold pc4
    rw [if_pos c, List.getD_eq_getElem?_getD, List.getElem?_eq_getElem c]
    rfl
  · rw [List.getElem?_eq_none (by rw [List.length_take]; omega), List.getElem?_eq_none (by rw [List.length_map]; omega)]
theorem setT_2 {A : gb_Ab} {T T' : List Int} : setT (setT A T) T' = setT A T' := rfl
