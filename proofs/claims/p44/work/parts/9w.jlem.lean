/-! THE JDK's methods: decimal texts, numbers below 100 -/
def jdl (v : Nat) : Nat := if v < 10 then 1 else 2
def dN (v : Nat) : List Nat := if v < 10 then [48 + v] else [48 + v / 10, 48 + v % 10]
theorem dN_len (v : Nat) : (dN v).length = jdl v := by unfold dN jdl; split <;> rfl
theorem jdl_le (v : Nat) : 1 ≤ jdl v ∧ jdl v ≤ 2 := by unfold jdl; split <;> omega
theorem jdl_1 {v : Nat} (h : v < 10) : jdl v = 1 := if_pos h
theorem jdl_2 {v : Nat} (h : 10 ≤ v) : jdl v = 2 := if_neg (by omega)
theorem dN_dcn (v : Nat) : (dN v).map (fun (n : Nat) => (n : Int)) = dcn v := by
  unfold dN dcn; split
  · show [((48 + v : Nat) : Int)] = _
    rw [Int.natCast_add]; rfl
  · show [((48 + v / 10 : Nat) : Int), ((48 + v % 10 : Nat) : Int)] = _
    rw [Int.natCast_add, Int.natCast_add]; rfl
theorem jneg_le {v : Nat} (hv : v < 100) : (-(nI v) ≤ (-10 : Int32)) ↔ 10 ≤ v := by
  have : ∀ v : Fin 100, (-(nI v.val) ≤ (-10 : Int32)) ↔ 10 ≤ v.val := by decide +kernel
  exact this ⟨v, hv⟩
theorem jneg_le2 {v : Nat} (hv : v < 100) : ¬ (-(nI v) ≤ (-100 : Int32)) := by
  have : ∀ v : Fin 100, ¬ (-(nI v.val) ≤ (-100 : Int32)) := by decide +kernel
  exact this ⟨v, hv⟩
theorem jneg_gt {v : Nat} (hv : v < 100) : (-100 : Int32) < -(nI v) := by
  have : ∀ v : Fin 100, (-100 : Int32) < -(nI v.val) := by decide +kernel
  exact this ⟨v, hv⟩
theorem jneg_ge {v : Nat} (hv : v < 100) : ((-9 : Int32) ≤ -(nI v)) ↔ v < 10 := by
  have : ∀ v : Fin 100, ((-9 : Int32) ≤ -(nI v.val)) ↔ v.val < 10 := by decide +kernel
  exact this ⟨v, hv⟩
theorem jnn (x : Int32) : -(-x) = x := Int32.neg_neg
theorem jdec1 {e : Nat} (h : 1 ≤ e) : nI e + Int32.ofInt (-1) = nI (e - 1) := by
  obtain ⟨n, rfl⟩ : ∃ n, e = n + 1 := ⟨e - 1, by omega⟩
  exact pk_m1 n
theorem jsub0 (x : Int32) : x - 0 = x := Int32.sub_zero x
theorem jmin2 {a b : Nat} (ha : a < 2 ^ 31) (hb : b < 2 ^ 31) (h : b ≤ a) : (if nI b < nI a then nI b else nI a) = nI b := by
  by_cases c : b < a
  · exact if_pos ((nI_ltI hb ha).mpr c)
  · rw [if_neg (fun z => c ((nI_ltI hb ha).mp z))]; exact congrArg nI (by omega)
theorem jand {c : Nat} (h : c < 128) : nI c &&& (255 : Int32) = nI c := by
  have : ∀ c : Fin 128, nI c.val &&& (255 : Int32) = nI c.val := by decide +kernel
  exact this ⟨c, h⟩
theorem jchr {c : Nat} (h : c < 128) : ((nI c).toUInt32 % 65536).toInt32 = nI c := by
  have : ∀ c : Fin 128, ((nI c.val).toUInt32 % 65536).toInt32 = nI c.val := by decide +kernel
  exact this ⟨c, h⟩
theorem jnch {c : Nat} (h : c < 128) : narrow .char (.int (nI c)) = .int (nI c) := (pk_charN (by omega)).1
theorem jt1 {v : Nat} (hv : v < 100) : (fun j => Value.int (nI (48 + j % 10))) (nI v).toNatClampNeg = .int (nI (48 + v % 10)) := by
  show Value.int (nI (48 + (nI v).toNatClampNeg % 10)) = _
  rw [j_cl (by omega)]
theorem jt2 {v : Nat} (hv : v < 100) : (fun j => Value.int (nI (48 + j / 10))) (nI v).toNatClampNeg = .int (nI (48 + v / 10)) := by
  show Value.int (nI (48 + (nI v).toNatClampNeg / 10)) = _
  rw [j_cl (by omega)]
theorem jF_app {f f' : Nat → Int32} {T D : List Nat} (h : jF f T) (hf : jFit f') (h1 : ∀ i, i < T.length → f' i = f i) (h2 : ∀ i, i < D.length → f' (T.length + i) = nI (D.getD i 0)) : jF f' (T ++ D) := by
  refine ⟨hf, fun i hi => ?_⟩
  rw [List.length_append] at hi
  by_cases c2 : i < T.length
  · rw [List.getD_eq_getElem?_getD, List.getElem?_append_left c2, ← List.getD_eq_getElem?_getD, h1 i c2]; exact h.2 i c2
  · have e : i = T.length + (i - T.length) := by omega
    rw [List.getD_eq_getElem?_getD, List.getElem?_append_right (by omega), ← List.getD_eq_getElem?_getD, ← h2 _ (by omega), ← e]
theorem jgc1 {f : Nat → Int32} {v e : Nat} (hf : jFit f) (hv : v < 100) (h : v < 10) (he : jdl v ≤ e) : jFit (upd f (e - 1) (nI (48 + v % 10))) ∧ (∀ i, i < e - jdl v → upd f (e - 1) (nI (48 + v % 10)) i = f i) ∧ ∀ i, i < jdl v → upd f (e - 1) (nI (48 + v % 10)) (e - jdl v + i) = nI ((dN v).getD i 0) := by
  rw [jdl_1 h] at he ⊢
  refine ⟨jFit_u hf (by omega), fun i hi => if_neg (by omega), fun i hi => ?_⟩
  obtain rfl : i = 0 := by omega
  unfold dN
  rw [if_pos h]
  show (if e - 1 + 0 = e - 1 then _ else _) = _
  rw [if_pos (by omega), show v % 10 = v by omega]; rfl
theorem jgc2 {f : Nat → Int32} {v e : Nat} (hf : jFit f) (hv : v < 100) (h : 10 ≤ v) (he : jdl v ≤ e) : jFit (upd (upd f (e - 1) (nI (48 + v % 10))) (e - 1 - 1) (nI (48 + v / 10))) ∧ (∀ i, i < e - jdl v → upd (upd f (e - 1) (nI (48 + v % 10))) (e - 1 - 1) (nI (48 + v / 10)) i = f i) ∧ ∀ i, i < jdl v → upd (upd f (e - 1) (nI (48 + v % 10))) (e - 1 - 1) (nI (48 + v / 10)) (e - jdl v + i) = nI ((dN v).getD i 0) := by
  rw [jdl_2 h] at he ⊢
  refine ⟨jFit_u (jFit_u hf (by omega)) (by omega), fun i hi => ?_, fun i hi => ?_⟩
  · unfold upd; rw [if_neg (by omega), if_neg (by omega)]
  · unfold dN
    rw [if_neg (by omega)]
    unfold upd
    rcases (show i = 0 ∨ i = 1 by omega) with rfl | rfl
    · rw [if_pos (by omega)]; rfl
    · rw [if_neg (by omega), if_pos (by omega)]; rfl
theorem jcpy_o {f k : Nat → Int32} {n m i : Nat} (h : i < n) : va_cpy f k 0 n m i = k i := pk_cpy_out (Or.inl h)
theorem jcpy_i {f k : Nat → Int32} {n m i : Nat} (h : i < m) : va_cpy f k 0 n m (n + i) = f i := by
  rw [pk_cpy_in (by omega) (by omega)]; exact congrArg f (by omega)
