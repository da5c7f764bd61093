/-! THE LAW: its cells, the text of its land -/
def jS (b L : Nat) (xs : Nat → Int32) (A : Nat → Prop) (U : State) (H : Heap) : Prop := va_X b L xs U H ∧ ¬ A b ∧ b < H.size
theorem jX_S (b L : Nat) (xs : Nat → Int32) : jX (jS b L xs) := ⟨fun _ _ _ _ h x => ⟨va_X.moved h x.1, x.2⟩, fun A U H H1 h x => by
  have e := h b x.2.2 x.2.1
  refine ⟨va_X.kept x.1 e, x.2.1, ?_⟩
  have h2 : H[b]? = some (H[b]'x.2.2) := Array.getElem?_eq_getElem x.2.2
  rw [h2] at e
  exact (Array.getElem?_eq_some_iff.mp e).1, fun _ _ _ _ h x => ⟨x.1, fun q => x.2.1 (h _ q), x.2.2⟩⟩
def jcl (L : Nat) (xs : Nat → Int32) (k : Nat) : Int32 := if k < L then xs k else 0
def jv (x y : Int32) : Int32 := (x.toUInt32 >>> (y.toUInt32 &&& Int32.toUInt32 31)).toInt32
def jb (x y : Int32) (k : Nat) : Nat := (jv x y).toBitVec.toNat % 2 ^ k
theorem jb_and (x y m : Int32) (k : Nat) (hm : m.toBitVec.toNat = 2 ^ k - 1) : jv x y &&& m = nI (jb x y k) := pk_and _ k hm
theorem jb_lt (x y : Int32) (k : Nat) : jb x y k < 2 ^ k := Nat.mod_lt _ (Nat.two_pow_pos k)
def jw (x : Int32) (i : Nat) : Nat := 10 + jb x (3 * nI i) 6
def jk (x : Int32) (i : Nat) : Nat := jb x (2 * nI i + 5) 4
def jc (x : Int32) (i : Nat) : Nat := 8 + jb x (2 * nI i) 5
def jgT (x : Int32) : Nat → List Nat
  | 0 => []
  | i + 1 => ((((((jgT x i ++ [103]) ++ dN i) ++ [119]) ++ dN (jw x i)) ++ [107]) ++ dN (jk x i)) ++ [59]
def jbT (x : Int32) : Nat → List Nat
  | 0 => jgT x 4
  | i + 1 => (((jbT x i ++ [98]) ++ dN i) ++ [99]) ++ dN (jc x i) ++ [59]
theorem jw_lt (x : Int32) (i : Nat) : jw x i < 100 := by have := jb_lt x (3 * nI i) 6; unfold jw; omega
theorem jk_lt (x : Int32) (i : Nat) : jk x i < 100 := by have := jb_lt x (2 * nI i + 5) 4; unfold jk; omega
theorem jc_lt (x : Int32) (i : Nat) : jc x i < 100 := by have := jb_lt x (2 * nI i) 5; unfold jc; omega
theorem jgT_len (x : Int32) : ∀ i, i ≤ 4 → (jgT x i).length ≤ 9 * i
  | 0, _ => Nat.le_refl _
  | i + 1, h => by
    have h1 := jgT_len x i (by omega)
    have h2 := jdl_1 (v := i) (by omega)
    have h3 := (jdl_le (jw x i)).2
    have h4 := (jdl_le (jk x i)).2
    simp only [jgT, List.length_append, List.length_cons, List.length_nil, dN_len]
    omega
theorem jbT_len (x : Int32) : ∀ i, i ≤ 6 → (jbT x i).length ≤ 36 + 6 * i
  | 0, _ => jgT_len x 4 (by omega)
  | i + 1, h => by
    have h1 := jbT_len x i (by omega)
    have h2 := jdl_1 (v := i) (by omega)
    have h3 := (jdl_le (jc x i)).2
    simp only [jbT, List.length_append, List.length_cons, List.length_nil, dN_len]
    omega
def jeT (x : Int32) (S : List Nat) : List Nat := ((((jbT x 6 ++ [108, 48, 49]) ++ dN (1 + jb x 12 3)) ++ [59, 108, 49, 50]) ++ dN (1 + jb x 15 4)) ++ S
theorem dN_1 {v : Nat} (h : v < 10) : dN v = [48 + v] := if_pos h
theorem jeT_lnd (x : Int32) {S : List Nat} {l : List Int} (h : S.map (fun (n : Nat) => (n : Int)) = 59 :: l) : (jeT x S).map (fun (n : Nat) => (n : Int)) = lndT (jw x) (jk x) (jc x) (1 + jb x 12 3) (1 + jb x 15 4) l := by
  unfold jeT lndT glT blT llT
  simp only [jbT, jgT, List.map_append, List.map_cons, List.map_nil, h, dN_dcn, dN_1 (show (0 : Nat) < 10 by omega), dN_1 (show (1 : Nat) < 10 by omega), dN_1 (show (2 : Nat) < 10 by omega), dN_1 (show (3 : Nat) < 10 by omega), dN_1 (show (4 : Nat) < 10 by omega), dN_1 (show (5 : Nat) < 10 by omega), List.append_assoc, List.cons_append, List.nil_append]
  rfl
theorem jeT_128 (x : Int32) {S : List Nat} (hS : ∀ n ∈ S, n < 128) : ∀ n ∈ jeT x S, n < 128 := by
  have d : ∀ v, v < 100 → ∀ n ∈ dN v, n < 128 := fun v hv n hn => by
    unfold dN at hn
    split at hn
    · simp at hn; omega
    · simp at hn; omega
  have hg : ∀ i, i ≤ 4 → ∀ n ∈ jgT x i, n < 128 := by
    intro i
    induction i with
    | zero => intro _ n hn; exact absurd hn List.not_mem_nil
    | succ i ih =>
      intro hi n hn
      simp only [jgT, List.mem_append, List.mem_singleton] at hn
      rcases hn with ((((((hn | hn) | hn) | hn) | hn) | hn) | hn) | hn
      · exact ih (by omega) n hn
      · omega
      · exact d i (by omega) n hn
      · omega
      · exact d _ (jw_lt x i) n hn
      · omega
      · exact d _ (jk_lt x i) n hn
      · omega
  have hb : ∀ i, i ≤ 6 → ∀ n ∈ jbT x i, n < 128 := by
    intro i
    induction i with
    | zero => exact fun _ => hg 4 (by omega)
    | succ i ih =>
      intro hi n hn
      simp only [jbT, List.mem_append, List.mem_singleton] at hn
      rcases hn with ((((hn | hn) | hn) | hn) | hn) | hn
      · exact ih (by omega) n hn
      · omega
      · exact d i (by omega) n hn
      · omega
      · exact d _ (jc_lt x i) n hn
      · omega
  intro n hn
  have h1 := jb_lt x 12 3
  have h2 := jb_lt x 15 4
  simp only [jeT, List.mem_append, List.mem_cons, List.not_mem_nil, or_false] at hn
  rcases hn with ((((hn | hn) | hn) | hn) | hn) | hn
  · exact hb 6 (by omega) n hn
  · omega
  · exact d _ (by omega) n hn
  · omega
  · exact d _ (by omega) n hn
  · exact hS n hn
