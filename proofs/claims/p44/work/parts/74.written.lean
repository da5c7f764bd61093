/-! WRITTEN -/
def wN (t : Int) : List Int := if t < 10 then [48 + ((t.toNat % 10 : Nat) : Int)] else [48 + ((t.toNat / 10 : Nat) : Int)] ++ [48 + ((t.toNat % 10 : Nat) : Int)]
def wL (l : gb_Ly) : List Int := [48 + (l.1 : Int)] ++ [120] ++ wN l.2.1
def wM (L : List gb_Ly) (k : Nat) : List Int := it k [] (fun i a => a ++ [if i = 0 then 58 else 44] ++ wL (lz L i))
def wC (L : List gb_Ly) (k : Nat) : List Int := it k [58] (fun i a => (if i = 0 then a else a ++ [44]) ++ wL (lz L i))
theorem wCM {L : List gb_Ly} : ∀ k, wC L (k + 1) = wM L (k + 1)
  | 0 => rfl
  | k + 1 => by
    have ih := wCM (L := L) k
    show (if k + 1 = 0 then wC L (k + 1) else wC L (k + 1) ++ [44]) ++ wL (lz L (k + 1)) = wM L (k + 1) ++ [if k + 1 = 0 then 58 else 44] ++ wL (lz L (k + 1))
    rw [if_neg (by omega), if_neg (by omega), ih]
theorem wN_len {t : Int} : (wN t).length ≤ 2 := by
  unfold wN
  split <;> simp
theorem wL_len {l : gb_Ly} : (wL l).length ≤ 4 := by
  have := wN_len (t := l.2.1)
  unfold wL
  simp
  omega
theorem wM_len {L : List gb_Ly} : ∀ k, (wM L k).length ≤ 5 * k
  | 0 => by show 0 ≤ 0; omega
  | k + 1 => by
    have ih := wM_len (L := L) k
    have := wL_len (l := lz L k)
    show (wM L k ++ [if k = 0 then 58 else 44] ++ wL (lz L k)).length ≤ 5 * (k + 1)
    simp only [List.length_append, List.length_singleton]
    omega
theorem wC_len {L : List gb_Ly} : ∀ k, (wC L k).length ≤ 5 * k + 1
  | 0 => by show 1 ≤ 1; omega
  | k + 1 => by
    have := wM_len (L := L) (k + 1)
    rw [wCM]
    omega
def wH (b : Nat) (W : List Int) : List Int := (if W.length = 0 then W else W ++ [59]) ++ [48 + (b : Int)]
def wB (s : gb_St) (b : Nat) (W : List Int) : List Int := if (sB s b).length = 0 then W else wH b W ++ wM (sB s b) (sB s b).length
def wA' (s : gb_St) (k : Nat) : List Int := it k [] (wB s)
theorem wH_len {b : Nat} {W : List Int} : (wH b W).length ≤ W.length + 2 := by
  unfold wH
  split <;> simp
theorem wA'_len {s : gb_St} (il : iL s) : ∀ k, k ≤ 6 → (wA' s k).length ≤ 32 * k
  | 0, _ => by show 0 ≤ 0; omega
  | k + 1, hk => by
    have ih := wA'_len il k (by omega)
    have h6 := (il k (by omega)).1
    have h1 := wH_len (b := k) (W := wA' s k)
    have h2 := wM_len (L := sB s k) (sB s k).length
    show (wB s k (wA' s k)).length ≤ 32 * (k + 1)
    unfold wB
    split
    · omega
    · rw [List.length_append]; omega
theorem tens : ∀ t : Fin 100, nZ (t.val : Int) / 10 = nZ ((t.val / 10 : Nat) : Int) ∧ nZ (t.val : Int) - nZ (t.val : Int) / 10 * 10 = nZ ((t.val % 10 : Nat) : Int) := by decide +kernel
theorem tens' {t : Int} (h : 0 ≤ t ∧ t ≤ 99) : nZ t / 10 = nZ ((t.toNat / 10 : Nat) : Int) ∧ nZ t - nZ t / 10 * 10 = nZ ((t.toNat % 10 : Nat) : Int) := by
  have := tens ⟨t.toNat, by omega⟩
  dsimp only at this
  rwa [show ((t.toNat : Nat) : Int) = t by omega] at this
/-! the class's page -/
def pgC (σ : gb_M) (W : List Int) : Prop := σ.1 34 0 1 = nZ W.length ∧ ∀ i, i < W.length → σ.1 35 0 i = nZ (W.getD i 0)
def pgM (σ : gb_M) (W : List Int) : Prop := σ.1 36 0 37 = nZ W.length ∧ ∀ i, i < W.length → σ.1 53 0 i = nZ (W.getD i 0)
def QC (σ0 σ : gb_M) (A : gb_Ab) (W : List Int) : Prop := KC σ0 σ A ∧ pgC σ W
def QM (σ0 σ : gb_M) (A : gb_Ab) (W : List Int) : Prop := KM σ0 σ A ∧ pgM σ W
theorem z48' (x : Int) : (48 : Int32) + nZ x = nZ (48 + x) := by rw [z48, z_add]
theorem wN_1 {x : Nat} (h : x < 10) : wN (x : Int) = [48 + (x : Int)] := by
  unfold wN
  rw [if_pos (by omega), Int.toNat_natCast, Nat.mod_eq_of_lt h]