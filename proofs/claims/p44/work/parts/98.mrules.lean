/-! LAND: the rules, as the reference reads them -/
def pt (v : Int64) (k : Nat) : Bool := v.toBitVec.getLsbD k
theorem sh_k : ∀ k : Fin 36, ((nZ (k.val : Int)).toInt64 &&& 63).toBitVec.smod 64#64 = BitVec.ofNat 64 k.val := by decide +kernel
theorem sh_1 : ∀ k j : Fin 36, ((1 : Int64) <<< ((nZ (k.val : Int)).toInt64 &&& 63)).toBitVec.getLsbD j.val = decide (j.val = k.val) := by decide +kernel
theorem pt_or {v : Int64} {k j : Nat} (hk : k < 36) (hj : j < 36) : pt (v ||| (1 <<< ((nZ (k : Int)).toInt64 &&& 63))) j = (pt v j || decide (j = k)) := by
  unfold pt
  rw [Int64.toBitVec_or, BitVec.getLsbD_or]
  exact congrArg (fun z => v.toBitVec.getLsbD j || z) (sh_1 ⟨k, hk⟩ ⟨j, hj⟩)
theorem pt_sh {v : Int64} {k : Nat} (hk : k < 36) : (v >>> ((nZ (k : Int)).toInt64 &&& 63)).toBitVec.getLsbD 0 = pt v k := by
  have this : ((nZ (k : Int)).toInt64 &&& 63).toBitVec.smod 64 = BitVec.ofNat 64 k := sh_k ⟨k, hk⟩
  rw [Int64.toBitVec_shiftRight, this]
  show (v.toBitVec.sshiftRight (BitVec.ofNat 64 k).toNat).getLsbD 0 = _
  rw [BitVec.getLsbD_sshiftRight, BitVec.toNat_ofNat]
  have : k % 2 ^ 64 = k := by omega
  rw [this]
  have h2 : k + 0 < 64 := by omega
  simp [pt, h2]
  intro z
  omega
theorem and_1 (x : Int64) : (x &&& 1 = 1) = (x.toBitVec.getLsbD 0 = true) := by
  rw [← Int64.toBitVec_inj, Int64.toBitVec_and]
  show (x.toBitVec &&& 1#64 = 1#64) = _
  rw [BitVec.and_one_eq_setWidth_ofBool_getLsbD]
  cases x.toBitVec.getLsbD 0 <;> decide
theorem B6_sh : ∀ a0 a1 a2 a3 a4 a5 : Bool, ∀ g : Fin 6, decide ((B6 a0 a1 a2 a3 a4 a5 >>> (nZ (g.val : Int) &&& 31)) &&& 1 = 1) = (match g.val with | 0 => a0 | 1 => a1 | 2 => a2 | 3 => a3 | 4 => a4 | _ => a5) := by decide +kernel
theorem bm_sh (P : Nat → Bool) {g : Nat} (hg : g < 6) : ((bm 6 P >>> (nZ g &&& 31)) &&& 1 = 1) = (P g = true) := by
  rw [bm_B6]
  have key : ∀ (b : Bool) (X : Prop) [Decidable X], decide X = b → X = (b = true) := fun b X _ h => by
    apply propext
    constructor
    · intro z; rw [← h]; exact decide_eq_true z
    · intro z; rw [z] at h; exact of_decide_eq_true h
  have : g = 0 ∨ g = 1 ∨ g = 2 ∨ g = 3 ∨ g = 4 ∨ g = 5 := by omega
  rcases this with rfl | rfl | rfl | rfl | rfl | rfl
  · exact key _ _ (B6_sh (P 0) (P 1) (P 2) (P 3) (P 4) (P 5) ⟨0, hg⟩)
  · exact key _ _ (B6_sh (P 0) (P 1) (P 2) (P 3) (P 4) (P 5) ⟨1, hg⟩)
  · exact key _ _ (B6_sh (P 0) (P 1) (P 2) (P 3) (P 4) (P 5) ⟨2, hg⟩)
  · exact key _ _ (B6_sh (P 0) (P 1) (P 2) (P 3) (P 4) (P 5) ⟨3, hg⟩)
  · exact key _ _ (B6_sh (P 0) (P 1) (P 2) (P 3) (P 4) (P 5) ⟨4, hg⟩)
  · exact key _ _ (B6_sh (P 0) (P 1) (P 2) (P 3) (P 4) (P 5) ⟨5, hg⟩)
