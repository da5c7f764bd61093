/-! MODEL 1: what the reference answers of its store -/
def gb_MM (σ : gb_M) (s : gb_St) : Prop := gb_RM (σ.1 37 0) 0 s ∧ gb_IV s
section M1
variable {σ : gb_M} {s : gb_St} {b : Nat}
theorem lM_s {s : gb_St} (io : iO s) {L : List gb_Ly} {g : Nat} (hg : g < 6) : lM s L g g = 0 := by
  unfold lM
  rw [(io g g hg hg).2.2.2]
  simp
end M1
