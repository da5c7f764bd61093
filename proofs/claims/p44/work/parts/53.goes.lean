/-! GOES: the reference -/
section GOES
variable {σ : gb_M} {s : gb_St} {b : Nat}
/-- one layer, or a part of it, is told as gone -/
def gTold (σ : gb_M) (m : Nat) (u : Int) (l : gb_Ly) (n : Int) : gb_M := gb_si (gb_si (gb_si (gb_si (gb_si σ 36 0 15 (nZ u)) 43 0 m (nZ l.1)) 44 0 m (nZ n)) 45 0 m (nZ l.2.2)) 36 0 14 (nZ (m + 1))
theorem gTold_f {m : Nat} {u : Int} {l : gb_Ly} {n : Int} : gb_fP (fun k => k = 36 ∨ (43 ≤ k ∧ k ≤ 45)) σ (gTold σ m u l n) := fP_si (fP_si (fP_si (fP_si (fP_si fP_rf (by omega)) (by omega)) (by omega)) (by omega)) (by omega)
end GOES
