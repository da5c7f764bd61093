/-! FUMES, TURN -/
theorem setB_P {s : gb_St} {b : Nat} {v : Int} : sB (setP s b v) b = sB s b := rfl
section FUM
variable {σ : gb_M} {s : gb_St} {b : Nat}
end FUM