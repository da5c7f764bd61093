/-! READ: orders, by the reference -/
abbrev rlX : gb_M → gb_M → Prop := gb_fX (fun k => k = 47 ∨ k = 48) (fun x => x = 17 ∨ x = 18 ∨ x = 25)
def rdM (σ : gb_M) (T : List Int) (x : Option (List (Nat × Int)) × Nat) : Prop := match x.1 with
  | none => mF σ x.2
  | some O => σ.1 36 0 18 = -1 ∧ ordM σ O
theorem rl_w {σ σ' : gb_M} (h : rdX σ σ') : rlX σ σ' := fX_w h.1 (fun k hk => hk.elim) (fun x hx => by omega)
section RL
variable {T : List Int}
end RL