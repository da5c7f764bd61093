/-! ROOM, TAKERS -/
def rmF (s : gb_St) (g b : Nat) (a : Int × Int) : Int × Int := if a.1 < sC s b - lT (sB s b) ∧ sWhy s b g (sC s b - lT (sB s b)) (sY s) = 0 then (sC s b - lT (sB s b), (b : Int)) else a
def rmP (a : Int × Int) : Prop := 0 ≤ a.1 ∧ a.1 ≤ 99 ∧ -1 ≤ a.2 ∧ a.2 < 6
theorem rmF_P {s : gb_St} (hI : gb_IV s) {g b : Nat} (hb : b < 6) {a : Int × Int} (h : rmP a) : rmP (rmF s g b a) := by
  have h1 := hI.2.2.2.1 b hb
  have h2 := lG_r hI.2.2.2.2.2.1 hb 0
  obtain ⟨p1, p2, p3, p4⟩ := h
  unfold rmF
  split
  · refine ⟨?_, ?_, ?_, ?_⟩ <;> dsimp only <;> omega
  · exact ⟨p1, p2, p3, p4⟩
def tkF (s : gb_St) (g : Nat) (t : Int) (b : Nat) (a : Int32 × Int) : Int32 × Int := if sWhy s b g t (sY s) = 0 then (a.1 ||| (1 <<< (nZ b &&& 31)), a.2 + 1) else a
def tkG (s : gb_St) (t : Int) (g : Nat) (a : Int32) : Int32 := (it 6 (a, 0) (tkF s g t)).1
def tkB (s : gb_St) (t : Int) (g : Nat) : Int32 := it g 0 (tkG s t)
def tkN (s : gb_St) (t : Int) (g : Nat) : Int := (it 6 (tkB s t g, 0) (tkF s g t)).2