/-! REL: what a store holds, as the class keeps it and as the reference does -/
abbrev gb_St : Type := (Nat → Int) × (Nat → List gb_Ly)
def sW (s : gb_St) (g : Nat) : Int := s.1 g
def sK (s : gb_St) (g : Nat) : Int := s.1 (6 + g)
def sO (s : gb_St) (g h : Nat) : Int := s.1 (12 + (6 * g + h))
def sC (s : gb_St) (b : Nat) : Int := s.1 (48 + b)
def sP (s : gb_St) (b : Nat) : Int := s.1 (54 + b)
def sY (s : gb_St) : Int := s.1 174
def sQ (s : gb_St) : Int := s.1 175
def sB (s : gb_St) (b : Nat) : List gb_Ly := s.2 b
def lT (L : List gb_Ly) : Int := sL (fun l => l.2.1) L
def lG (L : List gb_Ly) (g : Nat) : Int := sL (fun l => if l.1 = g then l.2.1 else 0) L
def sU (s : gb_St) (on : Int) (l : gb_Ly) : Int := max 0 (sW s l.1 - max 0 (on - l.2.2 - sK s l.1))
def lR (s : gb_St) (on : Int) (L : List gb_Ly) : Int := sL (fun l => l.2.1 * sU s on l) L
def iW (s : gb_St) : Prop := ∀ g, g < 6 → 0 ≤ sW s g ∧ sW s g ≤ 999
def iK (s : gb_St) : Prop := ∀ g, g < 6 → 0 ≤ sK s g ∧ sK s g ≤ 99
def iO (s : gb_St) : Prop := ∀ g h, g < 6 → h < 6 → -1 ≤ sO s g h ∧ sO s g h ≤ 99 ∧ sO s g h = sO s h g ∧ sO s g g = 0
def iC (s : gb_St) : Prop := ∀ b, b < 6 → 0 ≤ sC s b ∧ sC s b ≤ 99
def iP (s : gb_St) : Prop := ∀ b, b < 6 → 0 ≤ sP s b ∧ sP s b ≤ 10019
def okL (l : gb_Ly) : Prop := l.1 < 6 ∧ 1 ≤ l.2.1 ∧ l.2.1 ≤ 99 ∧ 0 ≤ l.2.2 ∧ l.2.2 ≤ 10019
def iL (s : gb_St) : Prop := ∀ b, b < 6 → (sB s b).length ≤ 6 ∧ lT (sB s b) ≤ 99 ∧ ∀ l ∈ sB s b, okL l
def iD (s : gb_St) : Prop := 0 ≤ sY s ∧ sY s ≤ 9999 ∧ 0 ≤ sQ s ∧ sQ s ≤ 2000000000
def gb_IV (s : gb_St) : Prop := iW s ∧ iK s ∧ iO s ∧ iC s ∧ iP s ∧ iL s ∧ iD s
def bm (n : Nat) (P : Nat → Bool) : Int32 := match n with
  | 0 => 0
  | n + 1 => match P n with
    | true => (bm n P) ||| ((1 : Int32) <<< (nZ n &&& 31))
    | false => bm n P
/-- store j of the class, under its rules -/
def gb_RS (σ : gb_M) (j : Nat) (s : gb_St) : Prop :=
  (∀ g : Nat, g < 6 → σ.1 11 j g = nZ (sW s g)) ∧ (∀ b : Nat, b < 6 → σ.1 12 j b = nZ (sP s b)) ∧ (∀ b : Nat, b < 6 → σ.1 13 j b = nZ (sB s b).length) ∧ (∀ b : Nat, b < 6 → σ.1 14 j b = nZ (lT (sB s b))) ∧
  (∀ b i : Nat, b < 6 → i < (sB s b).length → σ.1 15 j ((b : Int) * 6 + (i : Int)).toNat = nZ (lz (sB s b) i).1 ∧ σ.1 16 j ((b : Int) * 6 + (i : Int)).toNat = nZ (lz (sB s b) i).2.1 ∧ σ.1 17 j ((b : Int) * 6 + (i : Int)).toNat = nZ (lz (sB s b) i).2.2) ∧
  (∀ b g : Nat, b < 6 → g < 6 → σ.1 18 j ((b : Int) * 6 + (g : Int)).toNat = nZ (lG (sB s b) g)) ∧ σ.1 10 j 9 = nZ (sY s) ∧ σ.1 10 j 10 = nZ (sQ s)
def gb_RR (σ : gb_M) (r : Nat) (s : gb_St) : Prop :=
  (∀ g : Nat, g < 6 → σ.1 5 r g = nZ (sK s g)) ∧ (∀ b : Nat, b < 6 → σ.1 6 r b = nZ (sC s b)) ∧ (∀ g h : Nat, g < 6 → h < 6 → σ.1 7 r ((g : Int) * 6 + (h : Int)).toNat = nZ (max 0 (sO s g h))) ∧ (∀ g : Nat, g < 6 → σ.1 8 r g = bm 6 (fun h => decide (sO s g h < 0)))
/-- the reference's store: 176 numbers of an array, from a place on -/
def gb_RM (f : Nat → Int32) (o : Nat) (s : gb_St) : Prop :=
  (∀ g : Nat, g < 6 → f (o + g) = nZ (sW s g)) ∧ (∀ g : Nat, g < 6 → f (o + (6 + (g : Int)).toNat) = nZ (sK s g)) ∧ (∀ g h : Nat, g < 6 → h < 6 → f (o + (12 + 6 * (g : Int) + (h : Int)).toNat) = nZ (sO s g h)) ∧ (∀ b : Nat, b < 6 → f (o + (48 + (b : Int)).toNat) = nZ (sC s b)) ∧ (∀ b : Nat, b < 6 → f (o + (54 + (b : Int)).toNat) = nZ (sP s b)) ∧
  (∀ b : Nat, b < 6 → f (o + (60 + (b : Int)).toNat) = nZ (sB s b).length) ∧ (∀ b i : Nat, b < 6 → i < (sB s b).length → f (o + (66 + 18 * (b : Int) + 3 * (i : Int) + 0).toNat) = nZ (lz (sB s b) i).1 ∧ f (o + (66 + 18 * (b : Int) + 3 * (i : Int) + 1).toNat) = nZ (lz (sB s b) i).2.1 ∧ f (o + (66 + 18 * (b : Int) + 3 * (i : Int) + 2).toNat) = nZ (lz (sB s b) i).2.2) ∧
  f (o + 174) = nZ (sY s) ∧ f (o + 175) = nZ (sQ s)
theorem lz_ok {s : gb_St} {b i : Nat} (h : iL s) (hb : b < 6) (hi : i < (sB s b).length) : okL (lz (sB s b) i) := (h b hb).2.2 _ (lz_mem hi)
theorem sU_r {s : gb_St} {on : Int} {l : gb_Ly} (hw : iW s) (hl : okL l) : 0 ≤ sU s on l ∧ sU s on l ≤ 999 := by
  have := hw l.1 hl.1
  unfold sU
  omega
section C1
variable {σ : gb_M} {j : Nat} {s : gb_St}
theorem p_place (b i : Nat) : f_X7_place [gI (nZ b), gI (nZ i)] σ = some (some (gI (nZ ((b : Int) * 6 + (i : Int)))), σ) := by
  rw [e_X7_place]
  simp only [z6, z_mul, z_add]
theorem p_unit (hS : gb_RS σ j s) (hR : gb_RR σ 0 s) (hI : gb_IV s) {b i : Nat} (hb : b < 6) (hi : i < (sB s b).length) {on : Int} (ho : 0 ≤ on ∧ on ≤ 11000) : f_X7_unit [gR 10 j, gI (nZ ((b : Int) * 6 + (i : Int))), gI (nZ on)] σ = some (some (gI (nZ (sU s on (lz (sB s b) i)))), σ) := by
  obtain ⟨h1, h2, h3, h4, h5, h6, h7, h8⟩ := hS
  obtain ⟨r1, r2, r3, r4⟩ := hR
  have hl := lz_ok hI.2.2.2.2.2.1 hb hi
  have hlen := (hI.2.2.2.2.2.1 b hb).1
  obtain ⟨g1, g2, g3⟩ := h5 b i hb hi
  generalize lz (sB s b) i = l at hl g1 g2 g3 ⊢
  obtain ⟨l1, l2, l3, l4, l5⟩ := hl
  have hw := hI.1 l.1 l1
  have hk := hI.2.1 l.1 l1
  rw [e_X7_unit]
  simp (disch := omega) only [z0, z_tn, g1, g2, g3, g_in, Int.toNat_natCast, h1, r1, z_sub, z_max]
  rfl
end C1
