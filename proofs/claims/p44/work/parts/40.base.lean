/-! BASE: numbers, loops, sums -/
def nZ (z : Int) : Int32 := Int32.ofInt z
abbrev rZ (z : Int) : Prop := -2147483648 ≤ z ∧ z < 2147483648
theorem nZ_ti {z : Int} (h : rZ z) : (nZ z).toInt = z := Int32.toInt_ofInt_of_le h.1 h.2
theorem nZ_of (x : Int32) : x = nZ x.toInt := (Int32.ofInt_toInt x).symm
theorem nZ_rz (x : Int32) : rZ x.toInt := ⟨x.le_toInt, x.toInt_lt⟩
theorem z_add (a b : Int) : nZ a + nZ b = nZ (a + b) := (Int32.ofInt_add a b).symm
theorem z_sub (a b : Int) : nZ a - nZ b = nZ (a - b) := (Int32.ofInt_sub a b).symm
theorem z_mul (a b : Int) : nZ a * nZ b = nZ (a * b) := (Int32.ofInt_mul a b).symm
theorem z_neg (a : Int) : -nZ a = nZ (-a) := (Int32.ofInt_neg a).symm
theorem z_le {a b : Int} (ha : rZ a) (hb : rZ b) : (nZ a ≤ nZ b) = (a ≤ b) := by rw [Int32.le_iff_toInt_le, nZ_ti ha, nZ_ti hb]
theorem z_lt {a b : Int} (ha : rZ a) (hb : rZ b) : (nZ a < nZ b) = (a < b) := by rw [Int32.lt_iff_toInt_lt, nZ_ti ha, nZ_ti hb]
theorem z_eq {a b : Int} (ha : rZ a) (hb : rZ b) : (nZ a = nZ b) = (a = b) := by rw [← Int32.toInt_inj, nZ_ti ha, nZ_ti hb]
theorem z_inj {a b : Int} (ha : rZ a) (hb : rZ b) (h : nZ a = nZ b) : a = b := by rwa [z_eq ha hb] at h
theorem z_max {a b : Int} (ha : rZ a) (hb : rZ b) : (if nZ a < nZ b then nZ b else nZ a) = nZ (max a b) := by
  by_cases h : nZ a < nZ b
  · rw [if_pos h]
    rw [z_lt ha hb] at h
    rw [Int.max_eq_right (by omega)]
  · rw [if_neg h]
    rw [z_lt ha hb] at h
    rw [Int.max_eq_left (by omega)]
theorem z_min {a b : Int} (ha : rZ a) (hb : rZ b) : (if nZ b < nZ a then nZ b else nZ a) = nZ (min a b) := by
  by_cases h : nZ b < nZ a
  · rw [if_pos h]
    rw [z_lt hb ha] at h
    rw [Int.min_eq_right (by omega)]
  · rw [if_neg h]
    rw [z_lt hb ha] at h
    rw [Int.min_eq_left (by omega)]
theorem z_mx {a b : Int} {inst : Decidable (a < b)} : @ite Int32 (a < b) inst (nZ b) (nZ a) = nZ (max a b) := by
  by_cases h : a < b
  · rw [if_pos h, Int.max_eq_right (by omega)]
  · rw [if_neg h, Int.max_eq_left (by omega)]
theorem z_mn {a b : Int} {inst : Decidable (b < a)} : @ite Int32 (b < a) inst (nZ b) (nZ a) = nZ (min a b) := by
  by_cases h : b < a
  · rw [if_pos h, Int.min_eq_right (by omega)]
  · rw [if_neg h, Int.min_eq_left (by omega)]
theorem z_tn {z : Int} (h : 0 ≤ z ∧ z < 2147483648) : (nZ z).toNatClampNeg = z.toNat := by
  show (nZ z).toInt.toNat = _
  rw [nZ_ti ⟨by omega, h.2⟩]
theorem z_in {z : Int} {n : Nat} (h : 0 ≤ z ∧ z < 2147483648 ∧ z < n) : gb_in (nZ z) n = true := by
  unfold gb_in
  rw [z_tn ⟨h.1, h.2.1⟩]
  have h0 : ¬ nZ z < 0 := by
    rw [show (0 : Int32) = nZ 0 from rfl, z_lt ⟨by omega, by omega⟩ ⟨by omega, by omega⟩]
    omega
  have h1 : ¬ n ≤ z.toNat := by omega
  have h2 : Nat.ble n z.toNat = false := by
    cases hb : Nat.ble n z.toNat with
    | false => rfl
    | true => exact absurd (Nat.le_of_ble_eq_true hb) h1
  rw [h2, decide_eq_false h0]
  rfl
theorem z_ino {z : Int} {n : Nat} (hz : rZ z) (h : z < 0 ∨ (n : Int) ≤ z) : gb_in (nZ z) n = false := by
  unfold gb_in
  rcases h with h | h
  · have h0 : nZ z < 0 := by
      rw [show (0 : Int32) = nZ 0 from rfl, z_lt hz ⟨by omega, by omega⟩]
      exact h
    rw [decide_eq_true h0]
    rfl
  · have h1 : n ≤ (nZ z).toNatClampNeg := by
      by_cases h0 : 0 ≤ z
      · rw [z_tn ⟨h0, hz.2⟩]; omega
      · omega
    rw [Nat.ble_eq_true_of_le h1]
    simp
theorem g_gd {b : Bool} {f : gb_R} (h : b = true) : gb_gd b f = f := by rw [h]; rfl
theorem g_in {z : Int} {n : Nat} {f : gb_R} (h : 0 ≤ z ∧ z < 2147483648 ∧ z < n) : gb_gd (gb_in (nZ z) n) f = f := g_gd (z_in h)
theorem g_b0 {σ : gb_M} {f : gb_M → gb_R} : gb_b0 (some (none, σ)) f = f σ := rfl
theorem g_b1 {x : Int32} {σ : gb_M} {f : Int32 → gb_M → gb_R} : gb_b1 (some (some (gI x), σ)) f = f x σ := rfl
theorem g_b3 {x : Int64} {σ : gb_M} {f : Int64 → gb_M → gb_R} : gb_b3 (some (some (gL x), σ)) f = f x σ := rfl
theorem i_p {α : Type} {c : Prop} {a b : α} (h : c) : ∀ (inst : Decidable c), @ite α c inst a b = a := fun _ => if_pos h
theorem z0 : (0 : Int32) = nZ 0 := rfl
theorem z1 : (1 : Int32) = nZ 1 := rfl
theorem z2 : (2 : Int32) = nZ 2 := rfl
theorem z3 : (3 : Int32) = nZ 3 := rfl
theorem z4 : (4 : Int32) = nZ 4 := rfl
theorem z5 : (5 : Int32) = nZ 5 := rfl
theorem z6 : (6 : Int32) = nZ 6 := rfl
theorem z8 : (8 : Int32) = nZ 8 := rfl
theorem z10 : (10 : Int32) = nZ 10 := rfl
theorem z12 : (12 : Int32) = nZ 12 := rfl
theorem z18 : (18 : Int32) = nZ 18 := rfl
theorem z20 : (20 : Int32) = nZ 20 := rfl
theorem z36 : (36 : Int32) = nZ 36 := rfl
theorem z48 : (48 : Int32) = nZ 48 := rfl
theorem z54 : (54 : Int32) = nZ 54 := rfl
theorem z60 : (60 : Int32) = nZ 60 := rfl
theorem z66 : (66 : Int32) = nZ 66 := rfl
theorem z99 : (99 : Int32) = nZ 99 := rfl
theorem z174 : (174 : Int32) = nZ 174 := rfl
theorem z175 : (175 : Int32) = nZ 175 := rfl
theorem z176 : (176 : Int32) = nZ 176 := rfl
theorem z999 : (999 : Int32) = nZ 999 := rfl
theorem zm1 : (-1 : Int32) = nZ (-1) := rfl
theorem zm2 : (-2 : Int32) = nZ (-2) := rfl
theorem zm3 : (-3 : Int32) = nZ (-3) := rfl
theorem zm4 : (-4 : Int32) = nZ (-4) := rfl
theorem zm5 : (-5 : Int32) = nZ (-5) := rfl
theorem zm6 : (-6 : Int32) = nZ (-6) := rfl
/-! loops -/
theorem lp {n : Nat} (J : Nat → gb_R) (h : ∀ i, i < n → J i = J (i + 1)) : J 0 = J n := by
  have : ∀ k, k ≤ n → J 0 = J k := by
    intro k
    induction k with
    | zero => intro _; rfl
    | succ k ih => intro hk; rw [ih (by omega), h k (by omega)]
  exact this n (Nat.le_refl n)
theorem lp_ex {n : Nat} (J : Nat → gb_R) (P : Nat → Prop) (h : ∀ i, i < n → ¬ P i → J i = J (i + 1)) : ∃ k, k ≤ n ∧ (∀ i, i < k → ¬ P i) ∧ J 0 = J k ∧ (k = n ∨ (k < n ∧ P k)) := by
  classical
  have : ∀ k, k ≤ n → (∃ m, m < k ∧ (∀ i, i < m → ¬ P i) ∧ J 0 = J m ∧ P m) ∨ ((∀ i, i < k → ¬ P i) ∧ J 0 = J k) := by
    intro k
    induction k with
    | zero => intro _; exact Or.inr ⟨fun i hi => by omega, rfl⟩
    | succ k ih =>
      intro hk
      rcases ih (by omega) with ⟨m, h1, h2, h3, h4⟩ | ⟨h1, h2⟩
      · exact Or.inl ⟨m, by omega, h2, h3, h4⟩
      · by_cases hp : P k
        · exact Or.inl ⟨k, by omega, h1, h2, hp⟩
        · refine Or.inr ⟨fun i hi => ?_, by rw [h2, h k (by omega) hp]⟩
          by_cases hik : i = k
          · subst hik; exact hp
          · exact h1 i (by omega)
  rcases this n (Nat.le_refl n) with ⟨m, h1, h2, h3, h4⟩ | ⟨h1, h2⟩
  · exact ⟨m, by omega, h2, h3, Or.inr ⟨h1, h4⟩⟩
  · exact ⟨n, Nat.le_refl n, h1, h2, Or.inl rfl⟩
/-! sums -/
def sm (n : Nat) (f : Nat → Int) : Int := match n with
  | 0 => 0
  | n + 1 => sm n f + f n
theorem sm_0 (f : Nat → Int) : sm 0 f = 0 := rfl
theorem sm_s (n : Nat) (f : Nat → Int) : sm (n + 1) f = sm n f + f n := rfl
theorem sm_c {n : Nat} {f g : Nat → Int} (h : ∀ i, i < n → f i = g i) : sm n f = sm n g := by
  induction n with
  | zero => rfl
  | succ n ih => rw [sm_s, sm_s, ih (fun i hi => h i (by omega)), h n (by omega)]
theorem sm_le {n : Nat} {f g : Nat → Int} (h : ∀ i, i < n → f i ≤ g i) : sm n f ≤ sm n g := by
  induction n with
  | zero => exact Int.le_refl _
  | succ n ih =>
    have h1 := ih (fun i hi => h i (by omega))
    have h2 := h n (by omega)
    rw [sm_s, sm_s]; omega
theorem sm_nn {n : Nat} {f : Nat → Int} (h : ∀ i, i < n → 0 ≤ f i) : 0 ≤ sm n f := by
  induction n with
  | zero => exact Int.le_refl _
  | succ n ih =>
    have h1 := ih (fun i hi => h i (by omega))
    have h2 := h n (by omega)
    rw [sm_s]; omega
theorem sm_ub {n : Nat} {f : Nat → Int} {c : Int} (h : ∀ i, i < n → f i ≤ c) : sm n f ≤ n * c := by
  induction n with
  | zero => simp [sm]
  | succ n ih =>
    have h1 := ih (fun i hi => h i (by omega))
    have h2 := h n (by omega)
    have h3 : ((n + 1 : Nat) : Int) * c = n * c + c := by rw [Int.natCast_add, Int.add_mul]; simp
    rw [sm_s, h3]; omega
theorem sm_add (n : Nat) (f g : Nat → Int) : sm n (fun i => f i + g i) = sm n f + sm n g := by
  induction n with
  | zero => rfl
  | succ n ih => rw [sm_s, sm_s, sm_s, ih]; omega
theorem sm_sub (n : Nat) (f g : Nat → Int) : sm n (fun i => f i - g i) = sm n f - sm n g := by
  induction n with
  | zero => rfl
  | succ n ih => rw [sm_s, sm_s, sm_s, ih]; omega
theorem sm_1 {n k : Nat} {f g : Nat → Int} (hk : k < n) (h : ∀ i, i < n → i ≠ k → f i = g i) : sm n f - f k = sm n g - g k := by
  induction n with
  | zero => omega
  | succ n ih =>
    rw [sm_s, sm_s]
    by_cases hn : k = n
    · subst hn
      rw [sm_c (fun i hi => h i (by omega) (by omega))]; omega
    · have h1 := ih (by omega) (fun i hi => h i (by omega))
      have h2 := h n (by omega) (fun e => hn e.symm)
      omega
theorem sm_get {n k : Nat} {f : Nat → Int} (hk : k < n) (h : ∀ i, i < n → 0 ≤ f i) : f k ≤ sm n f := by
  induction n with
  | zero => omega
  | succ n ih =>
    rw [sm_s]
    have h2 := sm_nn (n := n) (f := f) (fun i hi => h i (by omega))
    have h3 := h n (by omega)
    by_cases hn : k = n
    · subst hn; omega
    · have h1 := ih (by omega) (fun i hi => h i (by omega))
      omega
/-! layers: grade, tons, since -/
abbrev gb_Ly : Type := Nat × Int × Int
def lz (L : List gb_Ly) (i : Nat) : gb_Ly := L.getD i (0, 0, 0)
def sL (f : gb_Ly → Int) (L : List gb_Ly) : Int := match L with
  | [] => 0
  | l :: t => f l + sL f t
theorem sL_app (f : gb_Ly → Int) : ∀ (A B : List gb_Ly), sL f (A ++ B) = sL f A + sL f B
  | [], B => by simp [sL]
  | l :: t, B => by
    have := sL_app f t B
    simp only [List.cons_append, sL]; omega
theorem lz_take {L : List gb_Ly} {i : Nat} (h : i < L.length) : L.take (i + 1) = L.take i ++ [lz L i] := by
  rw [List.take_succ, List.getElem?_eq_getElem h]
  simp [lz, List.getD, h]
theorem sL_take {f : gb_Ly → Int} {L : List gb_Ly} {i : Nat} (h : i < L.length) : sL f (L.take (i + 1)) = sL f (L.take i) + f (lz L i) := by
  rw [lz_take h, sL_app]
  simp [sL]
theorem sL_all {f : gb_Ly → Int} {L : List gb_Ly} : sL f (L.take L.length) = sL f L := by rw [List.take_length]
theorem sL_sm (f : gb_Ly → Int) (L : List gb_Ly) : sL f L = sm L.length (fun i => f (lz L i)) := by
  have : ∀ k, k ≤ L.length → sL f (L.take k) = sm k (fun i => f (lz L i)) := by
    intro k
    induction k with
    | zero => intro _; rfl
    | succ k ih => intro hk; rw [sL_take (by omega), sm_s, ih (by omega)]
  rw [← this L.length (Nat.le_refl _), sL_all]
theorem lz_mem {L : List gb_Ly} {i : Nat} (h : i < L.length) : lz L i ∈ L := by
  simp [lz, List.getD, h]
theorem lz_of_mem {L : List gb_Ly} {l : gb_Ly} (h : l ∈ L) : ∃ i, i < L.length ∧ lz L i = l := by
  obtain ⟨i, hi, e⟩ := List.getElem_of_mem h
  exact ⟨i, hi, by simp [lz, List.getD, hi, e]⟩
theorem sL_c {f g : gb_Ly → Int} : ∀ {L : List gb_Ly}, (∀ l ∈ L, f l = g l) → sL f L = sL g L
  | [], _ => rfl
  | l :: t, h => by
    simp only [sL]
    rw [h l List.mem_cons_self, sL_c (fun x hx => h x (List.mem_cons_of_mem _ hx))]
theorem sL_nn {f : gb_Ly → Int} : ∀ {L : List gb_Ly}, (∀ l ∈ L, 0 ≤ f l) → 0 ≤ sL f L
  | [], _ => Int.le_refl _
  | l :: t, h => by
    have h1 := h l List.mem_cons_self
    have h2 := sL_nn (f := f) (L := t) (fun x hx => h x (List.mem_cons_of_mem _ hx))
    simp only [sL]; omega
theorem sL_le {f g : gb_Ly → Int} : ∀ {L : List gb_Ly}, (∀ l ∈ L, f l ≤ g l) → sL f L ≤ sL g L
  | [], _ => Int.le_refl _
  | l :: t, h => by
    have h1 := h l List.mem_cons_self
    have h2 := sL_le (f := f) (g := g) (L := t) (fun x hx => h x (List.mem_cons_of_mem _ hx))
    simp only [sL]; omega
