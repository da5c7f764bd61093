/-! WAYS to lay loads: plain -/
def lyS (s : gb_St) (b : Nat) (l : gb_Ly) : gb_St := setB s b (lay1 (sB s b) l.1 l.2.1 l.2.2)
def mlb (skip : Int) (s : gb_St) (b : Nat) (l : gb_Ly) : Bool := decide ((b : Int) ≠ skip ∧ sWhy s b l.1 l.2.1 l.2.2 = 0)
theorem mlb_t {skip : Int} {s : gb_St} {b : Nat} {l : gb_Ly} (h : mlb skip s b l = true) : (b : Int) ≠ skip ∧ sWhy s b l.1 l.2.1 l.2.2 = 0 := of_decide_eq_true h
theorem mlb_f {skip : Int} {s : gb_St} {b : Nat} {l : gb_Ly} (h : ¬ mlb skip s b l = true) : ¬ ((b : Int) ≠ skip ∧ sWhy s b l.1 l.2.1 l.2.2 = 0) := fun z => h (decide_eq_true z)
theorem it_id {n : Nat} {α : Type} {f : Nat → α → α} {a : α} (h : ∀ i, i < n → f i a = a) : it n a f = a := by
  induction n with
  | zero => rfl
  | succ n ih =>
    show f n (it n a f) = a
    rw [ih (fun i hi => h i (by omega)), h n (by omega)]
theorem it_cg {n : Nat} {α : Type} {f g : Nat → α → α} {a : α} (h : ∀ i, i < n → ∀ a, f i a = g i a) : it n a f = it n a g := by
  induction n with
  | zero => rfl
  | succ n ih =>
    show f n (it n a f) = g n (it n a g)
    rw [ih (fun i hi => h i (by omega)), h n (by omega)]
theorem IV_lyS {skip : Int} {s : gb_St} (hI : gb_IV s) {b : Nat} (hb : b < 6) {l : gb_Ly} (hl : okL l) (h : mlb skip s b l = true) : gb_IV (lyS s b l) := (IV_lay hI hb hl.1 hl.2.1 ⟨hl.2.2.2.1, hl.2.2.2.2⟩ (mlb_t h).2).1
def lc (skip : Int) : List gb_Ly → gb_St → List Nat → Int → Int × List Nat → Int × List Nat
  | [], _, way, gr, acc => if acc.1 ≤ gr then acc else (gr, way)
  | l :: ls, s, way, gr, acc => if acc.1 ≤ gr then acc else it 6 acc (fun b a => if mlb skip s b l = true then lc skip ls (lyS s b l) (way ++ [b]) (gr + gW s (sB s b) l.1 l.2.1) a else a)
def lcU (skip : Int) : List gb_Ly → gb_St → List Nat → Int → Int × List Nat → Int × List Nat
  | [], _, way, gr, acc => if acc.1 ≤ gr then acc else (gr, way)
  | l :: ls, s, way, gr, acc => it 6 acc (fun b a => if mlb skip s b l = true then lcU skip ls (lyS s b l) (way ++ [b]) (gr + gW s (sB s b) l.1 l.2.1) a else a)
theorem lcU_ge {skip : Int} : ∀ (ls : List gb_Ly) (s : gb_St) way gr acc, gb_IV s → (∀ l ∈ ls, okL l) → acc.1 ≤ gr → lcU skip ls s way gr acc = acc
  | [], s, way, gr, acc, hI, hl, h => if_pos h
  | l :: ls, s, way, gr, acc, hI, hl, h => by
    have hl0 := hl l List.mem_cons_self
    unfold lcU
    refine it_id (fun b hb => ?_)
    try dsimp only
    by_cases c : mlb skip s b l = true
    · rw [if_pos c]
      have := gW_r (t := l.2.1) hI hb hl0.1 (by have := hl0.2.1; omega)
      exact lcU_ge ls _ _ _ _ (IV_lyS hI hb hl0 c) (fun x hx => hl x (List.mem_cons_of_mem l hx)) (by omega)
    · rw [if_neg c]
theorem lc_U {skip : Int} : ∀ (ls : List gb_Ly) (s : gb_St) way gr acc, gb_IV s → (∀ l ∈ ls, okL l) → lc skip ls s way gr acc = lcU skip ls s way gr acc
  | [], s, way, gr, acc, hI, hl => rfl
  | l :: ls, s, way, gr, acc, hI, hl => by
    have hl0 := hl l List.mem_cons_self
    by_cases h : acc.1 ≤ gr
    · rw [lcU_ge _ _ _ _ _ hI hl h]
      exact if_pos h
    · unfold lc lcU
      rw [if_neg h]
      refine it_cg (fun b hb a => ?_)
      by_cases c : mlb skip s b l = true
      · rw [if_pos c, if_pos c]
        exact lc_U ls _ _ _ _ (IV_lyS hI hb hl0 c) (fun x hx => hl x (List.mem_cons_of_mem l hx))
      · rw [if_neg c, if_neg c]
/-- what may not lie at first, may not later -/
theorem ap_lay {s : gb_St} {L : List gb_Ly} {g k : Nat} {t d : Int} (h : ap s (lay1 L g t d) k = false) : ap s L k = false := by
  cases ha : ap s L k with
  | false => rfl
  | true =>
    obtain ⟨l, hl, hz⟩ := List.any_eq_true.mp ha
    have : ap s (lay1 L g t d) k = true := by
      unfold lay1
      cases ho : onB L g d with
      | true =>
        obtain ⟨o1, o2, o3⟩ := onB_t ho
        rw [if_pos rfl]
        rw [dl_app o1] at hl
        rcases List.mem_append.mp hl with hl | hl
        · exact List.any_eq_true.mpr ⟨l, List.mem_append_left _ hl, hz⟩
        · rw [List.mem_singleton.mp hl, o2] at hz
          exact List.any_eq_true.mpr ⟨_, List.mem_append_right _ (List.mem_singleton.mpr rfl), hz⟩
      | false =>
        rw [if_neg (by simp)]
        exact List.any_eq_true.mpr ⟨l, List.mem_append_left _ hl, hz⟩
    rw [this] at h
    cases h
theorem sWhyI {s : gb_St} {b g : Nat} {t d : Int} (h1 : ¬ sY s < sP s b) (h2 : lT (sB s b) + t ≤ sC s b) (h3 : ap s (sB s b) g = false) (h4 : onB (sB s b) g d = true ∨ (sB s b).length ≠ 6) : sWhy s b g t d = 0 := by
  unfold sWhy
  rw [if_neg h1, if_neg (by omega), if_neg (by rw [h3]; simp), if_neg (fun z => by
    rcases h4 with h4 | h4
    · rw [z.2] at h4; cases h4
    · exact h4 z.1)]
theorem why_mono {s : gb_St} {b k g : Nat} {t d : Int} {l : gb_Ly} (hl : okL l) (ha : sWhy s k l.1 l.2.1 l.2.2 = 0) (h : sWhy (lyS s k l) b g t d = 0) : sWhy s b g t d = 0 := by
  by_cases e : b = k
  · subst e
    obtain ⟨a1, a2, a3, a4⟩ := sWhyZ ha
    obtain ⟨h1, h2, h3, h4⟩ := sWhyZ h
    have eB : sB (lyS s b l) b = lay1 (sB s b) l.1 l.2.1 l.2.2 := sB_s
    rw [eB] at h2 h3 h4
    rw [lT_lay] at h2
    have hl1 := hl.2.1
    have h2' : lT (sB s b) + l.2.1 + t ≤ sC s b := h2
    refine sWhyI h1 (by omega) (ap_lay (s := s) h3) ?_
    by_cases c : (sB s b).length = 6
    · left
      have ho : onB (sB s b) l.1 l.2.2 = true := by
        rcases a4 with a4 | a4
        · exact a4
        · exact absurd c a4
      obtain ⟨o1, o2, o3⟩ := onB_t ho
      rcases h4 with h4 | h4
      · rw [onB_lay] at h4
        obtain ⟨e1, e2⟩ := of_decide_eq_true h4
        rw [← e1, ← e2]; exact ho
      · exfalso
        rw [lay1_len, if_pos ho] at h4
        exact h4 c
    · exact Or.inr c
  · have eB : sB (lyS s k l) b = sB s b := sB_n e
    obtain ⟨h1, h2, h3, h4⟩ := sWhyZ h
    rw [eB] at h2 h3 h4
    exact sWhyI h1 h2 h3 h4
def badL (skip : Int) (s : gb_St) (l : gb_Ly) : Prop := ∀ b, b < 6 → ¬ mlb skip s b l = true
theorem bad_mono {skip : Int} {s : gb_St} {k : Nat} {l x : gb_Ly} (hl : okL l) (ha : mlb skip s k l = true) (h : badL skip s x) : badL skip (lyS s k l) x := by
  intro b hb hc
  obtain ⟨c1, c2⟩ := mlb_t hc
  exact h b hb (decide_eq_true ⟨c1, why_mono hl (mlb_t ha).2 c2⟩)
theorem lcU_bad {skip : Int} : ∀ (ls : List gb_Ly) (s : gb_St) way gr acc, (∀ l ∈ ls, okL l) → (∃ x ∈ ls, badL skip s x) → lcU skip ls s way gr acc = acc
  | [], s, way, gr, acc, hl, ⟨x, hx, _⟩ => by cases hx
  | l :: ls, s, way, gr, acc, hl, ⟨x, hx, hb⟩ => by
    unfold lcU
    refine it_id (fun b hb6 => ?_)
    try dsimp only
    by_cases c : mlb skip s b l = true
    · rw [if_pos c]
      rcases List.mem_cons.mp hx with rfl | hx
      · exact absurd c (hb b hb6)
      · exact lcU_bad ls _ _ _ _ (fun y hy => hl y (List.mem_cons_of_mem l hy)) ⟨x, hx, bad_mono (hl l List.mem_cons_self) c hb⟩
    · rw [if_neg c]
/-! the most by VALUE of all -/
def ml : List gb_Ly → gb_St → List Nat → Option (Int × List Nat) → Option (Int × List Nat)
  | [], s, way, acc => match acc with
    | none => some (lA s (sY s), way)
    | some a => if a.1 < lA s (sY s) then some (lA s (sY s), way) else some a
  | l :: ls, s, way, acc => it 6 acc (fun b a => if mlb (-1) s b l = true then ml ls (lyS s b l) (way ++ [b]) a else a)
def RLw (K : Int) (a : Int × List Nat) (m : Option (Int × List Nat)) : Prop := match m with
  | none => a.1 = 1000000000
  | some x => a.2 = x.2 ∧ x.1 = K - a.1 ∧ 0 ≤ a.1 ∧ a.1 < 1000000000
theorem lA_lay {s : gb_St} (hI : gb_IV s) {b : Nat} (hb : b < 6) {l : gb_Ly} (hl : okL l) (hd : l.2.2 = sY s) : lA (lyS s b l) (sY s) = lA s (sY s) + gA s b l.1 l.2.1 := by
  have h1 := sm_1 (n := 6) (k := b) (f := fun k => lV (lyS s b l) (sY s) (sB (lyS s b l) k)) (g := fun k => lV s (sY s) (sB s k)) hb (fun k hk hne => by
    try dsimp only
    rw [show sB (lyS s b l) k = sB s k from sB_n hne]
    rfl)
  have h2 : lV (lyS s b l) (sY s) (sB (lyS s b l) b) = lV s (sY s) (sB s b) + gA s b l.1 l.2.1 := by
    rw [show sB (lyS s b l) b = lay1 (sB s b) l.1 l.2.1 l.2.2 from sB_s, hd]
    exact lV_lay hI hl.1
  try dsimp only at h1
  rw [h2] at h1
  unfold lA
  omega
theorem ml_rel {K : Int} : ∀ (ls : List gb_Ly) (s : gb_St) way (gr : Int) a m, gb_IV s → (∀ l ∈ ls, okL l ∧ l.2.2 = sY s) → 0 ≤ gr → gr + 58806 * ls.length ≤ 500000000 → K = lA s (sY s) + gr + lF s ls → RLw K a m → RLw K (lcU (-1) ls s way gr a) (ml ls s way m)
  | [], s, way, gr, a, m, hI, hl, hg, hb, hK, hR => by
    have e0 : lF s [] = 0 := rfl
    rw [e0] at hK
    have hb' : gr ≤ 500000000 := by simpa using hb
    unfold lcU ml
    cases m with
    | none =>
      have hR : a.1 = 1000000000 := hR
      rw [if_neg (by omega)]
      exact ⟨rfl, by dsimp only; omega, hg, by dsimp only; omega⟩
    | some x =>
      obtain ⟨r1, r2, r3, r4⟩ := hR
      try dsimp only
      by_cases c : a.1 ≤ gr
      · rw [if_pos c, if_neg (by omega)]
        exact ⟨r1, r2, r3, r4⟩
      · rw [if_neg c, if_pos (by omega)]
        exact ⟨rfl, by dsimp only; omega, hg, by dsimp only; omega⟩
  | l :: ls, s, way, gr, a, m, hI, hl, hg, hb, hK, hR => by
    obtain ⟨hl0, hd0⟩ := hl l List.mem_cons_self
    have e0 : lF s (l :: ls) = l.2.1 * sW s l.1 + lF s ls := rfl
    have hb' : gr + 58806 * ((ls.length : Int) + 1) ≤ 500000000 := by simpa using hb
    unfold lcU ml
    refine it_rel (RLw K) hR (fun b hb6 a m hR => ?_)
    by_cases c : mlb (-1) s b l = true
    · rw [if_pos c, if_pos c]
      have hw := gW_r (t := l.2.1) hI hb6 hl0.1 (by have := hl0.2.1; omega)
      refine ml_rel ls (lyS s b l) _ _ a m (IV_lyS hI hb6 hl0 c) (fun x hx => hl x (List.mem_cons_of_mem l hx)) (by omega) (by omega) ?_ hR
      have h1 := lA_lay hI hb6 hl0 hd0
      have h2 : lF (lyS s b l) ls = lF s ls := rfl
      have h3 : sY (lyS s b l) = sY s := rfl
      rw [h3, h1, h2, hK, e0]
      unfold gA
      omega
    · rw [if_neg c, if_neg c]
      exact hR
/-! the least growth of the others -/
def mO (k : Nat) (s : gb_St) : Int := sm 6 (fun b => if b = k then 0 else lX s (sB s b))
theorem mO_lay {s : gb_St} (hI : gb_IV s) {k b : Nat} (hb : b < 6) (hne : b ≠ k) {l : gb_Ly} (hl : okL l) : mO k (lyS s b l) = mO k s + gW s (sB s b) l.1 l.2.1 := by
  have h1 := sm_1 (n := 6) (k := b) (f := fun x => if x = k then 0 else lX (lyS s b l) (sB (lyS s b l) x)) (g := fun x => if x = k then 0 else lX s (sB s x)) hb (fun x hx hxb => by
    try dsimp only
    by_cases e : x = k
    · rw [if_pos e, if_pos e]
    · rw [if_neg e, if_neg e, show sB (lyS s b l) x = sB s x from sB_n hxb]
      rfl)
  try dsimp only at h1
  rw [if_neg hne, if_neg hne, show sB (lyS s b l) b = lay1 (sB s b) l.1 l.2.1 l.2.2 from sB_s] at h1
  have h2 : lX (lyS s b l) (lay1 (sB s b) l.1 l.2.1 l.2.2) = lX s (sB s b) + gW s (sB s b) l.1 l.2.1 := lX_lay hI.2.2.1 hl.1
  rw [h2] at h1
  unfold mO
  omega
def me (k : Nat) (had : Int) : List gb_Ly → gb_St → List Nat → Option (Int × List Nat) → Option (Int × List Nat)
  | [], s, way, acc => match acc with
    | none => some (mO k s - had, way)
    | some a => if mO k s - had < a.1 then some (mO k s - had, way) else some a
  | l :: ls, s, way, acc => it 6 acc (fun b a => if mlb k s b l = true then me k had ls (lyS s b l) (way ++ [b]) a else a)
def REw (a : Int × List Nat) (m : Option (Int × List Nat)) : Prop := match m with
  | none => a.1 = 1000000000
  | some x => a = x ∧ 0 ≤ a.1 ∧ a.1 < 1000000000
theorem me_rel {k : Nat} {had : Int} : ∀ (ls : List gb_Ly) (s : gb_St) way (gr : Int) a m, gb_IV s → (∀ l ∈ ls, okL l) → 0 ≤ gr → gr + 58806 * ls.length ≤ 500000000 → mO k s - had = gr → REw a m → REw (lcU k ls s way gr a) (me k had ls s way m)
  | [], s, way, gr, a, m, hI, hl, hg, hb, hK, hR => by
    have hb' : gr ≤ 500000000 := by simpa using hb
    unfold lcU me
    rw [hK]
    cases m with
    | none =>
      have hR : a.1 = 1000000000 := hR
      rw [if_neg (by omega)]
      exact ⟨rfl, hg, by dsimp only; omega⟩
    | some x =>
      obtain ⟨r1, r2, r3⟩ := hR
      try dsimp only
      by_cases c : a.1 ≤ gr
      · rw [if_pos c, if_neg (by rw [← r1]; omega)]
        exact ⟨r1, r2, r3⟩
      · rw [if_neg c, if_pos (by rw [← r1]; omega)]
        exact ⟨rfl, hg, by dsimp only; omega⟩
  | l :: ls, s, way, gr, a, m, hI, hl, hg, hb, hK, hR => by
    have hl0 := hl l List.mem_cons_self
    have hb' : gr + 58806 * ((ls.length : Int) + 1) ≤ 500000000 := by simpa using hb
    unfold lcU me
    refine it_rel REw hR (fun b hb6 a m hR => ?_)
    by_cases c : mlb k s b l = true
    · rw [if_pos c, if_pos c]
      have hw := gW_r (t := l.2.1) hI hb6 hl0.1 (by have := hl0.2.1; omega)
      refine me_rel ls (lyS s b l) _ _ a m (IV_lyS hI hb6 hl0 c) (fun x hx => hl x (List.mem_cons_of_mem l hx)) (by omega) (by omega) ?_ hR
      have := (mlb_t c).1
      rw [mO_lay hI hb6 (by omega) hl0]
      omega
    · rw [if_neg c, if_neg c]
      exact hR
/-! the fewest bins -/
def orb (x b : Nat) : Nat := x ||| (1 <<< b)
def pc (x : Nat) : Nat := x % 2 + x / 2 % 2 + x / 4 % 2 + x / 8 % 2 + x / 16 % 2 + x / 32 % 2
def fwr (u : Nat) (a : Option Nat) : Bool := match a with
  | none => true
  | some v => decide (pc u < pc v ∨ (pc u = pc v ∧ u < v))
theorem orb_64 : ∀ x : Fin 64, ∀ b : Fin 6, orb x.val b.val < 64 ∧ pc x.val ≤ pc (orb x.val b.val) ∧ (pc x.val = pc (orb x.val b.val) → orb x.val b.val = x.val) ∧ nZ (x.val : Int) ||| (1 <<< (nZ (b.val : Int) &&& 31)) = nZ ((orb x.val b.val : Nat) : Int) := by decide +kernel
theorem orb_r {x b : Nat} (hx : x < 64) (hb : b < 6) : orb x b < 64 ∧ pc x ≤ pc (orb x b) ∧ (pc x = pc (orb x b) → orb x b = x) ∧ nZ x ||| (1 <<< (nZ b &&& 31)) = nZ (orb x b) := orb_64 ⟨x, hx⟩ ⟨b, hb⟩
def lf : List gb_Ly → gb_St → Nat → Option Nat → Option Nat
  | [], _, u, acc => if fwr u acc = true then some u else acc
  | l :: ls, s, u, acc => if fwr u acc = true then it 6 acc (fun b a => if mlb (-1) s b l = true then lf ls (lyS s b l) (orb u b) a else a) else acc
def fm : List gb_Ly → gb_St → Nat → Option Nat → Option Nat
  | [], _, u, acc => if fwr u acc = true then some u else acc
  | l :: ls, s, u, acc => it 6 acc (fun b a => if mlb (-1) s b l = true then fm ls (lyS s b l) (orb u b) a else a)
theorem fwr_orb {u b : Nat} (hu : u < 64) (hb : b < 6) {a : Option Nat} (h : ¬ fwr u a = true) : ¬ fwr (orb u b) a = true := by
  obtain ⟨o1, o2, o3, -⟩ := orb_r hu hb
  cases a with
  | none => exact absurd rfl h
  | some v =>
    intro hc
    have hc : pc (orb u b) < pc v ∨ (pc (orb u b) = pc v ∧ orb u b < v) := of_decide_eq_true hc
    have hn : ¬ (pc u < pc v ∨ (pc u = pc v ∧ u < v)) := fun z => h (decide_eq_true z)
    rcases hc with hc | ⟨hc1, hc2⟩
    · exact hn (Or.inl (by omega))
    · by_cases e : pc u = pc (orb u b)
      · rw [o3 e] at hc2
        exact hn (Or.inr ⟨by omega, hc2⟩)
      · exact hn (Or.inl (by omega))
theorem fm_no : ∀ (ls : List gb_Ly) (s : gb_St) u acc, u < 64 → ¬ fwr u acc = true → fm ls s u acc = acc
  | [], s, u, acc, hu, h => if_neg h
  | l :: ls, s, u, acc, hu, h => by
    unfold fm
    refine it_id (fun b hb => ?_)
    try dsimp only
    split
    · exact fm_no ls _ _ _ (orb_r hu hb).1 (fwr_orb hu hb h)
    · rfl
theorem lf_fm : ∀ (ls : List gb_Ly) (s : gb_St) u acc, u < 64 → lf ls s u acc = fm ls s u acc
  | [], s, u, acc, hu => rfl
  | l :: ls, s, u, acc, hu => by
    by_cases h : fwr u acc = true
    · unfold lf fm
      rw [if_pos h]
      refine it_cg (fun b hb a => ?_)
      split
      · exact lf_fm ls _ _ _ (orb_r hu hb).1
      · rfl
    · rw [fm_no _ _ _ _ hu h]
      exact if_neg h
theorem fm_bad : ∀ (ls : List gb_Ly) (s : gb_St) u acc, (∀ l ∈ ls, okL l) → (∃ x ∈ ls, badL (-1) s x) → fm ls s u acc = acc
  | [], s, u, acc, hl, ⟨x, hx, _⟩ => by cases hx
  | l :: ls, s, u, acc, hl, ⟨x, hx, hb⟩ => by
    unfold fm
    refine it_id (fun b hb6 => ?_)
    try dsimp only
    by_cases c : mlb (-1) s b l = true
    · rw [if_pos c]
      rcases List.mem_cons.mp hx with rfl | hx
      · exact absurd c (hb b hb6)
      · exact fm_bad ls _ _ _ (fun y hy => hl y (List.mem_cons_of_mem l hy)) ⟨x, hx, bad_mono (hl l List.mem_cons_self) c hb⟩
    · rw [if_neg c]
