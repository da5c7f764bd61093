/-! LAND: the law's text is read whole -/
def At (T : List Int) (p : Nat) (L : List Int) : Prop := ∀ i, i < L.length → tA T (p + i) = L.getD i 0
def nd (T : List Int) (q : Nat) : Prop := ¬ (48 ≤ tA T q ∧ tA T q ≤ 57)
def Sfx (T : List Int) (p : Nat) (S : List Int) : Prop := ∃ pre : List Int, T = pre ++ S ∧ p = pre.length
theorem tA_pre {pre S : List Int} {i : Nat} (h : i < S.length) : tA (pre ++ S) (pre.length + i) = S.getD i 0 := by
  unfold tA
  rw [if_pos (by rw [List.length_append]; omega)]
  simp [List.getD, List.getElem?_append_right]
theorem getD_app1 {L S : List Int} {i : Nat} (h : i < L.length) : (L ++ S).getD i 0 = L.getD i 0 := by
  simp [List.getD, List.getElem?_append_left h]
theorem getD_app2 {L S : List Int} {i : Nat} : (L ++ S).getD (L.length + i) 0 = S.getD i 0 := by
  simp [List.getD, List.getElem?_append_right]
theorem Sfx_at {T L S : List Int} {p : Nat} (h : Sfx T p (L ++ S)) : At T p L := fun i hi => by
  obtain ⟨pre, rfl, rfl⟩ := h
  rw [tA_pre (by rw [List.length_append]; omega), getD_app1 hi]
theorem Sfx_app {T L S : List Int} {p : Nat} (h : Sfx T p (L ++ S)) : Sfx T (p + L.length) S := by
  obtain ⟨pre, rfl, rfl⟩ := h
  exact ⟨pre ++ L, by rw [List.append_assoc], by rw [List.length_append]⟩
theorem Sfx_c {T S : List Int} {p : Nat} {c : Int} (h : Sfx T p (c :: S)) : tA T p = c ∧ p < T.length ∧ Sfx T (p + 1) S := by
  obtain ⟨pre, rfl, rfl⟩ := h
  refine ⟨?_, by rw [List.length_append, List.length_cons]; omega, pre ++ [c], by rw [List.append_assoc]; rfl, by rw [List.length_append]; rfl⟩
  have := tA_pre (pre := pre) (S := c :: S) (i := 0) (by rw [List.length_cons]; omega)
  exact this
theorem Sfx_0 {T : List Int} {p : Nat} (h : Sfx T p []) : tA T p = -1 ∧ p = T.length := by
  obtain ⟨pre, rfl, rfl⟩ := h
  refine ⟨?_, by rw [List.append_nil]⟩
  unfold tA
  rw [if_neg (by rw [List.append_nil]; omega)]
theorem dcn_len {x : Nat} : (dcn x).length = if x < 10 then 1 else 2 := by
  unfold dcn
  split <;> rfl
/-- a number of one or two digits is read -/
theorem nm_dc {T S : List Int} {p x k : Nat} {lo hi : Int} (h : Sfx T p (dcn x ++ S)) (hn : nd T (p + (dcn x).length)) (hx : x < 100) (h1 : lo ≤ x ∧ (x : Int) ≤ hi) : nm T lo hi (k + 2) p = (some (x : Int), p + (dcn x).length) := by
  have ha := Sfx_at h
  unfold nm
  by_cases hx1 : x < 10
  · have e : dcn x = [48 + (x : Int)] := if_pos hx1
    rw [e] at ha hn ⊢
    have a0 := ha 0 (by simp)
    have a0 : tA T p = 48 + (x : Int) := a0
    have hn : nd T (p + 1) := hn
    have s1 : dg T (k + 2) 0 0 p = dg T (k + 1) (x : Int) 1 (p + 1) := by
      rw [dg, if_pos ⟨Or.inl rfl, by omega, by omega⟩, a0, show 10 * (0 : Int) + (48 + (x : Int)) - 48 = (x : Int) by omega]
    have s2 : dg T (k + 1) (x : Int) 1 (p + 1) = ((x : Int), 1, p + 1) := by
      rw [dg, if_neg (fun z => hn ⟨z.2.1, z.2.2⟩)]
    rw [s1, s2]
    unfold nf
    dsimp only
    rw [if_neg (by omega), if_pos h1]
    rfl
  · have e : dcn x = [48 + ((x / 10 : Nat) : Int), 48 + ((x % 10 : Nat) : Int)] := if_neg hx1
    rw [e] at ha hn ⊢
    have a0 : tA T p = 48 + ((x / 10 : Nat) : Int) := ha 0 (by simp)
    have a1 : tA T (p + 1) = 48 + ((x % 10 : Nat) : Int) := ha 1 (by simp)
    have hn : nd T (p + 2) := hn
    have s1 : dg T (k + 2) 0 0 p = dg T (k + 1) ((x / 10 : Nat) : Int) 1 (p + 1) := by
      rw [dg, if_pos ⟨Or.inl rfl, by omega, by omega⟩, a0, show 10 * (0 : Int) + (48 + ((x / 10 : Nat) : Int)) - 48 = ((x / 10 : Nat) : Int) by omega]
    have s2 : dg T (k + 1) ((x / 10 : Nat) : Int) 1 (p + 1) = dg T k (x : Int) 2 (p + 2) := by
      rw [dg, if_pos ⟨Or.inr (by omega), by omega, by omega⟩, a1, show 10 * ((x / 10 : Nat) : Int) + (48 + ((x % 10 : Nat) : Int)) - 48 = (x : Int) by omega]
    have s3 : dg T k (x : Int) 2 (p + 2) = ((x : Int), 2, p + 2) := by
      cases k with
      | zero => rfl
      | succ k => rw [dg, if_neg (fun z => hn ⟨z.2.1, z.2.2⟩)]
    rw [s1, s2, s3]
    unfold nf
    dsimp only
    rw [if_neg (by omega), if_pos h1]
    rfl
theorem nn_c {T : List Int} {P : Nat → Bool} {p g : Nat} (h : tA T p = 48 + (g : Int)) (hg : g < 6) (hP : P g = false) : nn T P p = some g := by
  unfold nn
  have e : (tA T p - 48).toNat = g := by omega
  rw [e, if_pos ⟨by omega, by omega, hP⟩]
def glT (g w k : Nat) : List Int := 103 :: (48 + (g : Int)) :: 119 :: (dcn w ++ 107 :: dcn k)
def blT (b c : Nat) : List Int := 98 :: (48 + (b : Int)) :: 99 :: dcn c
def llT (a b v : Nat) : List Int := 108 :: (48 + (a : Int)) :: (48 + (b : Int)) :: dcn v
def xlT (a b : Nat) : List Int := 120 :: (48 + (a : Int)) :: (48 + (b : Int)) :: []
theorem nd_c {T : List Int} {q : Nat} {c : Int} (h : tA T q = c) (hc : c < 48 ∨ 57 < c) : nd T q := by
  unfold nd
  rw [h]
  omega
theorem rl_g {T S : List Int} {u : gb_Ru} {p g w k : Nat} (h : Sfx T p (glT g w k ++ S)) (hn : nd T (p + (glT g w k).length)) (hg : g < 6) (ht : u.2.1 g = false) (hw : w < 100) (hk : k < 100) : ∃ u', rlL T u p = (some u', p + (glT g w k).length) ∧ u'.2 = (or1 u.2.1 g, u.2.2) := by
  have h0 : Sfx T p (103 :: (48 + (g : Int)) :: 119 :: (dcn w ++ (107 :: (dcn k ++ S)))) := by
    have : glT g w k ++ S = 103 :: (48 + (g : Int)) :: 119 :: (dcn w ++ (107 :: (dcn k ++ S))) := by simp [glT]
    rwa [this] at h
  obtain ⟨c0, -, s0⟩ := Sfx_c h0
  obtain ⟨c1, -, s1⟩ := Sfx_c s0
  obtain ⟨c2, -, s2⟩ := Sfx_c s1
  have s3 := Sfx_app s2
  obtain ⟨c3, -, s4⟩ := Sfx_c s3
  have n1 := nm_dc (lo := 0) (hi := 999) (k := 1) s2 (nd_c c3 (by omega)) hw (by omega)
  have el : (glT g w k).length = 3 + (dcn w).length + 1 + (dcn k).length := by simp [glT]; omega
  have n2 := nm_dc (lo := 0) (hi := 99) (k := 0) s4 (by
    rw [el] at hn
    rwa [show p + 1 + 1 + 1 + (dcn w).length + 1 + (dcn k).length = p + (3 + (dcn w).length + 1 + (dcn k).length) by omega]) hk (by omega)
  refine ⟨ruG u g w k, ?_, rfl⟩
  unfold rlL rlG
  rw [if_pos c0, nn_c c1 hg ht]
  dsimp only
  rw [show p + 1 + 2 = p + 1 + 1 + 1 by omega, n1]
  dsimp only
  rw [if_pos c2, if_pos c3, n2, el]
  simp only [Option.map_some]
  congr 1
  omega
theorem rl_b {T S : List Int} {u : gb_Ru} {p b c : Nat} (h : Sfx T p (blT b c ++ S)) (hn : nd T (p + (blT b c).length)) (hb : b < 6) (ht : u.2.2.1 b = false) (hc : c < 100) : ∃ u', rlL T u p = (some u', p + (blT b c).length) ∧ u'.2 = (u.2.1, or1 u.2.2.1 b, u.2.2.2) := by
  have h0 : Sfx T p (98 :: (48 + (b : Int)) :: 99 :: (dcn c ++ S)) := by
    have : blT b c ++ S = 98 :: (48 + (b : Int)) :: 99 :: (dcn c ++ S) := by simp [blT]
    rwa [this] at h
  obtain ⟨c0, -, s0⟩ := Sfx_c h0
  obtain ⟨c1, -, s1⟩ := Sfx_c s0
  obtain ⟨c2, -, s2⟩ := Sfx_c s1
  have el : (blT b c).length = 3 + (dcn c).length := by simp [blT]; omega
  have n1 := nm_dc (lo := 0) (hi := 99) (k := 0) s2 (by
    rw [el] at hn
    rwa [show p + 1 + 1 + 1 + (dcn c).length = p + (3 + (dcn c).length) by omega]) hc (by omega)
  refine ⟨ruB u b c, ?_, rfl⟩
  unfold rlL rlB
  rw [if_neg (by omega), if_pos c0, nn_c c1 hb ht]
  dsimp only
  rw [if_pos c2, show p + 1 + 2 = p + 1 + 1 + 1 by omega, n1, el]
  simp only [Option.map_some]
  congr 1
  omega
theorem rl_l {T S : List Int} {u : gb_Ru} {p a b v : Nat} (h : Sfx T p (llT a b v ++ S)) (hn : nd T (p + (llT a b v).length)) (ha : a < 6) (hb : b < 6) (ht : or1 (u.2.2.2 a) a b = false) (hv : 1 ≤ v ∧ v < 100) : ∃ u', rlL T u p = (some u', p + (llT a b v).length) ∧ u'.2 = (u.2.1, u.2.2.1, or2 u.2.2.2 a b) := by
  have h0 : Sfx T p (108 :: (48 + (a : Int)) :: (48 + (b : Int)) :: (dcn v ++ S)) := by
    have : llT a b v ++ S = 108 :: (48 + (a : Int)) :: (48 + (b : Int)) :: (dcn v ++ S) := by simp [llT]
    rwa [this] at h
  obtain ⟨c0, -, s0⟩ := Sfx_c h0
  obtain ⟨c1, -, s1⟩ := Sfx_c s0
  obtain ⟨c2, -, s2⟩ := Sfx_c s1
  have el : (llT a b v).length = 3 + (dcn v).length := by simp [llT]; omega
  have n1 := nm_dc (lo := 1) (hi := 99) (k := 0) s2 (by
    rw [el] at hn
    rwa [show p + 1 + 1 + 1 + (dcn v).length = p + (3 + (dcn v).length) by omega]) (by omega) (by omega)
  refine ⟨ruP u a b v, ?_, rfl⟩
  unfold rlL rlP
  rw [if_neg (by omega), if_neg (by omega), if_pos c0, nn_c c1 ha rfl]
  dsimp only
  rw [nn_c c2 hb ht]
  dsimp only
  rw [show p + 1 + 2 = p + 1 + 1 + 1 by omega, n1, el]
  simp only [Option.map_some]
  congr 1
  omega
theorem rl_x {T S : List Int} {u : gb_Ru} {p a b : Nat} (h : Sfx T p (xlT a b ++ S)) (ha : a < 6) (hb : b < 6) (ht : or1 (u.2.2.2 a) a b = false) : ∃ u', rlL T u p = (some u', p + (xlT a b).length) ∧ u'.2 = (u.2.1, u.2.2.1, or2 u.2.2.2 a b) := by
  have h0 : Sfx T p (120 :: (48 + (a : Int)) :: (48 + (b : Int)) :: S) := h
  obtain ⟨c0, -, s0⟩ := Sfx_c h0
  obtain ⟨c1, -, s1⟩ := Sfx_c s0
  obtain ⟨c2, -, s2⟩ := Sfx_c s1
  refine ⟨ruP u a b (-1), ?_, rfl⟩
  unfold rlL rlP
  rw [if_neg (by omega), if_neg (by omega), if_neg (by omega), if_pos c0, nn_c c1 ha rfl]
  dsimp only
  rw [nn_c c2 hb ht]
  rfl
theorem rlS_s {T S : List Int} {m : Nat} {u u' : gb_Ru} {n p q : Nat} (h : rlL T u p = (some u', q)) (hs : Sfx T q (59 :: S)) : rlS T (m + 1) u n p = rlS T m u' (n + 1) (q + 1) := by
  obtain ⟨c0, c1, -⟩ := Sfx_c hs
  rw [rlS, h]
  dsimp only
  rw [if_pos c1, if_pos c0]
theorem rlS_e {T : List Int} {m : Nat} {u u' : gb_Ru} {n p q : Nat} (h : rlL T u p = (some u', q)) (hs : Sfx T q []) : (rlS T (m + 1) u n p).1 = some (u', n + 1) := by
  obtain ⟨-, c1⟩ := Sfx_0 hs
  rw [rlS, h]
  dsimp only
  rw [if_neg (by omega)]
/-- all thirteen lines -/
def lndT (w k c : Nat → Nat) (p q : Nat) (l : List Int) : List Int := glT 0 (w 0) (k 0) ++ 59 :: (glT 1 (w 1) (k 1) ++ 59 :: (glT 2 (w 2) (k 2) ++ 59 :: (glT 3 (w 3) (k 3) ++ 59 :: (blT 0 (c 0) ++ 59 :: (blT 1 (c 1) ++ 59 :: (blT 2 (c 2) ++ 59 :: (blT 3 (c 3) ++ 59 :: (blT 4 (c 4) ++ 59 :: (blT 5 (c 5) ++ 59 :: (llT 0 1 p ++ 59 :: (llT 1 2 q ++ 59 :: l)))))))))))
theorem lnd_g {T S : List Int} {m g w k n p : Nat} {u : gb_Ru} (h : Sfx T p (glT g w k ++ 59 :: S)) (hg : g < 6) (ht : u.2.1 g = false) (hw : w < 100) (hk : k < 100) : ∃ (u' : gb_Ru) (q : Nat), rlS T (m + 1) u n p = rlS T m u' (n + 1) q ∧ Sfx T q S ∧ u'.2 = (or1 u.2.1 g, u.2.2) := by
  have s1 := Sfx_app h
  obtain ⟨c0, -, s2⟩ := Sfx_c s1
  obtain ⟨u', e, e2⟩ := rl_g h (nd_c c0 (by omega)) hg ht hw hk
  exact ⟨u', _, rlS_s e s1, s2, e2⟩
theorem lnd_b {T S : List Int} {m b c n p : Nat} {u : gb_Ru} (h : Sfx T p (blT b c ++ 59 :: S)) (hb : b < 6) (ht : u.2.2.1 b = false) (hc : c < 100) : ∃ (u' : gb_Ru) (q : Nat), rlS T (m + 1) u n p = rlS T m u' (n + 1) q ∧ Sfx T q S ∧ u'.2 = (u.2.1, or1 u.2.2.1 b, u.2.2.2) := by
  have s1 := Sfx_app h
  obtain ⟨c0, -, s2⟩ := Sfx_c s1
  obtain ⟨u', e, e2⟩ := rl_b h (nd_c c0 (by omega)) hb ht hc
  exact ⟨u', _, rlS_s e s1, s2, e2⟩
theorem lnd_l {T S : List Int} {m a b v n p : Nat} {u : gb_Ru} (h : Sfx T p (llT a b v ++ 59 :: S)) (ha : a < 6) (hb : b < 6) (ht : or1 (u.2.2.2 a) a b = false) (hv : 1 ≤ v ∧ v < 100) : ∃ (u' : gb_Ru) (q : Nat), rlS T (m + 1) u n p = rlS T m u' (n + 1) q ∧ Sfx T q S ∧ u'.2 = (u.2.1, u.2.2.1, or2 u.2.2.2 a b) := by
  have s1 := Sfx_app h
  obtain ⟨c0, -, s2⟩ := Sfx_c s1
  obtain ⟨u', e, e2⟩ := rl_l h (nd_c c0 (by omega)) ha hb ht hv
  exact ⟨u', _, rlS_s e s1, s2, e2⟩
theorem lnd_13 {w k c : Nat → Nat} {p q : Nat} {l : List Int} (hw : ∀ g, g < 4 → w g < 100) (hk : ∀ g, g < 4 → k g < 100) (hc : ∀ b, b < 6 → c b < 100) (hp : 1 ≤ p ∧ p < 100) (hq : 1 ≤ q ∧ q < 100) (hl : l = xlT 0 3 ∨ l = llT 0 3 2) : ∃ u, (ldT (lndT w k c p q l)).1 = some (u, 13) := by
  obtain ⟨T, hT⟩ : ∃ T, T = lndT w k c p q l := ⟨_, rfl⟩
  have h0 : Sfx T 0 (lndT w k c p q l) := ⟨[], hT, rfl⟩
  rw [← hT]
  obtain ⟨m, hm⟩ : ∃ m, T.length + 1 = m + 13 := by
    refine ⟨T.length + 1 - 13, ?_⟩
    have : 13 ≤ T.length := by rw [hT]; simp [lndT, glT, blT, llT]; omega
    omega
  have hT0 : ¬ T.length = 0 := by omega
  unfold ldT
  rw [if_neg hT0, hm]
  unfold lndT at h0
  obtain ⟨u1, p1, e1, s1, t1⟩ := lnd_g (m := m + 12) (u := ru0) (n := 0) h0 (by omega) rfl (hw 0 (by omega)) (hk 0 (by omega))
  obtain ⟨u2, p2, e2, s2, t2⟩ := lnd_g (m := m + 11) (u := u1) (n := 1) s1 (by omega) (by rw [t1]; rfl) (hw 1 (by omega)) (hk 1 (by omega))
  obtain ⟨u3, p3, e3, s3, t3⟩ := lnd_g (m := m + 10) (u := u2) (n := 2) s2 (by omega) (by rw [t2, t1]; rfl) (hw 2 (by omega)) (hk 2 (by omega))
  obtain ⟨u4, p4, e4, s4, t4⟩ := lnd_g (m := m + 9) (u := u3) (n := 3) s3 (by omega) (by rw [t3, t2, t1]; rfl) (hw 3 (by omega)) (hk 3 (by omega))
  have b4 : u4.2.2 = ru0.2.2 := by rw [t4, t3, t2, t1]
  obtain ⟨u5, p5, e5, s5, t5⟩ := lnd_b (m := m + 8) (u := u4) (n := 4) s4 (by omega) (by rw [b4]; rfl) (hc 0 (by omega))
  obtain ⟨u6, p6, e6, s6, t6⟩ := lnd_b (m := m + 7) (u := u5) (n := 5) s5 (by omega) (by rw [t5, b4]; rfl) (hc 1 (by omega))
  obtain ⟨u7, p7, e7, s7, t7⟩ := lnd_b (m := m + 6) (u := u6) (n := 6) s6 (by omega) (by rw [t6, t5, b4]; rfl) (hc 2 (by omega))
  obtain ⟨u8, p8, e8, s8, t8⟩ := lnd_b (m := m + 5) (u := u7) (n := 7) s7 (by omega) (by rw [t7, t6, t5, b4]; rfl) (hc 3 (by omega))
  obtain ⟨u9, p9, e9, s9, t9⟩ := lnd_b (m := m + 4) (u := u8) (n := 8) s8 (by omega) (by rw [t8, t7, t6, t5, b4]; rfl) (hc 4 (by omega))
  obtain ⟨u10, p10, e10', s10, t10⟩ := lnd_b (m := m + 3) (u := u9) (n := 9) s9 (by omega) (by rw [t9, t8, t7, t6, t5, b4]; rfl) (hc 5 (by omega))
  have b10 : u10.2.2.2 = ru0.2.2.2 := by rw [t10, t9, t8, t7, t6, t5, b4]
  obtain ⟨u11, p11, e11, s11, t11⟩ := lnd_l (m := m + 2) (u := u10) (n := 10) s10 (by omega) (by omega) (by rw [b10]; rfl) hp
  obtain ⟨u12, p12, e12, s12, t12⟩ := lnd_l (m := m + 1) (u := u11) (n := 11) s11 (by omega) (by omega) (by rw [t11, b10]; rfl) hq
  have b12 : u12.2.2.2 = or2 (or2 ru0.2.2.2 0 1) 1 2 := by rw [t12, t11, b10]
  have fin : ∃ u', (rlS T (m + 1) u12 12 p12).1 = some (u', 13) := by
    rcases hl with hl | hl
    · rw [hl] at s12
      have s13 : Sfx T p12 (xlT 0 3 ++ []) := by rw [List.append_nil]; exact s12
      obtain ⟨u', e, -⟩ := rl_x s13 (by omega) (by omega) (u := u12) (by rw [b12]; rfl)
      exact ⟨u', rlS_e e (Sfx_app s13)⟩
    · rw [hl] at s12
      have s13 : Sfx T p12 (llT 0 3 2 ++ []) := by rw [List.append_nil]; exact s12
      have s14 := Sfx_app s13
      obtain ⟨u', e, -⟩ := rl_l s13 (nd_c (Sfx_0 s14).1 (by omega)) (by omega) (by omega) (u := u12) (by rw [b12]; rfl) (by omega)
      exact ⟨u', rlS_e e s14⟩
  obtain ⟨u', hu⟩ := fin
  refine ⟨u', ?_⟩
  rw [e1, e2, e3, e4, e5, e6, e7, e8, e9, e10', e11, e12]
  exact hu
