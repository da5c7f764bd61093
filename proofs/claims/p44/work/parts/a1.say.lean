/-! SAY, of the law (printed by wip/p44/saygen.py) -/
theorem gd_RL_7 : GoodIn gb_J (wsV RL 7 RJ0 yJ0_length_8abf5 (.code yJ0_length_8abf5 cJ0_length_8abf5 1 (some .int) :: gb_J)) := gj_in (l := [.methodLink RL 7 yJ0_length_8abf5, .instanceMethod yJ0_length_8abf5, .selects RJ0 yJ0_length_8abf5 yJ0_length_8abf5, .initialized RJ0]) (by
  have h : ∀ w ∈ ([.methodLink RL 7 yJ0_length_8abf5, .instanceMethod yJ0_length_8abf5, .selects RJ0 yJ0_length_8abf5 yJ0_length_8abf5, .initialized RJ0] ++ [.code yJ0_length_8abf5 cJ0_length_8abf5 1 (some .int)] : List Cond), w ∈ jsw ∨ (w ∈ lw_tbl ∧ goodWord w = true) := by decide +kernel
  exact gb_J_of h)
theorem gd_RL_13 : GoodIn gb_J (wsV RL 13 RJ0 yJ0_charAt_5068e (.code yJ0_charAt_5068e cJ0_charAt_5068e 2 (some .char) :: gb_J)) := gj_in (l := [.methodLink RL 13 yJ0_charAt_5068e, .instanceMethod yJ0_charAt_5068e, .selects RJ0 yJ0_charAt_5068e yJ0_charAt_5068e, .initialized RJ0]) (by
  have h : ∀ w ∈ ([.methodLink RL 13 yJ0_charAt_5068e, .instanceMethod yJ0_charAt_5068e, .selects RJ0 yJ0_charAt_5068e yJ0_charAt_5068e, .initialized RJ0] ++ [.code yJ0_charAt_5068e cJ0_charAt_5068e 2 (some .char)] : List Cond), w ∈ jsw ∨ (w ∈ lw_tbl ∧ goodWord w = true) := by decide +kernel
  exact gb_J_of h)
theorem w5_L_say_23 : ∀ w ∈ ([.methodLink RL 23 yX9_end, .instanceMethod yX9_end, .selects RX9 yX9_end yX9_end, .initialized RX9, .code yX9_end cX9_end 2 (some .boolean)] : List Cond), w ∈ gb_B := by
  have h : ∀ w ∈ ([.methodLink RL 23 yX9_end, .instanceMethod yX9_end, .selects RX9 yX9_end yX9_end, .initialized RX9, .code yX9_end cX9_end 2 (some .boolean)] : List Cond), w ∈ lw_tbl ∧ goodWord w = true := by decide +kernel
  exact fun w hw => List.mem_filter.mpr (h w hw)
theorem w5_L_say_17 : ∀ w ∈ ([.methodLink RL 17 yX9_sign, .instanceMethod yX9_sign, .selects RX9 yX9_sign yX9_sign, .initialized RX9, .code yX9_sign cX9_sign 2 (some .int)] : List Cond), w ∈ gb_B := by
  have h : ∀ w ∈ ([.methodLink RL 17 yX9_sign, .instanceMethod yX9_sign, .selects RX9 yX9_sign yX9_sign, .initialized RX9, .code yX9_sign cX9_sign 2 (some .int)] : List Cond), w ∈ lw_tbl ∧ goodWord w = true := by decide +kernel
  exact fun w hw => List.mem_filter.mpr (h w hw)
theorem dL_say_0 : decode cL_say 0 = .ok (.iconst 0, 1) := by decide +kernel
theorem dL_say_1 : decode cL_say 1 = .ok (.istore_n 2, 1) := by decide +kernel
theorem dL_say_2 : decode cL_say 2 = .ok (.iload_n 2, 1) := by decide +kernel
theorem dL_say_3 : decode cL_say 3 = .ok (.aload_n 1, 1) := by decide +kernel
theorem dL_say_4 : decode cL_say 4 = .ok (.invokevirtual 7, 3) := by decide +kernel
theorem dL_say_7 : decode cL_say 7 = .ok (.if_icmp .ge 61, 3) := by decide +kernel
theorem dL_say_10 : decode cL_say 10 = .ok (.iconst 0, 1) := by decide +kernel
theorem dL_say_11 : decode cL_say 11 = .ok (.istore_n 3, 1) := by decide +kernel
theorem dL_say_12 : decode cL_say 12 = .ok (.iconst 0, 1) := by decide +kernel
theorem dL_say_13 : decode cL_say 13 = .ok (.istore 4, 2) := by decide +kernel
theorem dL_say_15 : decode cL_say 15 = .ok (.iload 4, 2) := by decide +kernel
theorem dL_say_17 : decode cL_say 17 = .ok (.iconst 4, 1) := by decide +kernel
theorem dL_say_18 : decode cL_say 18 = .ok (.if_icmp .ge 38, 3) := by decide +kernel
theorem dL_say_21 : decode cL_say 21 = .ok (.iload_n 3, 1) := by decide +kernel
theorem dL_say_22 : decode cL_say 22 = .ok (.bipush 8, 2) := by decide +kernel
theorem dL_say_24 : decode cL_say 24 = .ok (.ishl, 1) := by decide +kernel
theorem dL_say_25 : decode cL_say 25 = .ok (.iload_n 2, 1) := by decide +kernel
theorem dL_say_26 : decode cL_say 26 = .ok (.iload 4, 2) := by decide +kernel
theorem dL_say_28 : decode cL_say 28 = .ok (.iadd, 1) := by decide +kernel
theorem dL_say_29 : decode cL_say 29 = .ok (.aload_n 1, 1) := by decide +kernel
theorem dL_say_30 : decode cL_say 30 = .ok (.invokevirtual 7, 3) := by decide +kernel
theorem dL_say_33 : decode cL_say 33 = .ok (.if_icmp .ge 14, 3) := by decide +kernel
theorem dL_say_36 : decode cL_say 36 = .ok (.aload_n 1, 1) := by decide +kernel
theorem dL_say_37 : decode cL_say 37 = .ok (.iload_n 2, 1) := by decide +kernel
theorem dL_say_38 : decode cL_say 38 = .ok (.iload 4, 2) := by decide +kernel
theorem dL_say_40 : decode cL_say 40 = .ok (.iadd, 1) := by decide +kernel
theorem dL_say_41 : decode cL_say 41 = .ok (.invokevirtual 13, 3) := by decide +kernel
theorem dL_say_44 : decode cL_say 44 = .ok (.goto 4, 3) := by decide +kernel
theorem dL_say_47 : decode cL_say 47 = .ok (.iconst 0, 1) := by decide +kernel
theorem dL_say_48 : decode cL_say 48 = .ok (.ior, 1) := by decide +kernel
theorem dL_say_49 : decode cL_say 49 = .ok (.istore_n 3, 1) := by decide +kernel
theorem dL_say_50 : decode cL_say 50 = .ok (.iinc 4 1, 3) := by decide +kernel
theorem dL_say_53 : decode cL_say 53 = .ok (.goto (-38), 3) := by decide +kernel
theorem dL_say_56 : decode cL_say 56 = .ok (.aload_n 0, 1) := by decide +kernel
theorem dL_say_57 : decode cL_say 57 = .ok (.iload_n 3, 1) := by decide +kernel
theorem dL_say_58 : decode cL_say 58 = .ok (.invokevirtual 17, 3) := by decide +kernel
theorem dL_say_61 : decode cL_say 61 = .ok (.pop, 1) := by decide +kernel
theorem dL_say_62 : decode cL_say 62 = .ok (.iinc 2 4, 3) := by decide +kernel
theorem dL_say_65 : decode cL_say 65 = .ok (.goto (-63), 3) := by decide +kernel
theorem dL_say_68 : decode cL_say 68 = .ok (.aload_n 0, 1) := by decide +kernel
theorem dL_say_69 : decode cL_say 69 = .ok (.aload_n 1, 1) := by decide +kernel
theorem dL_say_70 : decode cL_say 70 = .ok (.invokevirtual 7, 3) := by decide +kernel
theorem dL_say_73 : decode cL_say 73 = .ok (.invokevirtual 23, 3) := by decide +kernel
theorem dL_say_76 : decode cL_say 76 = .ok (.pop, 1) := by decide +kernel
theorem dL_say_77 : decode cL_say 77 = .ok (.return_, 1) := by decide +kernel
theorem jpc {f : Nat → Int32} {T : List Nat} (hf : jF f T) {x : Nat} (h : x < T.length) : f x = nI (pc4 T x) := by
  rw [hf.2 x h]; unfold pc4; rw [if_pos h]
theorem jpc0 {T : List Nat} {x : Nat} (h : T.length ≤ x) : pc4 T x = 0 := if_neg (by omega)
theorem gb_oks_n : gb_oks [] := fun _ h => absurd h List.not_mem_nil
set_option maxHeartbeats 4000000 in
theorem n_L_say (l : Launch) (g : gb_G) (t1 t2 ps b : Nat) (f : Nat → Int32) (T : List Nat) (σ0 : gb_M) (A0 : gb_Ab) (hf : jF f T) (hT : ∀ x ∈ T, x < 128) (hn : T.length ≤ 196) (h0 : CA σ0 (setT A0 [])) (sz : Nat) : Met l yL_say (.code yL_say cL_say 5 none :: gb_J) ({ frames := 20, cells := 0, slots := 0, locals := 900 }) (jm g (jC t1 t2) [.ref (g.2.2.1 0 0), .ref ps] (gb_ws g σ0 ++ stW g ps b T.length f) sz) (jQv g (fun w1 => ∃ σ1, w1 = gb_ws g σ1 ++ stW g ps b T.length f ∧ CA σ1 (setT A0 (T.map (fun (x : Nat) => (x : Int))))) (va_A (gb_ws g σ0 ++ stW g ps b T.length f) sz)) 0 0 (va_A (gb_ws g σ0 ++ stW g ps b T.length f) sz) := by
  refine Met.ofW (cc := cL_say) (maxL := 5) (ret := none) (by decide +kernel) rfl ?_
  intro p e s m args below meth c s₁ B hml hv
  obtain ⟨rfl, hsz, hP, hK, hD0, hC⟩ := hv
  have hx := B.exec
  have hb := B.bytes
  have hr := B.returns
  have hts0 := atoms_spec (ws := .code yL_say cL_say 5 none :: gb_J) B.pre
  have hts : ∀ w ∈ gb_J, w.before ([.ref (g.2.2.1 0 0), .ref ps] : List Value).toArray s = true := fun w hw => hts0 w (List.mem_cons_of_mem _ hw)
  have hown : s.vm.findClass RL = some m.cls := findClass_of_methodNamed B.named
  have hlocks := B.notSynchronized
  subst hsz
  have hD := hD0.self (sz := s.heap.size)
  generalize hAe : va_A (gb_ws g σ0 ++ stW g ps b T.length f) s.heap.size = A at hD hC ⊢
  have hA : ∀ q : Nat, s.heap.size ≤ q → A q := fun q h => by rw [← hAe]; exact Or.inr h
  have hS : va_S A s.heap s.heap [] := va_S.rf
  have hl := lv_entry ([.ref (g.2.2.1 0 0), .ref ps]) (n := 5) (Nat.le_of_ble_eq_true rfl)
  rw [lg_entry_eq]
  generalize (lg_sl ([.ref (g.2.2.1 0 0), .ref ps]) ++ List.replicate (5 - (lg_sl ([.ref (g.2.2.1 0 0), .ref ps])).length) Slot.unset).toArray = ls at hl ⊢
  have hl : lv_has ls 5 [(0, .ref (g.2.2.1 0 0)), (1, .ref ps)] := hl
  have in1 : ∀ (i j : Nat) (v : Int32), j < 4 → 4 * i < T.length → ∀ (σ : gb_M) (H : Heap) (locs : List Loc) (ls : Array Slot), va_P (g.1, g.2.1) vwCl (gb_ws g σ ++ stW g ps b T.length f) H → va_S A s.heap H locs → lv_has ls 5 [(4, .int (nI j)), (3, .int v), (2, .int (nI (4 * i))), (0, .ref (g.2.2.1 0 0)), (1, .ref ps)] → (∀ ls : Array Slot, lv_has ls 5 [(4, .int (nI (j + 1))), (3, .int (jsh v ||| nI (pc4 T (4 * i + j)))), (2, .int (nI (4 * i))), (0, .ref (g.2.2.1 0 0)), (1, .ref ps)] → W p l e ({ frames := 20, cells := 0, slots := 0, locals := 900 } : Room) s m ([.ref (g.2.2.1 0 0), .ref ps] : List Value).toArray below meth c H locs 0 0 (MQ below (jQv g (fun w1 => ∃ σ1, w1 = gb_ws g σ1 ++ stW g ps b T.length f ∧ CA σ1 (setT A0 (T.map (fun (x : Nat) => (x : Int))))) A) #[.ref (g.2.2.1 0 0), .ref ps] s 0 0 A) (F0 m 15 ls [])) → W p l e ({ frames := 20, cells := 0, slots := 0, locals := 900 } : Room) s m ([.ref (g.2.2.1 0 0), .ref ps] : List Value).toArray below meth c H locs 0 0 (MQ below (jQv g (fun w1 => ∃ σ1, w1 = gb_ws g σ1 ++ stW g ps b T.length f ∧ CA σ1 (setT A0 (T.map (fun (x : Nat) => (x : Int))))) A) #[.ref (g.2.2.1 0 0), .ref ps] s 0 0 A) (F0 m 15 ls []) := by
    intro i j v hj hi σ H locs ls hP hS hl hk
    refine lv_iload hx hb dL_say_15 (lv_at hl 0 rfl) ?_
    refine lv_iconst (v := 4) hx hb dL_say_17 (by decide) ?_
    refine lv_icmp_ge (tgt := 56) hx hb dL_say_18 (by decide) (fun c9 => absurd c9 (show ¬ nI 4 ≤ nI j from nI_ge (by omega) (by omega))) (fun _ => ?_)
    refine lv_iload_n hx hb dL_say_21 rfl (lv_at hl 1 rfl) ?_
    refine lv_bipush (v := 8) hx hb dL_say_22 (by decide) ?_
    refine lv_ishl hx hb dL_say_24 ?_
    refine W.eq (g2 := F0 m 25 ls [.int (jsh v)]) (by rw [show ((v) <<< ((8) &&& 31) : Int32) = jsh v from rfl]) ?_
    refine lv_iload_n hx hb dL_say_25 rfl (lv_at hl 2 rfl) ?_
    refine lv_iload hx hb dL_say_26 (lv_at hl 0 rfl) ?_
    refine lv_iadd hx hb dL_say_28 ?_
    refine W.eq (g2 := F0 m 29 ls [.int (nI (4 * i + j)), .int (jsh v)]) (by rw [show ((nI (4 * i)) + (nI j) : Int32) = nI (4 * i + j) from nI_add _ _]) ?_
    refine lv_aload_n hx hb dL_say_29 rfl (lv_at hl 4 rfl) ?_
    refine vp_callSi (va_Run.run (va_runV (As := []) (rest := [.int (nI (4 * i + j)), .int (jsh v)]) ⟨hx, hb, hml, hown, hts⟩ (n_J0_length_8abf5w l g t1 t2 ps b T.length f) (cwV 0 hts gd_RL_7 rfl rfl rfl ⟨rfl, by decide +kernel, by decide +kernel, by decide +kernel⟩ ⟨Nat.le_of_ble_eq_true rfl, Nat.le_of_ble_eq_true rfl⟩) (jp_V (g := g) (jX_0 t1 t2) hK hC hS (P_r hP) (va_recv hK (P_r hP) (ci := 10) (q0 := 0) rfl rfl)) rfl rfl hl.1 rfl (lv_room (Nat.le_of_ble_eq_true rfl)) dL_say_30 ⟨Nat.le_of_ble_eq_true rfl, Nat.le_of_ble_eq_true rfl⟩)) (fun r9 e9 => ?_)
    subst e9
    refine lv_icmp_ge (tgt := 47) hx hb dL_say_33 (by decide) (fun c33 => ?_) (fun c33 => ?_)
    · skip
      have c8 : T.length ≤ 4 * i + j := (nI_leI (by omega) (by omega)).mp c33
      refine lv_iconst (v := 0) hx hb dL_say_47 (by decide) ?_
      refine lv_ior hx hb dL_say_48 ?_
      refine W.eq (g2 := F0 m 49 ls [.int (jsh v ||| nI (pc4 T (4 * i + j)))]) (by rw [show ((jsh v) ||| (0) : Int32) = jsh v ||| nI (pc4 T (4 * i + j)) from by rw [jpc0 c8]; rfl]) ?_
      refine lv_istore_n (lv' := [(3, .int (jsh v ||| nI (pc4 T (4 * i + j)))), (4, .int (nI j)), (2, .int (nI (4 * i))), (0, .ref (g.2.2.1 0 0)), (1, .ref (ps))]) hx hb dL_say_49 rfl hl (by decide) rfl (fun ls hl => ?_)
      refine lv_iinc (v := nI (j + 1)) (lv' := [(4, .int (nI (j + 1))), (3, .int (jsh v ||| nI (pc4 T (4 * i + j)))), (2, .int (nI (4 * i))), (0, .ref (g.2.2.1 0 0)), (1, .ref (ps))]) hx hb dL_say_50 hl (k := 1) rfl ((nI_succ j).symm) (by decide) rfl (fun ls hl => ?_)
      refine lv_goto (tgt := 15) hx hb dL_say_53 (by decide) ?_
      exact hk ls hl
    · skip
      have c8 : 4 * i + j < T.length := by
        rcases Nat.lt_or_ge (4 * i + j) T.length with h | h
        · exact h
        · exact absurd ((nI_leI (by omega) (by omega)).mpr h) c33
      refine lv_aload_n hx hb dL_say_36 rfl (lv_at hl 4 rfl) ?_
      refine lv_iload_n hx hb dL_say_37 rfl (lv_at hl 2 rfl) ?_
      refine lv_iload hx hb dL_say_38 (lv_at hl 0 rfl) ?_
      refine lv_iadd hx hb dL_say_40 ?_
      refine W.eq (g2 := F0 m 41 ls [.int (nI (4 * i + j)), .ref (ps), .int (jsh v)]) (by rw [show ((nI (4 * i)) + (nI j) : Int32) = nI (4 * i + j) from nI_add _ _]) ?_
      refine vp_callSi (va_Run.run (va_runV (As := [.int (nI (4 * i + j))]) (rest := [.int (jsh v)]) ⟨hx, hb, hml, hown, hts⟩ (n_J0_charAt_5068e l g t1 t2 ps b T.length (4 * i + j) (pc4 T (4 * i + j)) f c8 (by omega) (pc4_lt hT _) (jpc hf c8)) (cwV 1 hts gd_RL_13 rfl rfl rfl ⟨rfl, by decide +kernel, by decide +kernel, by decide +kernel⟩ ⟨Nat.le_of_ble_eq_true rfl, Nat.le_of_ble_eq_true rfl⟩) (jp_V (g := g) (jX_0 t1 t2) hK hC hS (P_r hP) (va_recv hK (P_r hP) (ci := 10) (q0 := 0) rfl rfl)) rfl rfl hl.1 rfl (lv_room (Nat.le_of_ble_eq_true rfl)) dL_say_41 ⟨Nat.le_of_ble_eq_true rfl, Nat.le_of_ble_eq_true rfl⟩)) (fun r9 e9 => ?_)
      subst e9
      refine lv_goto (tgt := 48) hx hb dL_say_44 (by decide) ?_
      refine lv_ior hx hb dL_say_48 ?_
      refine W.eq (g2 := F0 m 49 ls [.int (jsh v ||| nI (pc4 T (4 * i + j)))]) (by rw [show ((jsh v) ||| (nI (pc4 T (4 * i + j))) : Int32) = jsh v ||| nI (pc4 T (4 * i + j)) from rfl]) ?_
      refine lv_istore_n (lv' := [(3, .int (jsh v ||| nI (pc4 T (4 * i + j)))), (4, .int (nI j)), (2, .int (nI (4 * i))), (0, .ref (g.2.2.1 0 0)), (1, .ref (ps))]) hx hb dL_say_49 rfl hl (by decide) rfl (fun ls hl => ?_)
      refine lv_iinc (v := nI (j + 1)) (lv' := [(4, .int (nI (j + 1))), (3, .int (jsh v ||| nI (pc4 T (4 * i + j)))), (2, .int (nI (4 * i))), (0, .ref (g.2.2.1 0 0)), (1, .ref (ps))]) hx hb dL_say_50 hl (k := 1) rfl ((nI_succ j).symm) (by decide) rfl (fun ls hl => ?_)
      refine lv_goto (tgt := 15) hx hb dL_say_53 (by decide) ?_
      exact hk ls hl
  have inner : ∀ (d i : Nat), T.length ≤ 4 * i + 4 * d → ∀ (σ : gb_M) (H : Heap) (locs : List Loc) (ls : Array Slot), lv_has ls 5 [(2, .int (nI (4 * i))), (0, .ref (g.2.2.1 0 0)), (1, .ref ps)] → va_P (g.1, g.2.1) vwCl (gb_ws g σ ++ stW g ps b T.length f) H → va_D A (gb_ws g σ ++ stW g ps b T.length f) → va_S A s.heap H locs → CA σ (setT A0 (pT T (4 * i))) → 4 * i ≤ T.length + 3 → W p l e ({ frames := 20, cells := 0, slots := 0, locals := 900 } : Room) s m ([.ref (g.2.2.1 0 0), .ref ps] : List Value).toArray below meth c H locs 0 0 (MQ below (jQv g (fun w1 => ∃ σ1, w1 = gb_ws g σ1 ++ stW g ps b T.length f ∧ CA σ1 (setT A0 (T.map (fun (x : Nat) => (x : Int))))) A) #[.ref (g.2.2.1 0 0), .ref ps] s 0 0 A) (F0 m 2 ls []) := by
    intro d
    induction d with
    | zero =>
      intro i h9 σ H locs ls hl hP hD hS hCA hi
      have c8 : T.length ≤ 4 * i := by omega
      refine lv_iload_n hx hb dL_say_2 rfl (lv_at hl 0 rfl) ?_
      refine lv_aload_n hx hb dL_say_3 rfl (lv_at hl 2 rfl) ?_
      refine vp_callSi (va_Run.run (va_runV (As := []) (rest := [.int (nI (4 * i))]) ⟨hx, hb, hml, hown, hts⟩ (n_J0_length_8abf5w l g t1 t2 ps b T.length f) (cwV 0 hts gd_RL_7 rfl rfl rfl ⟨rfl, by decide +kernel, by decide +kernel, by decide +kernel⟩ ⟨Nat.le_of_ble_eq_true rfl, Nat.le_of_ble_eq_true rfl⟩) (jp_V (g := g) (jX_0 t1 t2) hK hC hS (P_r hP) (va_recv hK (P_r hP) (ci := 10) (q0 := 0) rfl rfl)) rfl rfl hl.1 rfl (lv_room (Nat.le_of_ble_eq_true rfl)) dL_say_4 ⟨Nat.le_of_ble_eq_true rfl, Nat.le_of_ble_eq_true rfl⟩)) (fun r9 e9 => ?_)
      subst e9
      refine lv_icmp_ge (tgt := 68) hx hb dL_say_7 (by decide) (fun c7 => ?_) (fun c7 => absurd (nI_le c8 (by omega)) c7)
      refine lv_aload_n hx hb dL_say_68 rfl (lv_at hl 1 rfl) ?_
      refine lv_aload_n hx hb dL_say_69 rfl (lv_at hl 2 rfl) ?_
      refine vp_callSi (va_Run.run (va_runV (As := []) (rest := [.ref (g.2.2.1 0 0)]) ⟨hx, hb, hml, hown, hts⟩ (n_J0_length_8abf5w l g t1 t2 ps b T.length f) (cwV 0 hts gd_RL_7 rfl rfl rfl ⟨rfl, by decide +kernel, by decide +kernel, by decide +kernel⟩ ⟨Nat.le_of_ble_eq_true rfl, Nat.le_of_ble_eq_true rfl⟩) (jp_V (g := g) (jX_0 t1 t2) hK hC hS (P_r hP) (va_recv hK (P_r hP) (ci := 10) (q0 := 0) rfl rfl)) rfl rfl hl.1 rfl (lv_room (Nat.le_of_ble_eq_true rfl)) dL_say_70 ⟨Nat.le_of_ble_eq_true rfl, Nat.le_of_ble_eq_true rfl⟩)) (fun r9 e9 => ?_)
      subst e9
      refine W.eq (g2 := F0 m 73 ls [.int (nZ T.length), .ref (g.2.2.1 0 0)]) (by rw [show (nI T.length : Int32) = nZ T.length from nIZ _]) ?_
      have ht := t_end (A := setT A0 (pT T (4 * i))) (k := T.length) (by rw [show (setT A0 (pT T (4 * i))).2.2.2.1 = pT T (4 * i) from rfl, pT_len]; omega) (by rw [show (setT A0 (pT T (4 * i))).2.2.2.1 = pT T (4 * i) from rfl, pT_len]; exact c8)
      rw [show (setT A0 (pT T (4 * i))).2.2.2.1 = pT T (4 * i) from rfl, pT_take c8, setT_2] at ht
      obtain ⟨σ1, hf1, hCA⟩ := ht σ hCA
      refine lw_cw (g := g) (nL := 5) (wr := ([(ps, .inr (10, [.ref b, .int 0, .int 0, .int 0])), (b, .inl (g.2.2.2.2.1, T.length, .inl (f)))] : va_W)) (as := [gI (nZ T.length)]) (t := []) hx hb hml hown hts hK hA ⟨Nat.le_of_ble_eq_true rfl, Nat.le_of_ble_eq_true rfl⟩ c_X9_end (ci := 9) rfl w5_L_say_23 v_X9_end ⟨rfl, rfl⟩ ⟨Nat.le_of_ble_eq_true rfl, Nat.le_of_ble_eq_true rfl⟩ dL_say_73 (k := 0) (j := 0) ⟨by decide +kernel, by decide +kernel⟩ rfl (gb_oks_c (v := gI (nZ T.length)) trivial gb_oks_n) rfl (Nat.le_of_ble_eq_true rfl) hf1 hP hD hS hl rfl (fun v9 σ9 H locs he hP hD hS => ?_) (Or.inr (Or.inl rfl))
      cases he
      refine W.eq (g2 := F0 m 76 ls [.int (1)]) rfl ?_
      refine lv_pop hx hb dL_say_76 rfl ?_
      refine W.widen (k := 0) (n := 0) (Nat.le_refl _) (Nat.le_refl _) ?_
      exact W.vret hx hb hr (fun t ht hW => ⟨⟨(), rfl, trivial, _, ⟨_, rfl, hCA⟩, by rw [ht]; exact hP, hD⟩, hS.F ht⟩) hS.2.2 dL_say_77
    | succ d ih =>
      intro i h9 σ H locs ls hl hP hD hS hCA hi
      refine lv_iload_n hx hb dL_say_2 rfl (lv_at hl 0 rfl) ?_
      refine lv_aload_n hx hb dL_say_3 rfl (lv_at hl 2 rfl) ?_
      refine vp_callSi (va_Run.run (va_runV (As := []) (rest := [.int (nI (4 * i))]) ⟨hx, hb, hml, hown, hts⟩ (n_J0_length_8abf5w l g t1 t2 ps b T.length f) (cwV 0 hts gd_RL_7 rfl rfl rfl ⟨rfl, by decide +kernel, by decide +kernel, by decide +kernel⟩ ⟨Nat.le_of_ble_eq_true rfl, Nat.le_of_ble_eq_true rfl⟩) (jp_V (g := g) (jX_0 t1 t2) hK hC hS (P_r hP) (va_recv hK (P_r hP) (ci := 10) (q0 := 0) rfl rfl)) rfl rfl hl.1 rfl (lv_room (Nat.le_of_ble_eq_true rfl)) dL_say_4 ⟨Nat.le_of_ble_eq_true rfl, Nat.le_of_ble_eq_true rfl⟩)) (fun r9 e9 => ?_)
      subst e9
      refine lv_icmp_ge (tgt := 68) hx hb dL_say_7 (by decide) (fun c7 => ?_) (fun c7 => ?_)
      · skip
        have c8 : T.length ≤ 4 * i := (nI_leI (by omega) (by omega)).mp c7
        refine lv_aload_n hx hb dL_say_68 rfl (lv_at hl 1 rfl) ?_
        refine lv_aload_n hx hb dL_say_69 rfl (lv_at hl 2 rfl) ?_
        refine vp_callSi (va_Run.run (va_runV (As := []) (rest := [.ref (g.2.2.1 0 0)]) ⟨hx, hb, hml, hown, hts⟩ (n_J0_length_8abf5w l g t1 t2 ps b T.length f) (cwV 0 hts gd_RL_7 rfl rfl rfl ⟨rfl, by decide +kernel, by decide +kernel, by decide +kernel⟩ ⟨Nat.le_of_ble_eq_true rfl, Nat.le_of_ble_eq_true rfl⟩) (jp_V (g := g) (jX_0 t1 t2) hK hC hS (P_r hP) (va_recv hK (P_r hP) (ci := 10) (q0 := 0) rfl rfl)) rfl rfl hl.1 rfl (lv_room (Nat.le_of_ble_eq_true rfl)) dL_say_70 ⟨Nat.le_of_ble_eq_true rfl, Nat.le_of_ble_eq_true rfl⟩)) (fun r9 e9 => ?_)
        subst e9
        refine W.eq (g2 := F0 m 73 ls [.int (nZ T.length), .ref (g.2.2.1 0 0)]) (by rw [show (nI T.length : Int32) = nZ T.length from nIZ _]) ?_
        have ht := t_end (A := setT A0 (pT T (4 * i))) (k := T.length) (by rw [show (setT A0 (pT T (4 * i))).2.2.2.1 = pT T (4 * i) from rfl, pT_len]; omega) (by rw [show (setT A0 (pT T (4 * i))).2.2.2.1 = pT T (4 * i) from rfl, pT_len]; exact c8)
        rw [show (setT A0 (pT T (4 * i))).2.2.2.1 = pT T (4 * i) from rfl, pT_take c8, setT_2] at ht
        obtain ⟨σ1, hf1, hCA⟩ := ht σ hCA
        refine lw_cw (g := g) (nL := 5) (wr := ([(ps, .inr (10, [.ref b, .int 0, .int 0, .int 0])), (b, .inl (g.2.2.2.2.1, T.length, .inl (f)))] : va_W)) (as := [gI (nZ T.length)]) (t := []) hx hb hml hown hts hK hA ⟨Nat.le_of_ble_eq_true rfl, Nat.le_of_ble_eq_true rfl⟩ c_X9_end (ci := 9) rfl w5_L_say_23 v_X9_end ⟨rfl, rfl⟩ ⟨Nat.le_of_ble_eq_true rfl, Nat.le_of_ble_eq_true rfl⟩ dL_say_73 (k := 0) (j := 0) ⟨by decide +kernel, by decide +kernel⟩ rfl (gb_oks_c (v := gI (nZ T.length)) trivial gb_oks_n) rfl (Nat.le_of_ble_eq_true rfl) hf1 hP hD hS hl rfl (fun v9 σ9 H locs he hP hD hS => ?_) (Or.inr (Or.inl rfl))
        cases he
        refine W.eq (g2 := F0 m 76 ls [.int (1)]) rfl ?_
        refine lv_pop hx hb dL_say_76 rfl ?_
        refine W.widen (k := 0) (n := 0) (Nat.le_refl _) (Nat.le_refl _) ?_
        exact W.vret hx hb hr (fun t ht hW => ⟨⟨(), rfl, trivial, _, ⟨_, rfl, hCA⟩, by rw [ht]; exact hP, hD⟩, hS.F ht⟩) hS.2.2 dL_say_77
      · skip
        have c8 : 4 * i < T.length := by
          rcases Nat.lt_or_ge (4 * i) T.length with h | h
          · exact h
          · exact absurd ((nI_leI (by omega) (by omega)).mpr h) c7
        refine lv_iconst (v := 0) hx hb dL_say_10 (by decide) ?_
        refine lv_istore_n (lv' := [(3, .int (0)), (2, .int (nI (4 * i))), (0, .ref (g.2.2.1 0 0)), (1, .ref (ps))]) hx hb dL_say_11 rfl hl (by decide) rfl (fun ls hl => ?_)
        refine lv_iconst (v := 0) hx hb dL_say_12 (by decide) ?_
        refine lv_istore (lv' := [(4, .int (0)), (3, .int (0)), (2, .int (nI (4 * i))), (0, .ref (g.2.2.1 0 0)), (1, .ref (ps))]) hx hb dL_say_13 hl (by decide) rfl (fun ls hl => ?_)
        refine in1 i 0 0 (by omega) c8 σ H locs ls hP hS hl (fun ls hl => ?_)
        refine in1 i 1 _ (by omega) c8 σ H locs ls hP hS hl (fun ls hl => ?_)
        refine in1 i 2 _ (by omega) c8 σ H locs ls hP hS hl (fun ls hl => ?_)
        refine in1 i 3 _ (by omega) c8 σ H locs ls hP hS hl (fun ls hl => ?_)
        have hV := tx4_n (pT T (4 * i)) (pc4_lt hT (4 * i)) (pc4_lt hT (4 * i + 1)) (pc4_lt hT (4 * i + 2)) (pc4_lt hT (4 * i + 3))
        rw [pT_4] at hV
        generalize (jsh (jsh (jsh (jsh 0 ||| nI (pc4 T (4 * i))) ||| nI (pc4 T (4 * i + 1))) ||| nI (pc4 T (4 * i + 2))) ||| nI (pc4 T (4 * i + 3))) = V at hV hl
        refine lv_iload hx hb dL_say_15 (lv_at hl 0 rfl) ?_
        refine lv_iconst (v := 4) hx hb dL_say_17 (by decide) ?_
        refine lv_icmp_ge (tgt := 56) hx hb dL_say_18 (by decide) (fun _ => ?_) (fun c9 => absurd (show nI 4 ≤ nI 4 from nI_le (by omega) (by omega)) c9)
        refine lv_aload_n hx hb dL_say_56 rfl (lv_at hl 3 rfl) ?_
        refine lv_iload_n hx hb dL_say_57 rfl (lv_at hl 1 rfl) ?_
        have ht := t_sign (A := setT A0 (pT T (4 * i))) V (by rw [show (setT A0 (pT T (4 * i))).2.2.2.1 = pT T (4 * i) from rfl, pT_len]; omega)
        rw [show (setT A0 (pT T (4 * i))).2.2.2.1 = pT T (4 * i) from rfl, hV, setT_2] at ht
        obtain ⟨σ1, hf1, hCA⟩ := ht σ hCA
        refine lw_cw (g := g) (nL := 5) (wr := ([(ps, .inr (10, [.ref b, .int 0, .int 0, .int 0])), (b, .inl (g.2.2.2.2.1, T.length, .inl (f)))] : va_W)) (as := [gI (V)]) (t := []) hx hb hml hown hts hK hA ⟨Nat.le_of_ble_eq_true rfl, Nat.le_of_ble_eq_true rfl⟩ c_X9_sign (ci := 9) rfl w5_L_say_17 v_X9_sign ⟨rfl, rfl⟩ ⟨Nat.le_of_ble_eq_true rfl, Nat.le_of_ble_eq_true rfl⟩ dL_say_58 (k := 0) (j := 0) ⟨by decide +kernel, by decide +kernel⟩ rfl (gb_oks_c (v := gI (V)) trivial gb_oks_n) rfl (Nat.le_of_ble_eq_true rfl) hf1 hP hD hS hl rfl (fun v9 σ9 H locs he hP hD hS => ?_) (Or.inl rfl)
        cases he
        refine W.eq (g2 := F0 m 61 ls [.int (nZ ((pT T (4 * i)).length + 4 : Nat))]) rfl ?_
        refine lv_pop hx hb dL_say_61 rfl ?_
        refine lv_iinc (v := nI (4 * (i + 1))) (lv' := [(2, .int (nI (4 * (i + 1)))), (4, .int (nI 4)), (3, .int (V)), (0, .ref (g.2.2.1 0 0)), (1, .ref (ps))]) hx hb dL_say_62 hl (k := 2) rfl (nI_add (4 * i) 4) (by decide) rfl (fun ls hl => ?_)
        refine lv_goto (tgt := 2) hx hb dL_say_65 (by decide) ?_
        exact ih (i + 1) (by omega) σ1 H locs ls (lv_sub hl [0, 3, 4] rfl) hP hD hS (by rw [show 4 * (i + 1) = 4 * i + 4 by omega]; exact hCA) (by omega)
  refine lv_iconst (v := 0) hx hb dL_say_0 (by decide) ?_
  refine lv_istore_n (lv' := [(2, .int (0)), (0, .ref (g.2.2.1 0 0)), (1, .ref ps)]) hx hb dL_say_1 rfl hl (by decide) rfl (fun ls hl => ?_)
  exact inner T.length 0 (by omega) σ0 s.heap [] ls hl hP hD hS h0 (by omega)
