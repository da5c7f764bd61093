/-! MET: from a block to a method's contract -/
def gb_la (i : Nat) (vs : List gb_V) : gb_L := match vs with
  | [] => []
  | v :: t => (i, v) :: gb_la (i + gb_ct v) t
theorem gb_la_s (g : gb_G) : ∀ (vs : List gb_V) (i : Nat), lv_args i (vs.map (gb_v g)) = (gb_la i vs).map (gb_q g)
  | [], _ => rfl
  | v :: t, i => by
    have h : (if (gb_v g v).category = 2 then i + 2 else i + 1) = i + gb_ct v := by
      rcases v with x | x | x <;> rfl
    show (i, gb_v g v) :: lv_args (if (gb_v g v).category = 2 then i + 2 else i + 1) (t.map (gb_v g)) = _
    rw [h, gb_la_s g t]
    rfl
theorem gb_la_ok : ∀ (vs : List gb_V) (i : Nat), gb_oks vs → gb_okl (gb_la i vs)
  | [], _, _ => fun q h => by cases h
  | v :: t, i, h => fun q hq => by
    rcases List.mem_cons.mp hq with rfl | hq
    · exact gb_oks_h h
    · exact gb_la_ok t _ (gb_oks_t h) q hq
theorem gb_sl_len (g : gb_G) : ∀ vs : List gb_V, (lg_sl (vs.map (gb_v g))).length = gb_cs vs
  | [] => rfl
  | v :: t => by
    have h := gb_sl_len g t
    unfold lg_sl at h ⊢
    rw [List.map_cons, List.flatMap_cons, List.length_append, h]
    rcases v with x | x | x <;> rfl
def gb_mf (nL : Nat) (cd : gb_C) : gb_F := fun as σ => gb_gd (Nat.ble (gb_cs as) nL) (cd (gb_la 0 as) [] σ)
def gb_rt (rk : Nat) : Option FieldType := match rk with
  | 0 => none
  | 1 => some .int
  | 2 => some .boolean
  | _ => some .long
theorem gb_met {own : String} {y : MethodName} {cc : ByteArray} {nL rk : Nat} {rm : Room} {cd : gb_C} (hy : y.cls = own) (hp : plainName y.cls = true) (hrm : rm.cells = 0 ∧ rm.slots = 0) (h : gb_S own cc nL rm rk 0 cd) : ∀ l, gb_Met l y cc nL (gb_rt rk) rk rm (gb_mf nL cd) := by
  intro l g as σ out sz has hf
  unfold gb_mf at hf
  obtain ⟨hq, hcd⟩ := gb_gd_s hf
  refine Met.ofW (cc := cc) (maxL := nL) (ret := gb_rt rk) hp rfl ?_
  intro p e s m args below meth c s₁ B hml hv
  obtain ⟨rfl, hsz, hP, hK, hD0⟩ := hv
  have hx := B.exec
  have hb := B.bytes
  have hr := B.returns
  have hts := atoms_spec (ws := .code y cc nL (gb_rt rk) :: gb_B) B.pre
  have hown : s.vm.findClass y.cls = some m.cls := findClass_of_methodNamed B.named
  have hlocks := B.notSynchronized
  subst hsz
  have hl := lv_entry (as.map (gb_v g)) (n := nL) (by rw [gb_sl_len]; exact Nat.le_of_ble_eq_true hq)
  rw [lg_entry_eq]
  rw [gb_la_s] at hl
  generalize (lg_sl (as.map (gb_v g)) ++ List.replicate (nL - (lg_sl (as.map (gb_v g))).length) Slot.unset).toArray = arr at hl ⊢
  have hDs : ∀ u, va_D (va_A (gb_ws g σ) s.heap.size) (gb_ws g u) := by
    intro u
    have hadr : ∀ (k : Nat) (q : Nat × va_E), (gb_ws g u)[k]? = some q → ∃ e, (gb_ws g σ)[k]? = some (q.1, e) := by
      intro k q hk
      unfold gb_ws at hk ⊢
      rw [List.getElem?_map] at hk ⊢
      cases hz : gb_pl[k]? with
      | none => rw [hz] at hk; cases hk
      | some r =>
        rw [hz] at hk
        cases hk
        exact ⟨_, rfl⟩
    refine ⟨fun i j a b hi hj hab => ?_, fun k q hk => ?_⟩
    · obtain ⟨e1, h1⟩ := hadr i a hi
      obtain ⟨e2, h2⟩ := hadr j b hj
      exact hD0.1 i j _ _ h1 h2 hab
    · obtain ⟨e1, h1⟩ := hadr k q hk
      exact Or.inl ⟨k, e1, h1⟩
  refine h (Qo := fun o => MQ below (gb_Q g rk o (va_A (gb_ws g σ) s.heap.size)) _ s 0 0 (va_A (gb_ws g σ) s.heap.size)) ⟨hx, hb, hml, hy ▸ hown, fun w hw => hts w (List.mem_cons_of_mem _ hw), hK, fun q hq => Or.inr hq, hDs, ⟨Nat.zero_le _, Nat.zero_le _⟩, ?_⟩ (gb_la 0 as) [] σ out (gb_la_ok as 0 has) (fun w hw => by cases hw) hcd s.heap [] arr hP va_S.rf hl
  intro v u H locs arr' pc hP' hS' hrd
  have hBs : ∀ t : State, t.heap = H → s.WarmedH t.vm → gb_Bs g (va_A (gb_ws g σ) s.heap.size) u t := fun t ht hW => ⟨by rw [ht]; exact hP', va_K.moved hW.alike hK, hDs u⟩
  unfold gb_rd at hrd
  split at hrd
  · exact W.vret hx hb hr (fun t ht hW => ⟨⟨u, rfl, ⟨rfl, rfl⟩, hBs t ht hW⟩, hS'.F ht⟩) hS'.2.2 hrd
  · next x => exact W.iret (v := x) hx hb hr (fun t ht hW => ⟨⟨x, u, rfl, ⟨rfl, rfl⟩, hBs t ht hW⟩, hS'.F ht⟩) hS'.2.2 hrd
  · next x => exact W.zret (v := x) (ty := .boolean) hx hb hr (by show Value.int (x &&& 1) = _; rw [hrd.2]) (fun t ht hW => ⟨⟨x, u, rfl, ⟨rfl, rfl⟩, hBs t ht hW⟩, hS'.F ht⟩) hS'.2.2 hrd.1
  · next x => exact W.lret (v := x) hx hb hr (fun t ht hW => ⟨⟨x, u, rfl, ⟨rfl, rfl⟩, hBs t ht hW⟩, hS'.F ht⟩) hS'.2.2 hrd
  · exact hrd.elim
theorem gb_met0 {y : MethodName} {cc : ByteArray} {nL rk : Nat} {ret : Option FieldType} {rm : Room} : ∀ l, gb_Met l y cc nL ret rk rm (fun _ _ => none) := by
  intro l g as σ out sz has hf
  cases hf
/-! tables of blocks, words -/
def gb_tb (bs : List (Nat × (gb_K → gb_C))) : gb_K → gb_K := fun κ q => match bs with
  | [] => fun _ _ _ => none
  | b :: t => match Nat.beq b.1 q with
    | true => b.2 κ
    | false => gb_tb t κ q
theorem gb_tb_li : ∀ {bs : List (Nat × (gb_K → gb_C))}, (∀ b ∈ bs, gb_Li b.2) → ∀ q, gb_Li (fun κ => gb_tb bs κ q)
  | [], _, _ => gb_li0 _
  | b :: t, h, q => by
    unfold gb_tb
    cases Nat.beq b.1 q with
    | true => exact h b List.mem_cons_self
    | false => exact gb_tb_li (fun c hc => h c (List.mem_cons_of_mem _ hc)) q
def gb_n : gb_K := fun _ _ _ _ => none
section STB
variable {own : String} {cc : ByteArray} {nL : Nat} {R : Room} {rk : Nat}
theorem gb_S_n (q : Nat) : gb_S own cc nL R rk q (gb_n q) := by
  intro p l e s m args below meth c g A cells slots Qo X lv st σ out hl hs ho
  cases ho
theorem gb_tb_S : ∀ {bs : List (Nat × (gb_K → gb_C))}, (∀ b ∈ bs, ∀ κ : gb_K, (∀ q, gb_S own cc nL R rk q (κ q)) → gb_S own cc nL R rk b.1 (b.2 κ)) → ∀ κ : gb_K, (∀ q, gb_S own cc nL R rk q (κ q)) → ∀ q, gb_S own cc nL R rk q (gb_tb bs κ q)
  | [], _, _, _, q => gb_S_n q
  | b :: t, h, κ, hκ, q => by
    unfold gb_tb
    cases hb : Nat.beq b.1 q with
    | true =>
      have : b.1 = q := Nat.eq_of_beq_eq_true hb
      subst this
      exact h b List.mem_cons_self κ hκ
    | false => exact gb_tb_S (fun c hc => h c (List.mem_cons_of_mem _ hc)) κ hκ q
end STB
theorem gb_mem1 {w : Cond} (i : Nat) (h : lw_tbl[i]? = some w) (hg : goodWord w = true) : w ∈ gb_B := List.mem_filter.mpr ⟨List.mem_of_getElem? h, hg⟩
theorem gb_l4 {a b c d : Cond} (h1 : a ∈ gb_B) (h2 : b ∈ gb_B) (h3 : c ∈ gb_B) (h4 : d ∈ gb_B) : ∀ w ∈ ([a, b, c, d] : List Cond), w ∈ gb_B := List.forall_mem_cons.mpr ⟨h1, List.forall_mem_cons.mpr ⟨h2, List.forall_mem_cons.mpr ⟨h3, List.forall_mem_cons.mpr ⟨h4, fun _ h => absurd h List.not_mem_nil⟩⟩⟩⟩
theorem gb_l5 {a b c d e : Cond} (h1 : a ∈ gb_B) (h2 : b ∈ gb_B) (h3 : c ∈ gb_B) (h4 : d ∈ gb_B) (h5 : e ∈ gb_B) : ∀ w ∈ ([a, b, c, d, e] : List Cond), w ∈ gb_B := List.forall_mem_cons.mpr ⟨h1, gb_l4 h2 h3 h4 h5⟩
abbrev gb_rm (f n : Nat) : Room := { frames := f, cells := 0, slots := 0, locals := n }
/-! the targets of a switch -/
def gb_TS (own : String) (cc : ByteArray) (nL : Nat) (R : Room) (rk pc : Nat) (ts : List gb_C) (offs : List Int) : Prop := ∀ (i : Nat) (t : gb_C), ts[i]? = some t → ∃ (off : Int) (tgt : Nat), offs[i]? = some off ∧ (pc : Int) + off = (tgt : Int) ∧ gb_S own cc nL R rk tgt t
section STS
variable {own : String} {cc : ByteArray} {nL : Nat} {R : Room} {rk pc : Nat}
theorem gb_tsl0 : gb_TS own cc nL R rk pc [] [] := fun i t h => by simp at h
theorem gb_tslc {off : Int} {tgt : Nat} {t : gb_C} {ts : List gb_C} {offs : List Int} (ht : (pc : Int) + off = (tgt : Int)) (h : gb_S own cc nL R rk tgt t) (hs : gb_TS own cc nL R rk pc ts offs) : gb_TS own cc nL R rk pc (t :: ts) (off :: offs)
  | 0, _, h0 => by cases h0; exact ⟨off, tgt, rfl, ht, h⟩
  | i + 1, u, h0 => hs i u h0
theorem gb_tsl {ts : List gb_C} {offs : List Int} (h : gb_TS own cc nL R rk pc ts offs) : ∀ (i : Nat) (t : gb_C), ts[i]? = some t → ∃ (off : Int) (tgt : Nat), (offs.toArray)[i]? = some off ∧ (pc : Int) + off = (tgt : Int) ∧ gb_S own cc nL R rk tgt t := fun i t h0 => by
  obtain ⟨off, tgt, h1, h2, h3⟩ := h i t h0
  exact ⟨off, tgt, by rw [List.getElem?_toArray]; exact h1, h2, h3⟩
end STS
/-! a name that nothing looks through -/
noncomputable def gb_hide (f : gb_F) : gb_F := Classical.choose (⟨f, rfl⟩ : ∃ g, g = f)
theorem gb_hide_eq (f : gb_F) : gb_hide f = f := Classical.choose_spec (⟨f, rfl⟩ : ∃ g, g = f)
theorem gb_hide_at (f : gb_F) (as : List gb_V) (σ : gb_M) : gb_hide f as σ = f as σ := congrFun (congrFun (gb_hide_eq f) as) σ
theorem gb_hide_c {y : MethodName} {b : ByteArray} {nL : Nat} {ret : Option FieldType} {rk : Nat} {rm : Room} {f : gb_F} (h : ∀ l, gb_Met l y b nL ret rk rm f) : ∀ l, gb_Met l y b nL ret rk rm (gb_hide f) := by
  rw [gb_hide_eq]
  exact h
