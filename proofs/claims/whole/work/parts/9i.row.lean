/-! ROW: words of the throw -/
def gNE : String := "java/util/NoSuchElementException"
def gNS : List String := ["java/lang/RuntimeException", "java/lang/Exception"]
def gb_xB : List Cond := [.declares (Bundle.init0 "java/lang/RuntimeException"), .declares (Bundle.init0 "java/lang/Exception"), .declares (Bundle.init0 Bundle.tN), .castable gNE gNE]
theorem xB_of : ∀ w ∈ (vx_at0 RX9 343 gNE gNS).filter (fun w => !goodWord w), w ∈ gb_xB := by decide +kernel
theorem xB_tbl : ∀ w ∈ gb_xB, w ∈ lw_tbl := by decide +kernel
theorem xG_B : ∀ w ∈ (vx_at0 RX9 343 gNE gNS).filter goodWord, w ∈ gb_B := by
  have h : ∀ w ∈ (vx_at0 RX9 343 gNE gNS).filter goodWord, w ∈ lw_tbl := by decide +kernel
  exact fun w hw => List.mem_filter.mpr ⟨h w hw, (List.mem_filter.mp hw).2⟩
theorem xB_ot : ∀ w ∈ vx_at0 RX9 343 gNE gNS, vx_ot w = true := by decide +kernel
def gb_xw (U : State) : Prop := ∀ w ∈ gb_xB, w.before #[] U = true
theorem xB_tabs : ∀ w ∈ gb_xB, w.onTables = true := by decide +kernel
/-- the statics of Throwable's class, by a world that holds them not -/
def gb_xs (A : Nat → Prop) (U : State) (H : Heap) : Prop := vx_Zq Bundle.tN "UNASSIGNED_STACK" Bundle.steD A U H ∧ vx_Zq Bundle.tN "SUPPRESSED_SENTINEL" Bundle.listD A U H
theorem gb_xs.moved {A : Nat → Prop} {u U : State} {H : Heap} (hvm : u.vm.Alike U.vm) (h : gb_xs A u H) : gb_xs A U H := ⟨h.1.moved hvm, h.2.moved hvm⟩
theorem gb_xs.kept {A : Nat → Prop} {U : State} {H H1 : Heap} (h : gb_xs A U H) (hq : ∀ a : Nat, a < H.size → ¬ A a → H1[a]? = H[a]?) : gb_xs A U H1 := ⟨h.1.kept hq, h.2.kept hq⟩
theorem gb_xs.narrow {A B : Nat → Prop} {U : State} {H : Heap} (h : gb_xs A U H) (hAB : ∀ q, B q → A q) : gb_xs B U H := ⟨h.1.narrow hAB, h.2.narrow hAB⟩
theorem gb_xw.moved {s U : State} (hW : s.WarmedH U.vm) (h : gb_xw s) : gb_xw U := by
  intro w hw
  have hw' : w = .declares (Bundle.init0 "java/lang/RuntimeException") ∨ w = .declares (Bundle.init0 "java/lang/Exception") ∨ w = .declares (Bundle.init0 Bundle.tN) ∨ w = .castable gNE gNE := by
    simpa [gb_xB] using hw
  have h0 := h w hw
  rcases hw' with rfl | rfl | rfl | rfl
  · exact va_Nw.warmD hW h0
  · exact va_Nw.warmD hW h0
  · exact va_Nw.warmD hW h0
  · exact va_tabs rfl (rfl : (s.setVm U.vm).vm = U.vm) (by rw [Cond.castable_setVm hW.alike]; exact h0)
