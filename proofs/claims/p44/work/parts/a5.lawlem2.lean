/-! THE LAW: what holds at the head of its loop -/
theorem D_dropl {A : Nat → Prop} {a b b' : va_W} (h : va_D A (a ++ b)) (is : List Nat) (hn : va_nd is = true) (hs : is.map (fun i => b[i]?) = b'.map some) : va_D A (a ++ b') := D_c (va_D.part (D_c h) is hn hs)
theorem P_dropl {D : va_G} {a b b' : va_W} {H : Heap} (h : va_P D vwCl (a ++ b) H) (is : List Nat) (hs : is.filterMap (fun i => b[i]?) = b') : va_P D vwCl (a ++ b') H := va_P.app (P_l h) ((P_r h).sub is hs)
def jInv (k : Nat) (A : gb_Ab) : Prop := okX A.1 ∧ A.2.2.2.1 = [] ∧ sY A.1 ≤ 16 * (k : Int)
theorem sN_okX {u : gb_Ru} (h : uI u) : okX (sN u) := by
  intro b hb
  have hI := (sN_gd h).1
  refine ⟨?_, fun i k hi => absurd hi (Nat.not_lt_zero _)⟩
  show (0 : Int) ≤ sC (sN u) b
  exact (hI.2.2.2.1 b hb).1
theorem ldA_13 {A : gb_Ab} {T : List Int} {u : gb_Ru} (hA : wfA (ldA A (ldT T))) (h : (ldT T).1 = some (u, 13)) (hu : uI u) : rlE (ldT T) = 13 ∧ jInv 1 (ldA A (ldT T)) := by
  unfold rlE ldA
  rw [h]
  refine ⟨rfl, sN_okX hu, rfl, ?_⟩
  show (sN u).1 174 ≤ _
  rw [sN_0 (by omega)]
  omega
