/-! LAYING: the class's helpers -/
def bcE (a0 : Int32) : Int32 := ((((((((a0 - (((a0.toUInt32 >>> ((1 : Int32).toUInt32 &&& Int32.toUInt32 31)).toInt32) &&& 1431655765)) &&& 858993459) + ((((a0 - (((a0.toUInt32 >>> ((1 : Int32).toUInt32 &&& Int32.toUInt32 31)).toInt32) &&& 1431655765)).toUInt32 >>> ((2 : Int32).toUInt32 &&& Int32.toUInt32 31)).toInt32) &&& 858993459)) + (((((a0 - (((a0.toUInt32 >>> ((1 : Int32).toUInt32 &&& Int32.toUInt32 31)).toInt32) &&& 1431655765)) &&& 858993459) + ((((a0 - (((a0.toUInt32 >>> ((1 : Int32).toUInt32 &&& Int32.toUInt32 31)).toInt32) &&& 1431655765)).toUInt32 >>> ((2 : Int32).toUInt32 &&& Int32.toUInt32 31)).toInt32) &&& 858993459)).toUInt32 >>> ((4 : Int32).toUInt32 &&& Int32.toUInt32 31)).toInt32)) &&& 252645135) + (((((((a0 - (((a0.toUInt32 >>> ((1 : Int32).toUInt32 &&& Int32.toUInt32 31)).toInt32) &&& 1431655765)) &&& 858993459) + ((((a0 - (((a0.toUInt32 >>> ((1 : Int32).toUInt32 &&& Int32.toUInt32 31)).toInt32) &&& 1431655765)).toUInt32 >>> ((2 : Int32).toUInt32 &&& Int32.toUInt32 31)).toInt32) &&& 858993459)) + (((((a0 - (((a0.toUInt32 >>> ((1 : Int32).toUInt32 &&& Int32.toUInt32 31)).toInt32) &&& 1431655765)) &&& 858993459) + ((((a0 - (((a0.toUInt32 >>> ((1 : Int32).toUInt32 &&& Int32.toUInt32 31)).toInt32) &&& 1431655765)).toUInt32 >>> ((2 : Int32).toUInt32 &&& Int32.toUInt32 31)).toInt32) &&& 858993459)).toUInt32 >>> ((4 : Int32).toUInt32 &&& Int32.toUInt32 31)).toInt32)) &&& 252645135).toUInt32 >>> ((8 : Int32).toUInt32 &&& Int32.toUInt32 31)).toInt32)) + ((((((((a0 - (((a0.toUInt32 >>> ((1 : Int32).toUInt32 &&& Int32.toUInt32 31)).toInt32) &&& 1431655765)) &&& 858993459) + ((((a0 - (((a0.toUInt32 >>> ((1 : Int32).toUInt32 &&& Int32.toUInt32 31)).toInt32) &&& 1431655765)).toUInt32 >>> ((2 : Int32).toUInt32 &&& Int32.toUInt32 31)).toInt32) &&& 858993459)) + (((((a0 - (((a0.toUInt32 >>> ((1 : Int32).toUInt32 &&& Int32.toUInt32 31)).toInt32) &&& 1431655765)) &&& 858993459) + ((((a0 - (((a0.toUInt32 >>> ((1 : Int32).toUInt32 &&& Int32.toUInt32 31)).toInt32) &&& 1431655765)).toUInt32 >>> ((2 : Int32).toUInt32 &&& Int32.toUInt32 31)).toInt32) &&& 858993459)).toUInt32 >>> ((4 : Int32).toUInt32 &&& Int32.toUInt32 31)).toInt32)) &&& 252645135) + (((((((a0 - (((a0.toUInt32 >>> ((1 : Int32).toUInt32 &&& Int32.toUInt32 31)).toInt32) &&& 1431655765)) &&& 858993459) + ((((a0 - (((a0.toUInt32 >>> ((1 : Int32).toUInt32 &&& Int32.toUInt32 31)).toInt32) &&& 1431655765)).toUInt32 >>> ((2 : Int32).toUInt32 &&& Int32.toUInt32 31)).toInt32) &&& 858993459)) + (((((a0 - (((a0.toUInt32 >>> ((1 : Int32).toUInt32 &&& Int32.toUInt32 31)).toInt32) &&& 1431655765)) &&& 858993459) + ((((a0 - (((a0.toUInt32 >>> ((1 : Int32).toUInt32 &&& Int32.toUInt32 31)).toInt32) &&& 1431655765)).toUInt32 >>> ((2 : Int32).toUInt32 &&& Int32.toUInt32 31)).toInt32) &&& 858993459)).toUInt32 >>> ((4 : Int32).toUInt32 &&& Int32.toUInt32 31)).toInt32)) &&& 252645135).toUInt32 >>> ((8 : Int32).toUInt32 &&& Int32.toUInt32 31)).toInt32)).toUInt32 >>> ((16 : Int32).toUInt32 &&& Int32.toUInt32 31)).toInt32)) &&& 63)
theorem bc_64 : ∀ x : Fin 64, bcE (nZ (x.val : Int)) = nZ ((pc x.val : Nat) : Int) := by decide +kernel
theorem p_bit (σ : gb_M) {x : Nat} (hx : x < 64) : f_J6_bitCount_0f7a4 [gI (nZ x)] σ = some (some (gI (nZ (pc x))), σ) := by
  have h : bcE (nZ x) = nZ (pc x) := bc_64 ⟨x, hx⟩
  rw [← h]
  exact e_J6_bitCount_0f7a4 (nZ x) σ
section UL
variable {σ : gb_M} {j : Nat} {st : gb_St} {b : Nat}
theorem p_unlay (hI : gb_IV st) (hb : b < 6) {l : gb_Ly} (hl : okL l) (hC : gb_SC σ j (lyS st b l)) : ∃ σ', f_X7_unlay [gR 10 j, gI (nZ b), gI (nZ l.2.1)] σ = some (none, σ') ∧ gb_SC σ' j st ∧ gb_fS j σ σ' := by
  obtain ⟨⟨cW, cP, cN, cT, cL, cH, cY, cQ⟩, ⟨rK, rC, rO, rA⟩, iw, ik, io, ic, ip, il, id⟩ := id hC
  obtain ⟨y1, y2, q1, q2⟩ := id
  have hlen := (il b hb).1
  obtain ⟨l1, l2, l3, l4, l5⟩ := hl
  have est : st = setB (lyS st b l) b (sB st b) := by unfold lyS; rw [setB2, setB_id]
  have fin : ∀ σ', gb_fS j σ σ' → gb_RS σ' j (setB (lyS st b l) b (sB st b)) → gb_SC σ' j st := fun σ' hf hr => ⟨by rw [← est] at hr; exact hr, fS_RR (s := st) hf hC.2.1, hI⟩
  have eB : sB (lyS st b l) b = lay1 (sB st b) l.1 l.2.1 l.2.2 := sB_s
  have nN := cN b hb
  have nT := cT b hb
  have nH := cH b l.1 hb l1
  rw [eB] at hlen nN nT nH
  rw [lT_lay] at nT
  rw [lG_lay, if_pos rfl] at nH
  have hlT := lG_r hI.2.2.2.2.2.1 hb 0
  have hlG := lG_r hI.2.2.2.2.2.1 hb l.1
  have hLl := (hI.2.2.2.2.2.1 b hb).1
  have nL := cL b
  simp only [eB] at nL
  cases h : onB (sB st b) l.1 l.2.2 with
  | false =>
    have hl : lay1 (sB st b) l.1 l.2.1 l.2.2 = sB st b ++ [(l.1, l.2.1, l.2.2)] := by unfold lay1; rw [h]; exact if_neg (by simp)
    have el : (lay1 (sB st b) l.1 l.2.1 l.2.2).length = (sB st b).length + 1 := by rw [hl]; simp
    rw [el] at nN hlen
    obtain ⟨g1, g2, g3⟩ := nL (sB st b).length hb (by rw [el]; omega)
    rw [hl, lz_app2] at g1 g2 g3
    dsimp only at g1 g2 g3
    have e1 : (((sB st b).length + 1 : Nat) : Int) - 1 = (((sB st b).length : Nat) : Int) := by omega
    rw [e_X7_unlay]
    simp (disch := omega) only [nN, g_in, z_tn, Int.toNat_natCast, z0, z1, z_eq, if_neg, z_sub, e1, p_place, g_b1, g1, g2, g3, z6, z_mul, z_add, nT, nH, si_k, si_s, si_i, sj_i, if_pos]
    refine ⟨_, rfl, ?_, ?_⟩
    · refine fin _ (fS_si (fS_si (fS_si (fS_si fS_rf (by omega)) (by omega)) (by omega)) (by omega)) ?_
      refine RS_set hC.1 (fun x => ?_) (fun x => ?_) (fun x => ?_) il ?_ (fun k hk hne => ?_) ?_ (fun k hk hne => ?_) (fun i hi => ?_) (fun k i hk hne hi => ?_) (fun k hk => ?_) (fun k m hk hne hm => ?_)
      · simp (disch := omega) only [si_k, si_s, si_i, sj_i]
      · simp (disch := omega) only [si_k, si_s, si_i, sj_i]
      · simp (disch := omega) only [si_k, si_s, si_i, sj_i]
      · simp (disch := omega) only [si_k, si_s, si_i, sj_i]
      · simp (disch := omega) only [si_k, si_s, si_i, sj_i]
      · simp (disch := omega) only [si_k, si_s, si_i, sj_i]
        exact congrArg nZ (by omega)
      · simp (disch := omega) only [si_k, si_s, si_i, sj_i]
      · have q := nL i hb (by rw [el]; omega)
        rw [hl, lz_app1 hi] at q
        simp (disch := omega) only [si_k, si_s, si_i, sj_i]
        exact q
      · simp (disch := omega) only [si_k, si_s, si_i, sj_i, and_self]
      · by_cases e : k = l.1
        · subst e
          simp (disch := omega) only [si_k, si_s, si_i, sj_i]
          exact congrArg nZ (by omega)
        · have q := cH b k hb hk
          rw [eB, lG_lay, if_neg (fun z => e z.symm), Int.add_zero] at q
          simp (disch := omega) only [si_k, si_s, si_i, sj_i]
          exact q
      · simp (disch := omega) only [si_k, si_s, si_i, sj_i]
    · exact fS_si (fS_si (fS_si (fS_si fS_rf (by omega)) (by omega)) (by omega)) (by omega)
  | true =>
    obtain ⟨h1, h2, h3⟩ := onB_t h
    have hl : lay1 (sB st b) l.1 l.2.1 l.2.2 = (sB st b).dropLast ++ [(l.1, (lz (sB st b) ((sB st b).length - 1)).2.1 + l.2.1, l.2.2)] := by unfold lay1; rw [h]; exact if_pos rfl
    have el : (lay1 (sB st b) l.1 l.2.1 l.2.2).length = (sB st b).length := by rw [lay1_len, if_pos h]
    rw [el] at nN hlen
    obtain ⟨u1, u2, u3, u4, u5⟩ := lz_ok hI.2.2.2.2.2.1 hb (show (sB st b).length - 1 < (sB st b).length by omega)
    obtain ⟨g1, g2, g3⟩ := nL ((sB st b).length - 1) hb (by rw [el]; omega)
    have ez : lz (lay1 (sB st b) l.1 l.2.1 l.2.2) ((sB st b).length - 1) = (l.1, (lz (sB st b) ((sB st b).length - 1)).2.1 + l.2.1, l.2.2) := by
      rw [hl]
      have := lz_app2 (L := (sB st b).dropLast) (l := (l.1, (lz (sB st b) ((sB st b).length - 1)).2.1 + l.2.1, l.2.2))
      rwa [List.length_dropLast] at this
    rw [ez] at g1 g2 g3
    dsimp only at g1 g2 g3
    have e1 : ((sB st b).length : Int) - 1 = (((sB st b).length - 1 : Nat) : Int) := by omega
    rw [e_X7_unlay]
    simp (disch := omega) only [nN, g_in, z_tn, Int.toNat_natCast, z0, z1, z_eq, if_neg, z_sub, e1, p_place, g_b1, g1, g2, g3, z6, z_mul, z_add, nT, nH, si_k, si_s, si_i, sj_i, if_pos]
    refine ⟨_, rfl, ?_, ?_⟩
    · refine fin _ (fS_si (fS_si (fS_si fS_rf (by omega)) (by omega)) (by omega)) ?_
      refine RS_set hC.1 (fun x => ?_) (fun x => ?_) (fun x => ?_) il ?_ (fun k hk hne => ?_) ?_ (fun k hk hne => ?_) (fun i hi => ?_) (fun k i hk hne hi => ?_) (fun k hk => ?_) (fun k m hk hne hm => ?_)
      · simp (disch := omega) only [si_k, si_s, si_i, sj_i]
      · simp (disch := omega) only [si_k, si_s, si_i, sj_i]
      · simp (disch := omega) only [si_k, si_s, si_i, sj_i]
      · simp (disch := omega) only [si_k, si_s, si_i, sj_i]
        exact nN
      · simp (disch := omega) only [si_k, si_s, si_i, sj_i]
      · simp (disch := omega) only [si_k, si_s, si_i, sj_i]
        exact congrArg nZ (by omega)
      · simp (disch := omega) only [si_k, si_s, si_i, sj_i]
      · by_cases ei : i = (sB st b).length - 1
        · subst ei
          simp (disch := omega) only [si_k, si_s, si_i, sj_i, g1, g3, h2, h3]
          exact ⟨trivial, congrArg nZ (by omega), trivial⟩
        · have q := nL i hb (by rw [el]; omega)
          rw [hl, lz_app1 (by rw [List.length_dropLast]; omega), lz_dl (by omega)] at q
          simp (disch := omega) only [si_k, si_s, si_i, sj_i]
          exact q
      · simp (disch := omega) only [si_k, si_s, si_i, sj_i, and_self]
      · by_cases e : k = l.1
        · subst e
          simp (disch := omega) only [si_k, si_s, si_i, sj_i]
          exact congrArg nZ (by omega)
        · have q := cH b k hb hk
          rw [eB, lG_lay, if_neg (fun z => e z.symm), Int.add_zero] at q
          simp (disch := omega) only [si_k, si_s, si_i, sj_i]
          exact q
      · simp (disch := omega) only [si_k, si_s, si_i, sj_i]
    · exact fS_si (fS_si (fS_si fS_rf (by omega)) (by omega)) (by omega)
end UL
