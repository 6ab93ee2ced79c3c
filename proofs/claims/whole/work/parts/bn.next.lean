/-! ===== the reference's next token ===== -/
def TokR (b : TS) (g : Nat → Nat) (L p : Nat) : Prop := tI b 92 0 6 = Int32.ofNat (tk g L p) ∧
  (if tk g L p < L then (if 97 ≤ g (tk g L p) ∧ g (tk g L p) ≤ 122 then tI b 92 0 5 = 1 ∧ tI b 92 0 4 = Int32.ofNat (eW g L (tk g L p))
    else if 48 ≤ g (tk g L p) ∧ g (tk g L p) ≤ 57 then tI b 92 0 5 = (if eD g L (tk g L p) - tk g L p ≤ 7 then 2 else 4) ∧ tI b 92 0 4 = Int32.ofNat (eD g L (tk g L p)) ∧ tI b 92 0 7 = nv g (tk g L p) (min (eD g L (tk g L p) - tk g L p) 7)
    else tI b 92 0 5 = (if g (tk g L p) = 59 then 3 else 4) ∧ tI b 92 0 4 = Int32.ofNat (tk g L p + 1)) else tI b 92 0 5 = 5)
def tbg (b : TS) (s : Nat) (k : Int32) : TS := sI (sI (sI b 92 0 6 (Int32.ofNat s)) 92 0 5 k) 92 0 7 0
theorem tbg_c {b : TS} {s : Nat} {k : Int32} : chF [] FqB b (tbg b s k) ∧ Wr b (tbg b s k) ∧ tI (tbg b s k) 92 0 4 = tI b 92 0 4 ∧ tI (tbg b s k) 92 0 5 = k ∧ tI (tbg b s k) 92 0 6 = Int32.ofNat s ∧ tI (tbg b s k) 92 0 7 = 0 := by
  refine ⟨chF_92q (chF_92q (chF_92q (chF_r _ _ _) 6 _ (by omega)) 5 _ (by omega)) 7 _ (by omega), (((Wr.rf _).cI _ _ _ _).cI _ _ _ _).cI _ _ _ _, ?_, ?_, ?_, ?_⟩ <;> unfold tbg
  · rw [tI_sI, if_neg (fun w => absurd w.2.2 (by decide)), tI_sI, if_neg (fun w => absurd w.2.2 (by decide)), tI_sI, if_neg (fun w => absurd w.2.2 (by decide))]
  · rw [tI_sI, if_neg (fun w => absurd w.2.2 (by decide)), tI_sI, if_pos ⟨rfl, rfl, rfl⟩]
  · rw [tI_sI, if_neg (fun w => absurd w.2.2 (by decide)), tI_sI, if_neg (fun w => absurd w.2.2 (by decide)), tI_sI, if_pos ⟨rfl, rfl, rfl⟩]
  · rw [tI_sI, if_pos ⟨rfl, rfl, rfl⟩]
/-- from the token's first sign -/
theorem y216_T {g : Nat → Nat} {L s : Nat} {b : TS} (h : SnB b g L) (hs : s ≤ L) (hn : s < L → ¬ g s = 32) (h4 : tI b 92 0 4 = Int32.ofNat s) : ∃ b', (∀ z, Ru 216 0 [(0, aR (some (92, 0)))] [] (enc 2 b z) = some (.inl none, enc 2 b' z)) ∧ chF [] FqB b b' ∧ Wr b b' ∧ TokR b' g L s := by
  have hF := h.1
  have L6 := h.2.1
  have hL := h.2.2.1
  have hT : tk g L s = s := rE_out (fun w => hn w.1 (by omega))
  by_cases hsL : s < L
  · have e1 : ¬ Int32.ofNat L ≤ Int32.ofNat s := by rw [o_le (by omega) (by omega)]; omega
    have e1' : ¬ Int32.ofNat s = Int32.ofNat L := fun w => by
      have := o_inj (by omega) (by omega) w
      omega
    obtain ⟨v, v1, v2⟩ := h.2.2.2.1 s hsL
    obtain ⟨k1, k2, k3, k4, k5, k6, k7, k8⟩ := ne_48 (n := g s) (by omega)
    have g1 : (Int32.ofNat s).toNatClampNeg = s := o_ix (by omega)
    have g2 : ¬ Int32.ofNat s < 0 := o_lt0 (by omega)
    have g3 : s < 600 := by omega
    have n32 : ¬ Int32.ofNat (g s) = 32 := fun w => hn hsL (k8.mp w)
    have n10 : ¬ (1 : Int32) = 0 := by decide
    by_cases wW : 97 ≤ g s ∧ g s ≤ 122
    · obtain ⟨c1, c2, c3, c4, c5, c6⟩ := tbg_c (b := b) (s := s) (k := 1)
      obtain ⟨b', d1, d2, d3, d4, d5, d6⟩ := y216_W (L - s - 1) s _ (SnB_c h (q2s c1) c2) (by omega) (c3.trans h4)
      have a1 : ¬ Int32.ofNat (g s) < 97 := fun q => by have := k4.mp q; omega
      have a2 : ¬ (122 : Int32) < Int32.ofNat (g s) := fun q => by have := k5.mp q; omega
      have a3 : ¬ Int32.ofNat (g s) < 48 := fun q => by have := k1.mp q; omega
      have a4 : (57 : Int32) < Int32.ofNat (g s) := k2.mpr (by omega)
      have eE : eW g L s = eW g L (s + 1) := rE_in ⟨hsL, wW⟩
      refine ⟨b', fun z => ?_, chF_t c1 d2, c2.t d3, ?_⟩
      · refine Eq.trans ?_ (d1 z)
        rw [lf_216_0]
        simp (config := {decide := true}) only [gfI_enc, gfL_enc, gfR_enc, pfI_enc, pfL_enc, pfR_enc, Option.bind_some, cI_v, cL_v, cF_v, cD_v, cR_v, cV_v, cI_x, cL_x, cR_x, cV_x, gz_0, gz_1, acc_enc, tI_sI, tL_sI, tR_sI, tN_sI, tZ_sI, tC_sI, tc_sI, tz_sI, tI_sL, tL_sL, tR_sL, tN_sL, tZ_sL, tC_sL, tc_sL, tz_sL, tI_sR, tL_sR, tR_sR, tN_sR, tZ_sR, tC_sR, tc_sR, tz_sR, tI_sZ, tL_sZ, tR_sZ, tN_sZ, tZ_sZ, tC_sZ, tc_sZ, tz_sZ, tI_sC, tL_sC, tR_sC, tN_sC, tZ_sC, tC_sC, tc_sC, tz_sC, tI_aC, tL_aC, tR_aC, tN_aC, tZ_aC, tC_aC, tc_aC, tz_aC, tI_rmL, tL_rmL, tR_rmL, tN_rmL, tZ_rmL, tC_rmL, tc_rmL, tz_rmL, tI_mk, tL_mk, tR_mk, tN_mk, tZ_mk, tC_mk, tc_mk, tz_mk, tI_pushL, tL_pushL, tR_pushL, tN_pushL, tZ_pushL, tC_pushL, tc_pushL, tz_pushL, tI_pushB, tL_pushB, tR_pushB, tN_pushB, tZ_pushB, tC_pushB, tc_pushB, tz_pushB, tI_cpL, tL_cpL, tR_cpL, tN_cpL, tZ_cpL, tC_cpL, tc_cpL, tz_cpL, eq_self, true_and, and_true, false_and, and_false, if_true, if_false, reduceIte, ite_true, ite_false, not_true_eq_false, not_false_eq_true, frN_92 hF, h4, hL, e1, frR_92_2 hF, frN_84 hF, frZ_84 hF, gaI_enc, g1, g2, g3, v, n32, e1', a1, a2, a3, a4]
        rw [lf_216_108, if_neg n10, lf_216_137]
        simp (config := {decide := true}) only [gfI_enc, gfL_enc, gfR_enc, pfI_enc, pfL_enc, pfR_enc, Option.bind_some, cI_v, cL_v, cF_v, cD_v, cR_v, cV_v, cI_x, cL_x, cR_x, cV_x, gz_0, gz_1, acc_enc, tI_sI, tL_sI, tR_sI, tN_sI, tZ_sI, tC_sI, tc_sI, tz_sI, tI_sL, tL_sL, tR_sL, tN_sL, tZ_sL, tC_sL, tc_sL, tz_sL, tI_sR, tL_sR, tR_sR, tN_sR, tZ_sR, tC_sR, tc_sR, tz_sR, tI_sZ, tL_sZ, tR_sZ, tN_sZ, tZ_sZ, tC_sZ, tc_sZ, tz_sZ, tI_sC, tL_sC, tR_sC, tN_sC, tZ_sC, tC_sC, tc_sC, tz_sC, tI_aC, tL_aC, tR_aC, tN_aC, tZ_aC, tC_aC, tc_aC, tz_aC, tI_rmL, tL_rmL, tR_rmL, tN_rmL, tZ_rmL, tC_rmL, tc_rmL, tz_rmL, tI_mk, tL_mk, tR_mk, tN_mk, tZ_mk, tC_mk, tc_mk, tz_mk, tI_pushL, tL_pushL, tR_pushL, tN_pushL, tZ_pushL, tC_pushL, tc_pushL, tz_pushL, tI_pushB, tL_pushB, tR_pushB, tN_pushB, tZ_pushB, tC_pushB, tc_pushB, tz_pushB, tI_cpL, tL_cpL, tR_cpL, tN_cpL, tZ_cpL, tC_cpL, tc_cpL, tz_cpL, eq_self, true_and, and_true, false_and, and_false, if_true, if_false, reduceIte, ite_true, ite_false, not_true_eq_false, not_false_eq_true, frN_92 hF]
        rfl
      · unfold TokR
        rw [hT, if_pos hsL, if_pos wW, d6, d5, d4, c5, c4, eE]
        exact ⟨rfl, rfl, rfl⟩
    · by_cases wD : 48 ≤ g s ∧ g s ≤ 57
      · obtain ⟨c1, c2, c3, c4, c5, c6⟩ := tbg_c (b := b) (s := s) (k := 2)
        have nv0 : nv g s (min (s - s) 7) = 0 := by rw [Nat.sub_self]; rfl
        obtain ⟨b', d1, d2, d3, d4, d5, d6, d7⟩ := y216_D (s := s) (L - s - 1) s _ (SnB_c h (q2s c1) c2) (by omega) (Nat.le_refl _) (c3.trans h4) c5 (c6.trans nv0.symm)
        have a1 : Int32.ofNat (g s) < 97 := k4.mpr (by omega)
        have a3 : ¬ Int32.ofNat (g s) < 48 := fun q => by have := k1.mp q; omega
        have a4 : ¬ (57 : Int32) < Int32.ofNat (g s) := fun q => by have := k2.mp q; omega
        have eE : eD g L s = eD g L (s + 1) := rE_in ⟨hsL, wD⟩
        refine ⟨b', fun z => ?_, chF_t c1 d2, c2.t d3, ?_⟩
        · refine Eq.trans ?_ (d1 z)
          rw [lf_216_0]
          simp (config := {decide := true}) only [gfI_enc, gfL_enc, gfR_enc, pfI_enc, pfL_enc, pfR_enc, Option.bind_some, cI_v, cL_v, cF_v, cD_v, cR_v, cV_v, cI_x, cL_x, cR_x, cV_x, gz_0, gz_1, acc_enc, tI_sI, tL_sI, tR_sI, tN_sI, tZ_sI, tC_sI, tc_sI, tz_sI, tI_sL, tL_sL, tR_sL, tN_sL, tZ_sL, tC_sL, tc_sL, tz_sL, tI_sR, tL_sR, tR_sR, tN_sR, tZ_sR, tC_sR, tc_sR, tz_sR, tI_sZ, tL_sZ, tR_sZ, tN_sZ, tZ_sZ, tC_sZ, tc_sZ, tz_sZ, tI_sC, tL_sC, tR_sC, tN_sC, tZ_sC, tC_sC, tc_sC, tz_sC, tI_aC, tL_aC, tR_aC, tN_aC, tZ_aC, tC_aC, tc_aC, tz_aC, tI_rmL, tL_rmL, tR_rmL, tN_rmL, tZ_rmL, tC_rmL, tc_rmL, tz_rmL, tI_mk, tL_mk, tR_mk, tN_mk, tZ_mk, tC_mk, tc_mk, tz_mk, tI_pushL, tL_pushL, tR_pushL, tN_pushL, tZ_pushL, tC_pushL, tc_pushL, tz_pushL, tI_pushB, tL_pushB, tR_pushB, tN_pushB, tZ_pushB, tC_pushB, tc_pushB, tz_pushB, tI_cpL, tL_cpL, tR_cpL, tN_cpL, tZ_cpL, tC_cpL, tc_cpL, tz_cpL, eq_self, true_and, and_true, false_and, and_false, if_true, if_false, reduceIte, ite_true, ite_false, not_true_eq_false, not_false_eq_true, frN_92 hF, h4, hL, e1, frR_92_2 hF, frN_84 hF, frZ_84 hF, gaI_enc, g1, g2, g3, v, n32, e1', a1, a3, a4]
          rw [lf_216_108, if_pos rfl, if_neg n10, lf_216_137]
          simp (config := {decide := true}) only [gfI_enc, gfL_enc, gfR_enc, pfI_enc, pfL_enc, pfR_enc, Option.bind_some, cI_v, cL_v, cF_v, cD_v, cR_v, cV_v, cI_x, cL_x, cR_x, cV_x, gz_0, gz_1, acc_enc, tI_sI, tL_sI, tR_sI, tN_sI, tZ_sI, tC_sI, tc_sI, tz_sI, tI_sL, tL_sL, tR_sL, tN_sL, tZ_sL, tC_sL, tc_sL, tz_sL, tI_sR, tL_sR, tR_sR, tN_sR, tZ_sR, tC_sR, tc_sR, tz_sR, tI_sZ, tL_sZ, tR_sZ, tN_sZ, tZ_sZ, tC_sZ, tc_sZ, tz_sZ, tI_sC, tL_sC, tR_sC, tN_sC, tZ_sC, tC_sC, tc_sC, tz_sC, tI_aC, tL_aC, tR_aC, tN_aC, tZ_aC, tC_aC, tc_aC, tz_aC, tI_rmL, tL_rmL, tR_rmL, tN_rmL, tZ_rmL, tC_rmL, tc_rmL, tz_rmL, tI_mk, tL_mk, tR_mk, tN_mk, tZ_mk, tC_mk, tc_mk, tz_mk, tI_pushL, tL_pushL, tR_pushL, tN_pushL, tZ_pushL, tC_pushL, tc_pushL, tz_pushL, tI_pushB, tL_pushB, tR_pushB, tN_pushB, tZ_pushB, tC_pushB, tc_pushB, tz_pushB, tI_cpL, tL_cpL, tR_cpL, tN_cpL, tZ_cpL, tC_cpL, tc_cpL, tz_cpL, eq_self, true_and, and_true, false_and, and_false, if_true, if_false, reduceIte, ite_true, ite_false, not_true_eq_false, not_false_eq_true, frN_92 hF]
          rfl
        · unfold TokR
          rw [hT, if_pos hsL, if_neg wW, if_pos wD, d6, d5, d4, d7, c5, c4, eE]
          exact ⟨rfl, rfl, rfl, rfl⟩
      · obtain ⟨c1, c2, c3, c4, c5, c6⟩ := tbg_c (b := b) (s := s) (k := if g s = 59 then 3 else 4)
        obtain ⟨b', d1, d2, d3, d4, d5, d6⟩ := y216_S (SnB_c h (q2s c1) c2) hsL (c3.trans h4)
        refine ⟨b', fun z => ?_, chF_t c1 d2, c2.t d3, ?_⟩
        · refine Eq.trans ?_ (d1 z)
          have st : Ru 216 0 [(0, aR (some (92, 0)))] [] (enc 2 b z) = Ru 216 108 [(0, aR (some (92, 0))), (1, aI (Int32.ofNat (g s))), (2, aI 0)] [aI 0] (enc 2 (sI b 92 0 6 (Int32.ofNat s)) z) := by
            rw [lf_216_0]
            by_cases a1 : Int32.ofNat (g s) < 97
            · by_cases a3 : Int32.ofNat (g s) < 48
              · simp (config := {decide := true}) only [gfI_enc, gfL_enc, gfR_enc, pfI_enc, pfL_enc, pfR_enc, Option.bind_some, cI_v, cL_v, cF_v, cD_v, cR_v, cV_v, cI_x, cL_x, cR_x, cV_x, gz_0, gz_1, acc_enc, tI_sI, tL_sI, tR_sI, tN_sI, tZ_sI, tC_sI, tc_sI, tz_sI, tI_sL, tL_sL, tR_sL, tN_sL, tZ_sL, tC_sL, tc_sL, tz_sL, tI_sR, tL_sR, tR_sR, tN_sR, tZ_sR, tC_sR, tc_sR, tz_sR, tI_sZ, tL_sZ, tR_sZ, tN_sZ, tZ_sZ, tC_sZ, tc_sZ, tz_sZ, tI_sC, tL_sC, tR_sC, tN_sC, tZ_sC, tC_sC, tc_sC, tz_sC, tI_aC, tL_aC, tR_aC, tN_aC, tZ_aC, tC_aC, tc_aC, tz_aC, tI_rmL, tL_rmL, tR_rmL, tN_rmL, tZ_rmL, tC_rmL, tc_rmL, tz_rmL, tI_mk, tL_mk, tR_mk, tN_mk, tZ_mk, tC_mk, tc_mk, tz_mk, tI_pushL, tL_pushL, tR_pushL, tN_pushL, tZ_pushL, tC_pushL, tc_pushL, tz_pushL, tI_pushB, tL_pushB, tR_pushB, tN_pushB, tZ_pushB, tC_pushB, tc_pushB, tz_pushB, tI_cpL, tL_cpL, tR_cpL, tN_cpL, tZ_cpL, tC_cpL, tc_cpL, tz_cpL, eq_self, true_and, and_true, false_and, and_false, if_true, if_false, reduceIte, ite_true, ite_false, not_true_eq_false, not_false_eq_true, frN_92 hF, h4, hL, e1, frR_92_2 hF, frN_84 hF, frZ_84 hF, gaI_enc, g1, g2, g3, v, n32, e1', a1, a3]
              · have a4 : (57 : Int32) < Int32.ofNat (g s) := k2.mpr (by
                  have : ¬ g s < 48 := fun q => a3 (k1.mpr q)
                  omega)
                simp (config := {decide := true}) only [gfI_enc, gfL_enc, gfR_enc, pfI_enc, pfL_enc, pfR_enc, Option.bind_some, cI_v, cL_v, cF_v, cD_v, cR_v, cV_v, cI_x, cL_x, cR_x, cV_x, gz_0, gz_1, acc_enc, tI_sI, tL_sI, tR_sI, tN_sI, tZ_sI, tC_sI, tc_sI, tz_sI, tI_sL, tL_sL, tR_sL, tN_sL, tZ_sL, tC_sL, tc_sL, tz_sL, tI_sR, tL_sR, tR_sR, tN_sR, tZ_sR, tC_sR, tc_sR, tz_sR, tI_sZ, tL_sZ, tR_sZ, tN_sZ, tZ_sZ, tC_sZ, tc_sZ, tz_sZ, tI_sC, tL_sC, tR_sC, tN_sC, tZ_sC, tC_sC, tc_sC, tz_sC, tI_aC, tL_aC, tR_aC, tN_aC, tZ_aC, tC_aC, tc_aC, tz_aC, tI_rmL, tL_rmL, tR_rmL, tN_rmL, tZ_rmL, tC_rmL, tc_rmL, tz_rmL, tI_mk, tL_mk, tR_mk, tN_mk, tZ_mk, tC_mk, tc_mk, tz_mk, tI_pushL, tL_pushL, tR_pushL, tN_pushL, tZ_pushL, tC_pushL, tc_pushL, tz_pushL, tI_pushB, tL_pushB, tR_pushB, tN_pushB, tZ_pushB, tC_pushB, tc_pushB, tz_pushB, tI_cpL, tL_cpL, tR_cpL, tN_cpL, tZ_cpL, tC_cpL, tc_cpL, tz_cpL, eq_self, true_and, and_true, false_and, and_false, if_true, if_false, reduceIte, ite_true, ite_false, not_true_eq_false, not_false_eq_true, frN_92 hF, h4, hL, e1, frR_92_2 hF, frN_84 hF, frZ_84 hF, gaI_enc, g1, g2, g3, v, n32, e1', a1, a3, a4]
            · have h97 : ¬ g s < 97 := fun q => a1 (k4.mpr q)
              have a2 : (122 : Int32) < Int32.ofNat (g s) := k5.mpr (by omega)
              have a3 : ¬ Int32.ofNat (g s) < 48 := fun q => by have := k1.mp q; omega
              have a4 : (57 : Int32) < Int32.ofNat (g s) := k2.mpr (by omega)
              simp (config := {decide := true}) only [gfI_enc, gfL_enc, gfR_enc, pfI_enc, pfL_enc, pfR_enc, Option.bind_some, cI_v, cL_v, cF_v, cD_v, cR_v, cV_v, cI_x, cL_x, cR_x, cV_x, gz_0, gz_1, acc_enc, tI_sI, tL_sI, tR_sI, tN_sI, tZ_sI, tC_sI, tc_sI, tz_sI, tI_sL, tL_sL, tR_sL, tN_sL, tZ_sL, tC_sL, tc_sL, tz_sL, tI_sR, tL_sR, tR_sR, tN_sR, tZ_sR, tC_sR, tc_sR, tz_sR, tI_sZ, tL_sZ, tR_sZ, tN_sZ, tZ_sZ, tC_sZ, tc_sZ, tz_sZ, tI_sC, tL_sC, tR_sC, tN_sC, tZ_sC, tC_sC, tc_sC, tz_sC, tI_aC, tL_aC, tR_aC, tN_aC, tZ_aC, tC_aC, tc_aC, tz_aC, tI_rmL, tL_rmL, tR_rmL, tN_rmL, tZ_rmL, tC_rmL, tc_rmL, tz_rmL, tI_mk, tL_mk, tR_mk, tN_mk, tZ_mk, tC_mk, tc_mk, tz_mk, tI_pushL, tL_pushL, tR_pushL, tN_pushL, tZ_pushL, tC_pushL, tc_pushL, tz_pushL, tI_pushB, tL_pushB, tR_pushB, tN_pushB, tZ_pushB, tC_pushB, tc_pushB, tz_pushB, tI_cpL, tL_cpL, tR_cpL, tN_cpL, tZ_cpL, tC_cpL, tc_cpL, tz_cpL, eq_self, true_and, and_true, false_and, and_false, if_true, if_false, reduceIte, ite_true, ite_false, not_true_eq_false, not_false_eq_true, frN_92 hF, h4, hL, e1, frR_92_2 hF, frN_84 hF, frZ_84 hF, gaI_enc, g1, g2, g3, v, n32, e1', a1, a2, a3, a4]
          rw [st, lf_216_108, if_pos rfl, if_pos rfl]
          by_cases w59 : g s = 59
          · rw [if_pos (k7.mpr w59), if_pos w59, lf_216_137]
            simp (config := {decide := true}) only [gfI_enc, gfL_enc, gfR_enc, pfI_enc, pfL_enc, pfR_enc, Option.bind_some, cI_v, cL_v, cF_v, cD_v, cR_v, cV_v, cI_x, cL_x, cR_x, cV_x, gz_0, gz_1, acc_enc, tI_sI, tL_sI, tR_sI, tN_sI, tZ_sI, tC_sI, tc_sI, tz_sI, tI_sL, tL_sL, tR_sL, tN_sL, tZ_sL, tC_sL, tc_sL, tz_sL, tI_sR, tL_sR, tR_sR, tN_sR, tZ_sR, tC_sR, tc_sR, tz_sR, tI_sZ, tL_sZ, tR_sZ, tN_sZ, tZ_sZ, tC_sZ, tc_sZ, tz_sZ, tI_sC, tL_sC, tR_sC, tN_sC, tZ_sC, tC_sC, tc_sC, tz_sC, tI_aC, tL_aC, tR_aC, tN_aC, tZ_aC, tC_aC, tc_aC, tz_aC, tI_rmL, tL_rmL, tR_rmL, tN_rmL, tZ_rmL, tC_rmL, tc_rmL, tz_rmL, tI_mk, tL_mk, tR_mk, tN_mk, tZ_mk, tC_mk, tc_mk, tz_mk, tI_pushL, tL_pushL, tR_pushL, tN_pushL, tZ_pushL, tC_pushL, tc_pushL, tz_pushL, tI_pushB, tL_pushB, tR_pushB, tN_pushB, tZ_pushB, tC_pushB, tc_pushB, tz_pushB, tI_cpL, tL_cpL, tR_cpL, tN_cpL, tZ_cpL, tC_cpL, tc_cpL, tz_cpL, eq_self, true_and, and_true, false_and, and_false, if_true, if_false, reduceIte, ite_true, ite_false, not_true_eq_false, not_false_eq_true, frN_92 hF]
            rfl
          · rw [if_neg (fun q => w59 (k7.mp q)), if_neg w59, lf_216_137]
            simp (config := {decide := true}) only [gfI_enc, gfL_enc, gfR_enc, pfI_enc, pfL_enc, pfR_enc, Option.bind_some, cI_v, cL_v, cF_v, cD_v, cR_v, cV_v, cI_x, cL_x, cR_x, cV_x, gz_0, gz_1, acc_enc, tI_sI, tL_sI, tR_sI, tN_sI, tZ_sI, tC_sI, tc_sI, tz_sI, tI_sL, tL_sL, tR_sL, tN_sL, tZ_sL, tC_sL, tc_sL, tz_sL, tI_sR, tL_sR, tR_sR, tN_sR, tZ_sR, tC_sR, tc_sR, tz_sR, tI_sZ, tL_sZ, tR_sZ, tN_sZ, tZ_sZ, tC_sZ, tc_sZ, tz_sZ, tI_sC, tL_sC, tR_sC, tN_sC, tZ_sC, tC_sC, tc_sC, tz_sC, tI_aC, tL_aC, tR_aC, tN_aC, tZ_aC, tC_aC, tc_aC, tz_aC, tI_rmL, tL_rmL, tR_rmL, tN_rmL, tZ_rmL, tC_rmL, tc_rmL, tz_rmL, tI_mk, tL_mk, tR_mk, tN_mk, tZ_mk, tC_mk, tc_mk, tz_mk, tI_pushL, tL_pushL, tR_pushL, tN_pushL, tZ_pushL, tC_pushL, tc_pushL, tz_pushL, tI_pushB, tL_pushB, tR_pushB, tN_pushB, tZ_pushB, tC_pushB, tc_pushB, tz_pushB, tI_cpL, tL_cpL, tR_cpL, tN_cpL, tZ_cpL, tC_cpL, tc_cpL, tz_cpL, eq_self, true_and, and_true, false_and, and_false, if_true, if_false, reduceIte, ite_true, ite_false, not_true_eq_false, not_false_eq_true, frN_92 hF]
            rfl
        · unfold TokR
          rw [hT, if_pos hsL, if_neg wW, if_neg wD, d6, d5, d4, c5, c4]
          exact ⟨rfl, rfl, rfl⟩
  · have e : s = L := by omega
    subst e
    have e1 : Int32.ofNat s ≤ Int32.ofNat s := Int32.le_refl _
    refine ⟨sI (sI b 92 0 6 (Int32.ofNat s)) 92 0 5 5, fun z => ?_, chF_92q (chF_92q (chF_r _ _ _) 6 _ (by omega)) 5 _ (by omega), ((Wr.rf _).cI _ _ _ _).cI _ _ _ _, ?_⟩
    · rw [lf_216_0]
      simp (config := {decide := true}) only [gfI_enc, gfL_enc, gfR_enc, pfI_enc, pfL_enc, pfR_enc, Option.bind_some, cI_v, cL_v, cF_v, cD_v, cR_v, cV_v, cI_x, cL_x, cR_x, cV_x, gz_0, gz_1, acc_enc, tI_sI, tL_sI, tR_sI, tN_sI, tZ_sI, tC_sI, tc_sI, tz_sI, tI_sL, tL_sL, tR_sL, tN_sL, tZ_sL, tC_sL, tc_sL, tz_sL, tI_sR, tL_sR, tR_sR, tN_sR, tZ_sR, tC_sR, tc_sR, tz_sR, tI_sZ, tL_sZ, tR_sZ, tN_sZ, tZ_sZ, tC_sZ, tc_sZ, tz_sZ, tI_sC, tL_sC, tR_sC, tN_sC, tZ_sC, tC_sC, tc_sC, tz_sC, tI_aC, tL_aC, tR_aC, tN_aC, tZ_aC, tC_aC, tc_aC, tz_aC, tI_rmL, tL_rmL, tR_rmL, tN_rmL, tZ_rmL, tC_rmL, tc_rmL, tz_rmL, tI_mk, tL_mk, tR_mk, tN_mk, tZ_mk, tC_mk, tc_mk, tz_mk, tI_pushL, tL_pushL, tR_pushL, tN_pushL, tZ_pushL, tC_pushL, tc_pushL, tz_pushL, tI_pushB, tL_pushB, tR_pushB, tN_pushB, tZ_pushB, tC_pushB, tc_pushB, tz_pushB, tI_cpL, tL_cpL, tR_cpL, tN_cpL, tZ_cpL, tC_cpL, tc_cpL, tz_cpL, eq_self, true_and, and_true, false_and, and_false, if_true, if_false, reduceIte, ite_true, ite_false, not_true_eq_false, not_false_eq_true, frN_92 hF, h4, hL, e1]
    · unfold TokR
      rw [hT, if_neg hsL, tI_sI, if_neg (fun w => absurd w.2.2 (by decide)), tI_sI, if_pos ⟨rfl, rfl, rfl⟩, tI_sI, if_pos ⟨rfl, rfl, rfl⟩]
      exact ⟨rfl, rfl⟩
theorem y216 {g : Nat → Nat} {L p : Nat} {b : TS} (h : SnB b g L) (hp : p ≤ L) (h4 : tI b 92 0 4 = Int32.ofNat p) : ∃ b', (∀ z, Ex 216 [aR (some (92, 0))] (enc 2 b z) = some (.inl none, enc 2 b' z)) ∧ chF [] FqB b b' ∧ Wr b b' ∧ TokR b' g L p := by
  have loop : ∀ n p b, SnB b g L → p + n = L → tI b 92 0 4 = Int32.ofNat p → ∃ b', (∀ z, Ru 216 0 [(0, aR (some (92, 0)))] [] (enc 2 b z) = some (.inl none, enc 2 b' z)) ∧ chF [] FqB b b' ∧ Wr b b' ∧ TokR b' g L p := by
    intro n
    induction n with
    | zero =>
      intro p b h hp h4
      exact y216_T h (by omega) (fun w => by omega) h4
    | succ n ih =>
      intro p b h hp h4
      by_cases w : g p = 32
      · have hF := h.1
        have L6 := h.2.1
        have hL := h.2.2.1
        have ca : chF [] FqB b (sI b 92 0 4 (Int32.ofNat (p + 1))) := chF_92q (chF_r _ _ _) 4 _ (by omega)
        have wa : Wr b (sI b 92 0 4 (Int32.ofNat (p + 1))) := (Wr.rf _).cI _ _ _ _
        obtain ⟨b', d1, d2, d3, d4⟩ := ih (p + 1) _ (SnB_c h (q2s ca) wa) (by omega) (by rw [tI_sI, if_pos ⟨rfl, rfl, rfl⟩])
        have hT : tk g L p = tk g L (p + 1) := rE_in ⟨by omega, by omega⟩
        refine ⟨b', fun z => ?_, chF_t ca d2, wa.t d3, ?_⟩
        · refine Eq.trans ?_ (d1 z)
          have e1 : ¬ Int32.ofNat L ≤ Int32.ofNat p := by rw [o_le (by omega) (by omega)]; omega
          obtain ⟨v, v1, v2⟩ := h.2.2.2.1 p (by omega)
          rw [w] at v
          have v : tI b 84 0 p = 32 := v
          have g1 : (Int32.ofNat p).toNatClampNeg = p := o_ix (by omega)
          have g2 : ¬ Int32.ofNat p < 0 := o_lt0 (by omega)
          have g3 : p < 600 := by omega
          conv => lhs; rw [lf_216_0]
          simp (config := {decide := true}) only [gfI_enc, gfL_enc, gfR_enc, pfI_enc, pfL_enc, pfR_enc, Option.bind_some, cI_v, cL_v, cF_v, cD_v, cR_v, cV_v, cI_x, cL_x, cR_x, cV_x, gz_0, gz_1, acc_enc, tI_sI, tL_sI, tR_sI, tN_sI, tZ_sI, tC_sI, tc_sI, tz_sI, tI_sL, tL_sL, tR_sL, tN_sL, tZ_sL, tC_sL, tc_sL, tz_sL, tI_sR, tL_sR, tR_sR, tN_sR, tZ_sR, tC_sR, tc_sR, tz_sR, tI_sZ, tL_sZ, tR_sZ, tN_sZ, tZ_sZ, tC_sZ, tc_sZ, tz_sZ, tI_sC, tL_sC, tR_sC, tN_sC, tZ_sC, tC_sC, tc_sC, tz_sC, tI_aC, tL_aC, tR_aC, tN_aC, tZ_aC, tC_aC, tc_aC, tz_aC, tI_rmL, tL_rmL, tR_rmL, tN_rmL, tZ_rmL, tC_rmL, tc_rmL, tz_rmL, tI_mk, tL_mk, tR_mk, tN_mk, tZ_mk, tC_mk, tc_mk, tz_mk, tI_pushL, tL_pushL, tR_pushL, tN_pushL, tZ_pushL, tC_pushL, tc_pushL, tz_pushL, tI_pushB, tL_pushB, tR_pushB, tN_pushB, tZ_pushB, tC_pushB, tc_pushB, tz_pushB, tI_cpL, tL_cpL, tR_cpL, tN_cpL, tZ_cpL, tC_cpL, tc_cpL, tz_cpL, eq_self, true_and, and_true, false_and, and_false, if_true, if_false, reduceIte, ite_true, ite_false, not_true_eq_false, not_false_eq_true, frN_92 hF, h4, hL, e1, frR_92_2 hF, frN_84 hF, frZ_84 hF, gaI_enc, g1, g2, g3, v, o_s]
        · unfold TokR at d4 ⊢
          rw [hT]
          exact d4
      · exact y216_T h (by omega) (fun _ => w) h4
  obtain ⟨b', d1, d2, d3, d4⟩ := loop (L - p) p b h (by omega) h4
  refine ⟨b', fun z => ?_, d2, d3, d4⟩
  have hF := h.1
  refine (X_in (by decide +kernel) (frN_92 hF) rfl).trans ?_
  exact d1 z
