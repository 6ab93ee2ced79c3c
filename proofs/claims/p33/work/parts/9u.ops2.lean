/-! ===== a day ends; faults of lines; disputes ===== -/
/-- a shop settles -/
theorem core_settle {a b : TS} {C s : Nat} (h : Core a b C) (hs : s < tZ a 27 0) :
    ∃ a' b', (∀ z, Ru 124 2 [(0, aR (some (96, 0))), (1, aI (Int32.ofNat s))] [] (enc 1 a z) = Ru 124 2 [(0, aR (some (96, 0))), (1, aI (Int32.ofNat (s + 1)))] [] (enc 1 a' z)) ∧ (∀ z, Ru 151 2 [(0, aR (some (91, 0))), (1, aI (tI a 96 0 8)), (2, aI (Int32.ofNat s))] [] (enc 2 b z) = Ru 151 2 [(0, aR (some (91, 0))), (1, aI (tI a 96 0 8)), (2, aI (Int32.ofNat (s + 1)))] [] (enc 2 b' z)) ∧
      Core a' b' C ∧ chF [] [(96, 9), (36, 11), (36, 12)] a a' ∧ chF [45, 46] [(91, 7)] b b' ∧ Wr a a' ∧ Wr b b' := by
  have hR := h.1.1
  have hF := r_FC hR
  have hFR := r_FR hR
  obtain ⟨r1, r2, r3⟩ := shop_at hR hs
  obtain ⟨S1, S2, -, ⟨S9a, S9b, S9c⟩, -⟩ := r_S hR
  obtain ⟨w1, w2⟩ := (r_W hR).1 s hs
  have wf : tL a 96 0 9 = tL b 91 0 7 := by
    obtain ⟨-, -, -, -, -, -, e7, -⟩ := r_B hR
    exact e7
  have g1 : (Int32.ofNat s).toNatClampNeg = s := o_ix (by omega)
  have g2 : ¬ Int32.ofNat s < 0 := o_lt0 (by omega)
  have g3 : ¬ Int32.ofNat (tZ a 27 0) ≤ Int32.ofNat s := by rw [o_le (by omega) (by omega)]; omega
  have g4 : s < 4 := by omega
  by_cases e : lg_cmp (tL b 46 0 s) 0 ≤ 0
  · refine ⟨sL (sL a 36 s 11 (tL b 45 0 s - (if tL b 45 0 s < -tL b 46 0 s then tL b 45 0 s else -tL b 46 0 s))) 36 s 12 (tL b 46 0 s + (if tL b 45 0 s < -tL b 46 0 s then tL b 45 0 s else -tL b 46 0 s)), _, fun z => ?_, fun z => ?_, core_money h hs, chF_L (by simp) (chF_L (by simp) (chF_r _ _ _)), chF_L (by simp) (chF_L (by simp) (chF_r _ _ _)), ((Wr.rf _).cL _ _ _ _).cL _ _ _ _, ((Wr.rf _).cL _ _ _ _).cL _ _ _ _⟩
    · rw [lf_124_2]
      simp (config := {decide := true}) only [gfI_enc, gfL_enc, gfR_enc, pfI_enc, pfL_enc, pfR_enc, Option.bind_some, cI_v, cL_v, cF_v, cD_v, cR_v, cV_v, cI_x, cL_x, cR_x, cV_x, gz_0, gz_1, acc_enc, tI_sI, tL_sI, tR_sI, tN_sI, tZ_sI, tC_sI, tc_sI, tz_sI, tI_sL, tL_sL, tR_sL, tN_sL, tZ_sL, tC_sL, tc_sL, tz_sL, tI_sR, tL_sR, tR_sR, tN_sR, tZ_sR, tC_sR, tc_sR, tz_sR, tI_sZ, tL_sZ, tR_sZ, tN_sZ, tZ_sZ, tC_sZ, tc_sZ, tz_sZ, tI_sC, tL_sC, tR_sC, tN_sC, tZ_sC, tC_sC, tc_sC, tz_sC, tI_aC, tL_aC, tR_aC, tN_aC, tZ_aC, tC_aC, tc_aC, tz_aC, tI_rmL, tL_rmL, tR_rmL, tN_rmL, tZ_rmL, tC_rmL, tc_rmL, tz_rmL, tI_mk, tL_mk, tR_mk, tN_mk, tZ_mk, tC_mk, tc_mk, tz_mk, tI_pushL, tL_pushL, tR_pushL, tN_pushL, tZ_pushL, tC_pushL, tc_pushL, tz_pushL, tI_pushB, tL_pushB, tR_pushB, tN_pushB, tZ_pushB, tC_pushB, tc_pushB, tz_pushB, tI_cpL, tL_cpL, tR_cpL, tN_cpL, tZ_cpL, tC_cpL, tc_cpL, tz_cpL, eq_self, true_and, and_true, false_and, and_false, if_true, if_false, reduceIte, ite_true, ite_false, not_true_eq_false, not_false_eq_true, fcN_96 hF, fcR_96_3 hF, X405, X402, fcN_27 hF, g1, g2, g3, hs, r1, acc_enc, r2, w2, e, w1, Ex_min, o_s]
    · rw [lf_151_2]
      simp (config := {decide := true}) only [gfI_enc, gfL_enc, gfR_enc, pfI_enc, pfL_enc, pfR_enc, Option.bind_some, cI_v, cL_v, cF_v, cD_v, cR_v, cV_v, cI_x, cL_x, cR_x, cV_x, gz_0, gz_1, acc_enc, tI_sI, tL_sI, tR_sI, tN_sI, tZ_sI, tC_sI, tc_sI, tz_sI, tI_sL, tL_sL, tR_sL, tN_sL, tZ_sL, tC_sL, tc_sL, tz_sL, tI_sR, tL_sR, tR_sR, tN_sR, tZ_sR, tC_sR, tc_sR, tz_sR, tI_sZ, tL_sZ, tR_sZ, tN_sZ, tZ_sZ, tC_sZ, tc_sZ, tz_sZ, tI_sC, tL_sC, tR_sC, tN_sC, tZ_sC, tC_sC, tc_sC, tz_sC, tI_aC, tL_aC, tR_aC, tN_aC, tZ_aC, tC_aC, tc_aC, tz_aC, tI_rmL, tL_rmL, tR_rmL, tN_rmL, tZ_rmL, tC_rmL, tc_rmL, tz_rmL, tI_mk, tL_mk, tR_mk, tN_mk, tZ_mk, tC_mk, tc_mk, tz_mk, tI_pushL, tL_pushL, tR_pushL, tN_pushL, tZ_pushL, tC_pushL, tc_pushL, tz_pushL, tI_pushB, tL_pushB, tR_pushB, tN_pushB, tZ_pushB, tC_pushB, tc_pushB, tz_pushB, tI_cpL, tL_cpL, tR_cpL, tN_cpL, tZ_cpL, tC_cpL, tc_cpL, tz_cpL, eq_self, true_and, and_true, false_and, and_false, if_true, if_false, reduceIte, ite_true, ite_false, not_true_eq_false, not_false_eq_true, frN_91 hFR, S9a, g3, frR_91_3 hFR, frN_46 hFR, frZ_46 hFR, gaL_enc, paL_enc, g1, g2, g4, e, frR_91_2 hFR, frN_45 hFR, frZ_45 hFR, Ex_min, o_s]
  · have h0 := core_fees (x := tL b 91 0 7 + tL b 46 0 s * (tI a 96 0 8).toInt64 / 10000) h
    have h1 := core_money (x := tL b 45 0 s + (tL b 46 0 s - tL b 46 0 s * (tI a 96 0 8).toInt64 / 10000)) (y := 0) h0 (show s < tZ (sL a 96 0 9 (tL b 91 0 7 + tL b 46 0 s * (tI a 96 0 8).toInt64 / 10000)) 27 0 from hs)
    refine ⟨_, _, fun z => ?_, fun z => ?_, h1, chF_L (by simp) (chF_L (by simp) (chF_L (by simp) (chF_r _ _ _))), chF_L (by simp) (chF_L (by simp) (chF_L (by simp) (chF_r _ _ _))), (((Wr.rf _).cL _ _ _ _).cL _ _ _ _).cL _ _ _ _, (((Wr.rf _).cL _ _ _ _).cL _ _ _ _).cL _ _ _ _⟩
    · rw [lf_124_2]
      simp (config := {decide := true}) only [gfI_enc, gfL_enc, gfR_enc, pfI_enc, pfL_enc, pfR_enc, Option.bind_some, cI_v, cL_v, cF_v, cD_v, cR_v, cV_v, cI_x, cL_x, cR_x, cV_x, gz_0, gz_1, acc_enc, tI_sI, tL_sI, tR_sI, tN_sI, tZ_sI, tC_sI, tc_sI, tz_sI, tI_sL, tL_sL, tR_sL, tN_sL, tZ_sL, tC_sL, tc_sL, tz_sL, tI_sR, tL_sR, tR_sR, tN_sR, tZ_sR, tC_sR, tc_sR, tz_sR, tI_sZ, tL_sZ, tR_sZ, tN_sZ, tZ_sZ, tC_sZ, tc_sZ, tz_sZ, tI_sC, tL_sC, tR_sC, tN_sC, tZ_sC, tC_sC, tc_sC, tz_sC, tI_aC, tL_aC, tR_aC, tN_aC, tZ_aC, tC_aC, tc_aC, tz_aC, tI_rmL, tL_rmL, tR_rmL, tN_rmL, tZ_rmL, tC_rmL, tc_rmL, tz_rmL, tI_mk, tL_mk, tR_mk, tN_mk, tZ_mk, tC_mk, tc_mk, tz_mk, tI_pushL, tL_pushL, tR_pushL, tN_pushL, tZ_pushL, tC_pushL, tc_pushL, tz_pushL, tI_pushB, tL_pushB, tR_pushB, tN_pushB, tZ_pushB, tC_pushB, tc_pushB, tz_pushB, tI_cpL, tL_cpL, tR_cpL, tN_cpL, tZ_cpL, tC_cpL, tc_cpL, tz_cpL, eq_self, true_and, and_true, false_and, and_false, if_true, if_false, reduceIte, ite_true, ite_false, not_true_eq_false, not_false_eq_true, fcN_96 hF, fcR_96_3 hF, X405, X402, fcN_27 hF, g1, g2, g3, hs, r1, acc_enc, r2, w2, e, w1, wf, o_s]
    · rw [lf_151_2]
      simp (config := {decide := true}) only [gfI_enc, gfL_enc, gfR_enc, pfI_enc, pfL_enc, pfR_enc, Option.bind_some, cI_v, cL_v, cF_v, cD_v, cR_v, cV_v, cI_x, cL_x, cR_x, cV_x, gz_0, gz_1, acc_enc, tI_sI, tL_sI, tR_sI, tN_sI, tZ_sI, tC_sI, tc_sI, tz_sI, tI_sL, tL_sL, tR_sL, tN_sL, tZ_sL, tC_sL, tc_sL, tz_sL, tI_sR, tL_sR, tR_sR, tN_sR, tZ_sR, tC_sR, tc_sR, tz_sR, tI_sZ, tL_sZ, tR_sZ, tN_sZ, tZ_sZ, tC_sZ, tc_sZ, tz_sZ, tI_sC, tL_sC, tR_sC, tN_sC, tZ_sC, tC_sC, tc_sC, tz_sC, tI_aC, tL_aC, tR_aC, tN_aC, tZ_aC, tC_aC, tc_aC, tz_aC, tI_rmL, tL_rmL, tR_rmL, tN_rmL, tZ_rmL, tC_rmL, tc_rmL, tz_rmL, tI_mk, tL_mk, tR_mk, tN_mk, tZ_mk, tC_mk, tc_mk, tz_mk, tI_pushL, tL_pushL, tR_pushL, tN_pushL, tZ_pushL, tC_pushL, tc_pushL, tz_pushL, tI_pushB, tL_pushB, tR_pushB, tN_pushB, tZ_pushB, tC_pushB, tc_pushB, tz_pushB, tI_cpL, tL_cpL, tR_cpL, tN_cpL, tZ_cpL, tC_cpL, tc_cpL, tz_cpL, eq_self, true_and, and_true, false_and, and_false, if_true, if_false, reduceIte, ite_true, ite_false, not_true_eq_false, not_false_eq_true, frN_91 hFR, S9a, g3, frR_91_3 hFR, frN_46 hFR, frZ_46 hFR, gaL_enc, paL_enc, g1, g2, g4, e, frR_91_2 hFR, frN_45 hFR, frZ_45 hFR, o_s]
theorem settle_all {C : Nat} : ∀ k s a b, s + k = tZ a 27 0 → Core a b C →
    ∃ a' b', (∀ z, Ru 124 2 [(0, aR (some (96, 0))), (1, aI (Int32.ofNat s))] [] (enc 1 a z) = Ru 124 2 [(0, aR (some (96, 0))), (1, aI (Int32.ofNat (tZ a 27 0)))] [] (enc 1 a' z)) ∧ (∀ z, Ru 151 2 [(0, aR (some (91, 0))), (1, aI (tI a 96 0 8)), (2, aI (Int32.ofNat s))] [] (enc 2 b z) = some (.inl none, enc 2 b' z)) ∧
      Core a' b' C ∧ chF [] [(96, 9), (36, 11), (36, 12)] a a' ∧ chF [45, 46] [(91, 7)] b b' ∧ Wr a a' ∧ Wr b b' := by
  intro k
  induction k with
  | zero =>
    intro s a b hk h
    have hR := h.1.1
    have hFR := r_FR hR
    obtain ⟨S1, S2, -, ⟨S9a, S9b, S9c⟩, -⟩ := r_S hR
    have : s = tZ a 27 0 := by omega
    subst this
    have g3 : Int32.ofNat (tZ a 27 0) ≤ Int32.ofNat (tZ a 27 0) := Int32.le_refl _
    refine ⟨a, b, fun z => rfl, fun z => ?_, h, chF_r _ _ _, chF_r _ _ _, Wr.rf _, Wr.rf _⟩
    rw [lf_151_2]
    simp (config := {decide := true}) only [gfI_enc, gfL_enc, gfR_enc, pfI_enc, pfL_enc, pfR_enc, Option.bind_some, cI_v, cL_v, cF_v, cD_v, cR_v, cV_v, cI_x, cL_x, cR_x, cV_x, gz_0, gz_1, acc_enc, tI_sI, tL_sI, tR_sI, tN_sI, tZ_sI, tC_sI, tc_sI, tz_sI, tI_sL, tL_sL, tR_sL, tN_sL, tZ_sL, tC_sL, tc_sL, tz_sL, tI_sR, tL_sR, tR_sR, tN_sR, tZ_sR, tC_sR, tc_sR, tz_sR, tI_sZ, tL_sZ, tR_sZ, tN_sZ, tZ_sZ, tC_sZ, tc_sZ, tz_sZ, tI_sC, tL_sC, tR_sC, tN_sC, tZ_sC, tC_sC, tc_sC, tz_sC, tI_aC, tL_aC, tR_aC, tN_aC, tZ_aC, tC_aC, tc_aC, tz_aC, tI_rmL, tL_rmL, tR_rmL, tN_rmL, tZ_rmL, tC_rmL, tc_rmL, tz_rmL, tI_mk, tL_mk, tR_mk, tN_mk, tZ_mk, tC_mk, tc_mk, tz_mk, tI_pushL, tL_pushL, tR_pushL, tN_pushL, tZ_pushL, tC_pushL, tc_pushL, tz_pushL, tI_pushB, tL_pushB, tR_pushB, tN_pushB, tZ_pushB, tC_pushB, tc_pushB, tz_pushB, tI_cpL, tL_cpL, tR_cpL, tN_cpL, tZ_cpL, tC_cpL, tc_cpL, tz_cpL, eq_self, true_and, and_true, false_and, and_false, if_true, if_false, reduceIte, ite_true, ite_false, not_true_eq_false, not_false_eq_true, frN_91 hFR, S9a, g3]
  | succ k ih =>
    intro s a b hk h
    obtain ⟨a1, b1, x1, y1, h1, c1, d1, w1, v1⟩ := core_settle h (show s < tZ a 27 0 by omega)
    have z27 : tZ a1 27 0 = tZ a 27 0 := dZ c1 (S := [27]) (P := []) (s := 27) (by decide) (by simp) 0
    have i96 : tI a1 96 0 8 = tI a 96 0 8 := dI c1 (S := []) (P := [(96, 8)]) (s := 96) (k := 8) (by decide) (by simp) 0
    obtain ⟨a2, b2, x2, y2, h2, c2, d2, w2, v2⟩ := ih (s + 1) a1 b1 (by omega) h1
    rw [i96] at y2
    rw [z27] at x2
    exact ⟨a2, b2, fun z => (x1 z).trans (x2 z), fun z => (y1 z).trans (y2 z), h2, chF_t c1 c2, chF_t d1 d2, w1.t w2, v1.t v2⟩
theorem op_endDay {a b : TS} {C : Nat} (h : Core a b C) : Dne 124 [aR (some (96, 0))] 278 [aR (some (97, 0))] a b C := by
  have hR := h.1.1
  have hF := r_FC hR
  have hFR := r_FR hR
  obtain ⟨a1, b1, x1, y1, h1, c1, d1, w1, v1⟩ := settle_all (tZ a 27 0) 0 a b (Nat.zero_add _) h
  have hR1 := h1.1.1
  have hF1 := r_FC hR1
  have hFR1 := r_FR hR1
  have z27 : tZ a1 27 0 = tZ a 27 0 := dZ c1 (S := [27]) (P := []) (s := 27) (by decide) (by simp) 0
  have efee : tI b 97 0 7 = tI a 96 0 8 := by
    obtain ⟨-, -, -, h10, -⟩ := r_H hR
    exact h10.symm
  have ed : tI a1 25 0 1 = tI b1 97 0 6 := by
    obtain ⟨-, ⟨h6, -⟩, -⟩ := r_H hR1
    exact h6
  have h2 := core_day (d := tI b1 97 0 6 + 1) h1
  have f252 := fun v z => y252 (b := sI (sI b1 97 0 6 (tI b1 97 0 6 + 1)) 94 0 11 (tI b1 97 0 6 + 1)) (z := z) (v := v) (r_FR h2.1.1)
  have g3 : Int32.ofNat (tZ a 27 0) ≤ Int32.ofNat (tZ a 27 0) := Int32.le_refl _
  have f151 : ∀ z, Ex 151 [aR (some (91, 0)), aI (tI a 96 0 8)] (enc 2 b z) = some (.inl none, enc 2 b1 z) := fun z => by
    refine (X_in (by decide +kernel) (frN_91 hFR) rfl).trans ((lf_151_0 ..).trans ?_)
    exact y1 z
  refine ⟨tI b1 97 0 6 + 1, _, _, fun z => ?_, fun z => ?_, th_v, Core_th h2 th_c th_w, w1.t ((Wr.rf _).cI _ _ _ _), (v1.t (((Wr.rf _).cI _ _ _ _).cI _ _ _ _)).t th_w, ?_, ?_⟩
  · refine (X_in (by decide +kernel) (fcN_96 hF) rfl).trans ((lf_124_0 ..).trans ?_)
    refine (x1 z).trans ?_
    rw [lf_124_2]
    simp (config := {decide := true}) only [gfI_enc, gfL_enc, gfR_enc, pfI_enc, pfL_enc, pfR_enc, Option.bind_some, cI_v, cL_v, cF_v, cD_v, cR_v, cV_v, cI_x, cL_x, cR_x, cV_x, gz_0, gz_1, acc_enc, tI_sI, tL_sI, tR_sI, tN_sI, tZ_sI, tC_sI, tc_sI, tz_sI, tI_sL, tL_sL, tR_sL, tN_sL, tZ_sL, tC_sL, tc_sL, tz_sL, tI_sR, tL_sR, tR_sR, tN_sR, tZ_sR, tC_sR, tc_sR, tz_sR, tI_sZ, tL_sZ, tR_sZ, tN_sZ, tZ_sZ, tC_sZ, tc_sZ, tz_sZ, tI_sC, tL_sC, tR_sC, tN_sC, tZ_sC, tC_sC, tc_sC, tz_sC, tI_aC, tL_aC, tR_aC, tN_aC, tZ_aC, tC_aC, tc_aC, tz_aC, tI_rmL, tL_rmL, tR_rmL, tN_rmL, tZ_rmL, tC_rmL, tc_rmL, tz_rmL, tI_mk, tL_mk, tR_mk, tN_mk, tZ_mk, tC_mk, tc_mk, tz_mk, tI_pushL, tL_pushL, tR_pushL, tN_pushL, tZ_pushL, tC_pushL, tc_pushL, tz_pushL, tI_pushB, tL_pushB, tR_pushB, tN_pushB, tZ_pushB, tC_pushB, tc_pushB, tz_pushB, tI_cpL, tL_cpL, tR_cpL, tN_cpL, tZ_cpL, tC_cpL, tc_cpL, tz_cpL, eq_self, true_and, and_true, false_and, and_false, if_true, if_false, reduceIte, ite_true, ite_false, not_true_eq_false, not_false_eq_true, fcN_96 hF1, fcR_96_3 hF1, X405, fcN_27 hF1, z27, g3, fcR_96_1 hF1, fcN_25 hF1, ed]
  · refine (X_in (by decide +kernel) (frN_97 hFR) rfl).trans ((lf_278_0 ..).trans ?_)
    simp (config := {decide := true}) only [gfI_enc, gfL_enc, gfR_enc, pfI_enc, pfL_enc, pfR_enc, Option.bind_some, cI_v, cL_v, cF_v, cD_v, cR_v, cV_v, cI_x, cL_x, cR_x, cV_x, gz_0, gz_1, acc_enc, tI_sI, tL_sI, tR_sI, tN_sI, tZ_sI, tC_sI, tc_sI, tz_sI, tI_sL, tL_sL, tR_sL, tN_sL, tZ_sL, tC_sL, tc_sL, tz_sL, tI_sR, tL_sR, tR_sR, tN_sR, tZ_sR, tC_sR, tc_sR, tz_sR, tI_sZ, tL_sZ, tR_sZ, tN_sZ, tZ_sZ, tC_sZ, tc_sZ, tz_sZ, tI_sC, tL_sC, tR_sC, tN_sC, tZ_sC, tC_sC, tc_sC, tz_sC, tI_aC, tL_aC, tR_aC, tN_aC, tZ_aC, tC_aC, tc_aC, tz_aC, tI_rmL, tL_rmL, tR_rmL, tN_rmL, tZ_rmL, tC_rmL, tc_rmL, tz_rmL, tI_mk, tL_mk, tR_mk, tN_mk, tZ_mk, tC_mk, tc_mk, tz_mk, tI_pushL, tL_pushL, tR_pushL, tN_pushL, tZ_pushL, tC_pushL, tc_pushL, tz_pushL, tI_pushB, tL_pushB, tR_pushB, tN_pushB, tZ_pushB, tC_pushB, tc_pushB, tz_pushB, tI_cpL, tL_cpL, tR_cpL, tN_cpL, tZ_cpL, tC_cpL, tc_cpL, tz_cpL, eq_self, true_and, and_true, false_and, and_false, if_true, if_false, reduceIte, ite_true, ite_false, not_true_eq_false, not_false_eq_true, frN_97 hFR, frR_97_0 hFR, efee, f151, frN_97 hFR1, frR_97_3 hFR1, frN_94 hFR1, f252]
  · exact sam_t (sam_c c1 (by decide)) (sam_c (F := [(25, 1)]) (D := []) (chF_I (by simp) (chF_r _ _ _)) (by decide))
  · exact sam_t (sam_t (sam_c d1 (by decide)) (sam_c (F := [(97, 6), (94, 11)]) (D := []) (chF_I (by simp) (chF_I (by simp) (chF_r _ _ _))) (by decide))) th_s
/-! faults of a line -/
theorem clamp_add {x : Int32} {m : Nat} (hm : m ≤ 100) : (x + Int32.ofNat m).toNatClampNeg ≤ x.toNatClampNeg + m := by
  have h1 := Int32.toInt_lt x
  have h2 := Int32.le_toInt x
  rw [x_ix, x_ix, Int32.toInt_add, Int32.toInt_ofNat_of_lt (by omega), Int.bmod_def]
  split <;> omega
theorem core_faults {a b : TS} {C c k m : Nat} (h : Core a b C) (hC : C + 1 ≤ 512) (hc : c < 2 * tZ a 27 0) (hm : m ≤ 100) : Core (sI a 8 c k (tI a 8 c k + Int32.ofNat m)) (sI b 48 c k (tI a 8 c k + Int32.ofNat m)) (C + 1) := by
  obtain ⟨⟨hR, hN, hL, hAs, hK⟩, ⟨T, m1, m2, m3, m4, m5, m6, m7⟩, ht⟩ := h
  have e48 : tI a 8 c k = tI b 48 c k := by rw [hL.1.2.2.2.1 c hc]
  have v8 : ∀ c' k', tI (sI a 8 c k (tI a 8 c k + Int32.ofNat m)) 8 c' k' = if c' = c ∧ k' = k then tI a 8 c k + Int32.ofNat m else tI a 8 c' k' := fun c' k' => by
    rw [tI_sI]
    by_cases e : c' = c ∧ k' = k
    · rw [if_pos e, if_pos ⟨rfl, e⟩]
    · rw [if_neg e, if_neg (fun q => e q.2)]
  have v48 : ∀ c' k', tI (sI b 48 c k (tI a 8 c k + Int32.ofNat m)) 48 c' k' = if c' = c ∧ k' = k then tI a 8 c k + Int32.ofNat m else tI b 48 c' k' := fun c' k' => by
    rw [tI_sI]
    by_cases e : c' = c ∧ k' = k
    · rw [if_pos e, if_pos ⟨rfl, e⟩]
    · rw [if_neg e, if_neg (fun q => e q.2)]
  have ca : chF [8] [] a (sI a 8 c k (tI a 8 c k + Int32.ofNat m)) := chF_I (by simp) (chF_r _ _ _)
  have cb : chF [48] [] b (sI b 48 c k (tI a 8 c k + Int32.ofNat m)) := chF_I (by simp) (chF_r _ _ _)
  have wa : Wr a (sI a 8 c k (tI a 8 c k + Int32.ofNat m)) := (Wr.rf _).cI _ _ _ _
  have wb : Wr b (sI b 48 c k (tI a 8 c k + Int32.ofNat m)) := (Wr.rf _).cI _ _ _ _
  obtain ⟨q1, q2⟩ := CaT_48 (f := c) (k := k) (v := tI a 8 c k + Int32.ofNat m) hL.1.2.1
  have hLT : LaT (sI a 8 c k (tI a 8 c k + Int32.ofNat m)) (2 * tZ a 27 0) := by
    obtain ⟨l1, l2, l3⟩ := hL.1.1
    refine ⟨l1, l2, fun c' hc' => ?_⟩
    obtain ⟨n1, n2, n3, n4⟩ := l3 c' hc'
    exact ⟨n1, n2, by rw [tI_sI, if_neg (fun q => by omega)]; exact n3, n4⟩
  have vAe : ∀ c', c' < 2 * tZ a 27 0 → vA (sI a 8 c k (tI a 8 c k + Int32.ofNat m)) c' = vA a c' := fun c' hc' => by
    obtain ⟨n1, m0, n3, n4⟩ := hL.1.1.2.2 c' hc'
    have i21 : tI (sI a 8 c k (tI a 8 c k + Int32.ofNat m)) (21 + c' % 2) (c' / 2) 3 = Int32.ofNat m0 := by rw [tI_sI, if_neg (fun q => by omega)]; exact n3
    rw [vA_of hL.1.1 hc' n3 n4, vA_of hLT hc' i21 n4]
    unfold vL
    refine List.map_congr_left (fun k' hk' => ?_)
    have hk' := List.mem_range.mp hk'
    obtain ⟨r, -, r2⟩ := hL.1.1.1.1 c' (by rw [hL.1.1.2.1]; exact hc') k' (by omega)
    rw [tR_sI, r2]
    unfold eC
    have i10 : ∀ f, tI (sI a 8 c k (tI a 8 c k + Int32.ofNat m)) 10 r f = tI a 10 r f := fun f => by rw [tI_sI, if_neg (fun q => absurd q.1 (by decide))]
    dsimp only
    rw [i10, mv_congr (fun f _ _ => i10 f)]
  have hP : PS a (sI a 8 c k (tI a 8 c k + Int32.ofNat m)) b (sI b 48 c k (tI a 8 c k + Int32.ofNat m)) := PS_c ca cb (by decide) (by decide)
  have gq' : groQ b (sI b 48 c k (tI a 8 c k + Int32.ofNat m)) := groQ_c cb (by decide +kernel)
  have capE : ∀ c', capc (sI b 48 c k (tI a 8 c k + Int32.ofNat m)) c' = capc b c' := fun c' => rfl
  have hL0 : Ln0 (sI a 8 c k (tI a 8 c k + Int32.ofNat m)) (sI b 48 c k (tI a 8 c k + Int32.ofNat m)) := by
    refine ⟨hLT, q1, hL.1.2.2.1, fun c' hc' => ?_, hL.1.2.2.2.2⟩
    funext k'
    rw [v8, v48]
    by_cases e : c' = c ∧ k' = k
    · rw [if_pos e, if_pos e]
    · rw [if_neg e, if_neg e, hL.1.2.2.2.1 c' hc']
  have hR1 := put_R0 hR (chF_m ca (by simp) (by simp)) (chF_m cb (by simp) (by simp)) (fun s _ => rfl) wa wb
  have wQ : ∀ c', c' < 2 * tZ a 27 0 → vQ (sI b 48 c k (tI a 8 c k + Int32.ofNat m)) c' = vQ b c' := q2
  have fA : ∀ s i j, s ≠ 48 → tI (sI b 48 c k (tI a 8 c k + Int32.ofNat m)) s i j = tI b s i j := fun s i j h => by rw [tI_sI, if_neg (fun q => h q.1)]
  have hKT : ∀ s, KTs (sI a 8 c k (tI a 8 c k + Int32.ofNat m)) (sI b 48 c k (tI a 8 c k + Int32.ofNat m)) s = KTs a b s := fun s => KTs_eq rfl (fun j _ => fA 67 0 _ (by decide))
  have hGK : GK (sI a 8 c k (tI a 8 c k + Int32.ofNat m)) (sI b 48 c k (tI a 8 c k + Int32.ofNat m)) = GK a b := by
    unfold GK
    rw [unsN_eq (fun p => fA 70 0 p (by decide)), bkN_eq (fun p => fA 69 0 p (by decide))]
    unfold askN
    simp only [fA 87 0 _ (by decide)]
    rfl
  refine ⟨⟨hR1, Nt_c hN ca cb (by decide) (by decide) hP.1 (gro_c ca (by decide)) gq', ⟨hL0, fun s hs => ?_⟩, As_c hAs ca cb (by decide) (by decide), Kp_c hK ca cb (by decide) (by decide) hP gq' (fun p _ h => by rw [fA 87 0 _ (by decide)]; exact h)⟩, ⟨T, m1, hC, by rw [fA 95 0 1 (by decide)]; exact m3, ?_, ?_, fun s hs => ?_, fun s hs => ?_⟩, Tx_s ht (sam0_c ca (by decide)) (sam0_c cb (by decide))⟩
  · have hs : s < tZ a 27 0 := hs
    obtain ⟨u1, u2⟩ := hL.2 s hs
    exact ⟨LnU_c u1 hP (vAe (2 * s) (by omega)) (wQ (2 * s) (by omega)), LnD_c u2 hP (vAe (2 * s + 1) (by omega)) (wQ (2 * s + 1) (by omega))⟩
  · rw [hGK]
    show Kc a + GK a b + (200 - tZ a 29 0) ≤ 1000 + (C + 1) ∧ Kb b ≤ Kc a
    omega
  · have e1 : sumS (tZ a 27 0) (phi (sI a 8 c k (tI a 8 c k + Int32.ofNat m)) (sI b 48 c k (tI a 8 c k + Int32.ofNat m))) + 0 ≤ sumS (tZ a 27 0) (phi a b) + 100 := by
      refine sumS_at (s := c / 2) ?_ _ (by omega) (fun s' hs' hne => ?_)
      · unfold phi
        rw [wQ (2 * (c / 2)) (by omega), hKT, v48]
        by_cases e : 2 * (c / 2) = c ∧ 1 = k
        · rw [if_pos e, e48, ← e.2, ← e.1]
          have := clamp_add (x := tI b 48 (2 * (c / 2)) 1) hm
          have e2 : 2 * (2 * (c / 2) / 2) = 2 * (c / 2) := by omega
          rw [e2]
          omega
        · rw [if_neg e]
          omega
      · unfold phi
        rw [wQ (2 * s') (by omega), hKT, v48, if_neg (fun q => by omega)]
        exact Nat.le_refl _
    rw [hGK]
    show Mt b + sumS (tZ a 27 0) (phi (sI a 8 c k (tI a 8 c k + Int32.ofNat m)) (sI b 48 c k (tI a 8 c k + Int32.ofNat m))) + 301 * GK a b + (200 - tZ a 29 0) ≤ 241000 + 100 * (C + 1)
    omega
  · have e1 : sumS (tZ a 27 0) (fun s' => ask0 (vQ (sI b 48 c k (tI a 8 c k + Int32.ofNat m)) (2 * s'))) = sumS (tZ a 27 0) (fun s' => ask0 (vQ b (2 * s'))) := sumS_eq _ (fun s hs => by rw [wQ (2 * s) (by omega)])
    show tN a s + sumS (tZ a 27 0) (fun s' => ask0 (vQ (sI b 48 c k (tI a 8 c k + Int32.ofNat m)) (2 * s'))) + 2 * (200 - tZ a 29 0) ≤ 400
    rw [e1]
    exact m6 s hs
  · have hs : s < tZ a 27 0 := hs
    rw [hKT, wQ (2 * s) (by omega), wQ (2 * s + 1) (by omega)]
    exact m7 s hs
/-- is it a shop, a payment -/
theorem y191_1 {a b : TS} {z : Hp} {s : Nat} (hR : R0 a b) (hs : s < tZ a 27 0) : Ex 191 [aR (some (95, 0)), aI (Int32.ofNat s)] (enc 2 b z) = some (.inl (some (aI 1)), enc 2 b z) := by
  have hF := r_FR hR
  obtain ⟨S1, S2, -, ⟨S9a, S9b, S9c⟩, -⟩ := r_S hR
  have g1 : ¬ Int32.ofNat s < 0 := o_lt0 (by omega)
  have g2 : ¬ Int32.ofNat (tZ a 27 0) ≤ Int32.ofNat s := by rw [o_le (by omega) (by omega)]; omega
  refine (X_in (by decide +kernel) (frN_95 hF) rfl).trans ((lf_191_0 ..).trans ?_)
  simp (config := {decide := true}) only [gfI_enc, gfL_enc, gfR_enc, pfI_enc, pfL_enc, pfR_enc, Option.bind_some, cI_v, cL_v, cF_v, cD_v, cR_v, cV_v, cI_x, cL_x, cR_x, cV_x, gz_0, gz_1, acc_enc, tI_sI, tL_sI, tR_sI, tN_sI, tZ_sI, tC_sI, tc_sI, tz_sI, tI_sL, tL_sL, tR_sL, tN_sL, tZ_sL, tC_sL, tc_sL, tz_sL, tI_sR, tL_sR, tR_sR, tN_sR, tZ_sR, tC_sR, tc_sR, tz_sR, tI_sZ, tL_sZ, tR_sZ, tN_sZ, tZ_sZ, tC_sZ, tc_sZ, tz_sZ, tI_sC, tL_sC, tR_sC, tN_sC, tZ_sC, tC_sC, tc_sC, tz_sC, tI_aC, tL_aC, tR_aC, tN_aC, tZ_aC, tC_aC, tc_aC, tz_aC, tI_rmL, tL_rmL, tR_rmL, tN_rmL, tZ_rmL, tC_rmL, tc_rmL, tz_rmL, tI_mk, tL_mk, tR_mk, tN_mk, tZ_mk, tC_mk, tc_mk, tz_mk, tI_pushL, tL_pushL, tR_pushL, tN_pushL, tZ_pushL, tC_pushL, tc_pushL, tz_pushL, tI_pushB, tL_pushB, tR_pushB, tN_pushB, tZ_pushB, tC_pushB, tc_pushB, tz_pushB, tI_cpL, tL_cpL, tR_cpL, tN_cpL, tZ_cpL, tC_cpL, tc_cpL, tz_cpL, eq_self, true_and, and_true, false_and, and_false, if_true, if_false, reduceIte, ite_true, ite_false, not_true_eq_false, not_false_eq_true, g1, frN_95 hF, S9c, g2]
theorem not_in {p : Int32} {n : Nat} (hp : ¬ inR p 0 (Int32.ofNat n - 1)) (hn : n < 2 ^ 31) (g1 : ¬ p < 0) : Int32.ofNat n ≤ p := by
  refine Classical.byContradiction (fun g2 => hp ?_)
  have : p.toNatClampNeg < n := Nat.not_le.mp (fun q => g2 ((x_le g1 hn).mpr q))
  rw [← x_of g1]
  exact inR_mk this hn
theorem y191_0 {a b : TS} {z : Hp} {p : Int32} (hR : R0 a b) (hp : ¬ inR p 0 (Int32.ofNat (tZ a 27 0) - 1)) : Ex 191 [aR (some (95, 0)), aI p] (enc 2 b z) = some (.inl (some (aI 0)), enc 2 b z) := by
  have hF := r_FR hR
  obtain ⟨S1, S2, -, ⟨S9a, S9b, S9c⟩, -⟩ := r_S hR
  refine (X_in (by decide +kernel) (frN_95 hF) rfl).trans ((lf_191_0 ..).trans ?_)
  by_cases g1 : p < 0
  · simp (config := {decide := true}) only [gfI_enc, gfL_enc, gfR_enc, pfI_enc, pfL_enc, pfR_enc, Option.bind_some, cI_v, cL_v, cF_v, cD_v, cR_v, cV_v, cI_x, cL_x, cR_x, cV_x, gz_0, gz_1, acc_enc, tI_sI, tL_sI, tR_sI, tN_sI, tZ_sI, tC_sI, tc_sI, tz_sI, tI_sL, tL_sL, tR_sL, tN_sL, tZ_sL, tC_sL, tc_sL, tz_sL, tI_sR, tL_sR, tR_sR, tN_sR, tZ_sR, tC_sR, tc_sR, tz_sR, tI_sZ, tL_sZ, tR_sZ, tN_sZ, tZ_sZ, tC_sZ, tc_sZ, tz_sZ, tI_sC, tL_sC, tR_sC, tN_sC, tZ_sC, tC_sC, tc_sC, tz_sC, tI_aC, tL_aC, tR_aC, tN_aC, tZ_aC, tC_aC, tc_aC, tz_aC, tI_rmL, tL_rmL, tR_rmL, tN_rmL, tZ_rmL, tC_rmL, tc_rmL, tz_rmL, tI_mk, tL_mk, tR_mk, tN_mk, tZ_mk, tC_mk, tc_mk, tz_mk, tI_pushL, tL_pushL, tR_pushL, tN_pushL, tZ_pushL, tC_pushL, tc_pushL, tz_pushL, tI_pushB, tL_pushB, tR_pushB, tN_pushB, tZ_pushB, tC_pushB, tc_pushB, tz_pushB, tI_cpL, tL_cpL, tR_cpL, tN_cpL, tZ_cpL, tC_cpL, tc_cpL, tz_cpL, eq_self, true_and, and_true, false_and, and_false, if_true, if_false, reduceIte, ite_true, ite_false, not_true_eq_false, not_false_eq_true, g1]
  · have g2 := not_in hp (by omega) g1
    simp (config := {decide := true}) only [gfI_enc, gfL_enc, gfR_enc, pfI_enc, pfL_enc, pfR_enc, Option.bind_some, cI_v, cL_v, cF_v, cD_v, cR_v, cV_v, cI_x, cL_x, cR_x, cV_x, gz_0, gz_1, acc_enc, tI_sI, tL_sI, tR_sI, tN_sI, tZ_sI, tC_sI, tc_sI, tz_sI, tI_sL, tL_sL, tR_sL, tN_sL, tZ_sL, tC_sL, tc_sL, tz_sL, tI_sR, tL_sR, tR_sR, tN_sR, tZ_sR, tC_sR, tc_sR, tz_sR, tI_sZ, tL_sZ, tR_sZ, tN_sZ, tZ_sZ, tC_sZ, tc_sZ, tz_sZ, tI_sC, tL_sC, tR_sC, tN_sC, tZ_sC, tC_sC, tc_sC, tz_sC, tI_aC, tL_aC, tR_aC, tN_aC, tZ_aC, tC_aC, tc_aC, tz_aC, tI_rmL, tL_rmL, tR_rmL, tN_rmL, tZ_rmL, tC_rmL, tc_rmL, tz_rmL, tI_mk, tL_mk, tR_mk, tN_mk, tZ_mk, tC_mk, tc_mk, tz_mk, tI_pushL, tL_pushL, tR_pushL, tN_pushL, tZ_pushL, tC_pushL, tc_pushL, tz_pushL, tI_pushB, tL_pushB, tR_pushB, tN_pushB, tZ_pushB, tC_pushB, tc_pushB, tz_pushB, tI_cpL, tL_cpL, tR_cpL, tN_cpL, tZ_cpL, tC_cpL, tc_cpL, tz_cpL, eq_self, true_and, and_true, false_and, and_false, if_true, if_false, reduceIte, ite_true, ite_false, not_true_eq_false, not_false_eq_true, g1, frN_95 hF, S9c, g2]
theorem y192_1 {a b : TS} {z : Hp} {p : Nat} (hR : R0 a b) (hp : p < tZ a 29 0) : Ex 192 [aR (some (95, 0)), aI (Int32.ofNat p)] (enc 2 b z) = some (.inl (some (aI 1)), enc 2 b z) := by
  have hF := r_FR hR
  obtain ⟨P1, P2, P3, P4, -⟩ := r_P' hR
  have g1 : ¬ Int32.ofNat p < 0 := o_lt0 (by omega)
  have g2 : ¬ Int32.ofNat (tZ a 29 0) ≤ Int32.ofNat p := by rw [o_le (by omega) (by omega)]; omega
  refine (X_in (by decide +kernel) (frN_95 hF) rfl).trans ((lf_192_0 ..).trans ?_)
  simp (config := {decide := true}) only [gfI_enc, gfL_enc, gfR_enc, pfI_enc, pfL_enc, pfR_enc, Option.bind_some, cI_v, cL_v, cF_v, cD_v, cR_v, cV_v, cI_x, cL_x, cR_x, cV_x, gz_0, gz_1, acc_enc, tI_sI, tL_sI, tR_sI, tN_sI, tZ_sI, tC_sI, tc_sI, tz_sI, tI_sL, tL_sL, tR_sL, tN_sL, tZ_sL, tC_sL, tc_sL, tz_sL, tI_sR, tL_sR, tR_sR, tN_sR, tZ_sR, tC_sR, tc_sR, tz_sR, tI_sZ, tL_sZ, tR_sZ, tN_sZ, tZ_sZ, tC_sZ, tc_sZ, tz_sZ, tI_sC, tL_sC, tR_sC, tN_sC, tZ_sC, tC_sC, tc_sC, tz_sC, tI_aC, tL_aC, tR_aC, tN_aC, tZ_aC, tC_aC, tc_aC, tz_aC, tI_rmL, tL_rmL, tR_rmL, tN_rmL, tZ_rmL, tC_rmL, tc_rmL, tz_rmL, tI_mk, tL_mk, tR_mk, tN_mk, tZ_mk, tC_mk, tc_mk, tz_mk, tI_pushL, tL_pushL, tR_pushL, tN_pushL, tZ_pushL, tC_pushL, tc_pushL, tz_pushL, tI_pushB, tL_pushB, tR_pushB, tN_pushB, tZ_pushB, tC_pushB, tc_pushB, tz_pushB, tI_cpL, tL_cpL, tR_cpL, tN_cpL, tZ_cpL, tC_cpL, tc_cpL, tz_cpL, eq_self, true_and, and_true, false_and, and_false, if_true, if_false, reduceIte, ite_true, ite_false, not_true_eq_false, not_false_eq_true, g1, frN_95 hF, frR_95_7 hF, frN_93 hF, P4, g2]
theorem y192_0 {a b : TS} {z : Hp} {p : Int32} (hR : R0 a b) (hp : ¬ inR p 0 (Int32.ofNat (tZ a 29 0) - 1)) : Ex 192 [aR (some (95, 0)), aI p] (enc 2 b z) = some (.inl (some (aI 0)), enc 2 b z) := by
  have hF := r_FR hR
  obtain ⟨P1, P2, P3, P4, -⟩ := r_P' hR
  refine (X_in (by decide +kernel) (frN_95 hF) rfl).trans ((lf_192_0 ..).trans ?_)
  by_cases g1 : p < 0
  · simp (config := {decide := true}) only [gfI_enc, gfL_enc, gfR_enc, pfI_enc, pfL_enc, pfR_enc, Option.bind_some, cI_v, cL_v, cF_v, cD_v, cR_v, cV_v, cI_x, cL_x, cR_x, cV_x, gz_0, gz_1, acc_enc, tI_sI, tL_sI, tR_sI, tN_sI, tZ_sI, tC_sI, tc_sI, tz_sI, tI_sL, tL_sL, tR_sL, tN_sL, tZ_sL, tC_sL, tc_sL, tz_sL, tI_sR, tL_sR, tR_sR, tN_sR, tZ_sR, tC_sR, tc_sR, tz_sR, tI_sZ, tL_sZ, tR_sZ, tN_sZ, tZ_sZ, tC_sZ, tc_sZ, tz_sZ, tI_sC, tL_sC, tR_sC, tN_sC, tZ_sC, tC_sC, tc_sC, tz_sC, tI_aC, tL_aC, tR_aC, tN_aC, tZ_aC, tC_aC, tc_aC, tz_aC, tI_rmL, tL_rmL, tR_rmL, tN_rmL, tZ_rmL, tC_rmL, tc_rmL, tz_rmL, tI_mk, tL_mk, tR_mk, tN_mk, tZ_mk, tC_mk, tc_mk, tz_mk, tI_pushL, tL_pushL, tR_pushL, tN_pushL, tZ_pushL, tC_pushL, tc_pushL, tz_pushL, tI_pushB, tL_pushB, tR_pushB, tN_pushB, tZ_pushB, tC_pushB, tc_pushB, tz_pushB, tI_cpL, tL_cpL, tR_cpL, tN_cpL, tZ_cpL, tC_cpL, tc_cpL, tz_cpL, eq_self, true_and, and_true, false_and, and_false, if_true, if_false, reduceIte, ite_true, ite_false, not_true_eq_false, not_false_eq_true, g1]
  · have g2 := not_in hp (by omega) g1
    simp (config := {decide := true}) only [gfI_enc, gfL_enc, gfR_enc, pfI_enc, pfL_enc, pfR_enc, Option.bind_some, cI_v, cL_v, cF_v, cD_v, cR_v, cV_v, cI_x, cL_x, cR_x, cV_x, gz_0, gz_1, acc_enc, tI_sI, tL_sI, tR_sI, tN_sI, tZ_sI, tC_sI, tc_sI, tz_sI, tI_sL, tL_sL, tR_sL, tN_sL, tZ_sL, tC_sL, tc_sL, tz_sL, tI_sR, tL_sR, tR_sR, tN_sR, tZ_sR, tC_sR, tc_sR, tz_sR, tI_sZ, tL_sZ, tR_sZ, tN_sZ, tZ_sZ, tC_sZ, tc_sZ, tz_sZ, tI_sC, tL_sC, tR_sC, tN_sC, tZ_sC, tC_sC, tc_sC, tz_sC, tI_aC, tL_aC, tR_aC, tN_aC, tZ_aC, tC_aC, tc_aC, tz_aC, tI_rmL, tL_rmL, tR_rmL, tN_rmL, tZ_rmL, tC_rmL, tc_rmL, tz_rmL, tI_mk, tL_mk, tR_mk, tN_mk, tZ_mk, tC_mk, tc_mk, tz_mk, tI_pushL, tL_pushL, tR_pushL, tN_pushL, tZ_pushL, tC_pushL, tc_pushL, tz_pushL, tI_pushB, tL_pushB, tR_pushB, tN_pushB, tZ_pushB, tC_pushB, tc_pushB, tz_pushB, tI_cpL, tL_cpL, tR_cpL, tN_cpL, tZ_cpL, tC_cpL, tc_cpL, tz_cpL, eq_self, true_and, and_true, false_and, and_false, if_true, if_false, reduceIte, ite_true, ite_false, not_true_eq_false, not_false_eq_true, g1, frN_95 hF, frR_95_7 hF, frN_93 hF, P4, g2]
theorem y189_1 {b : TS} {z : Hp} {w : Int32} (hF : FxR b) : Ex 189 [aR (some (95, 0)), aI 1, aI w] (enc 2 b z) = some (.inl (some (aI 1)), enc 2 (sI b 95 0 0 0) z) := by
  refine (X_in (by decide +kernel) (frN_95 hF) rfl).trans ((lf_189_0 ..).trans ?_)
  simp (config := {decide := true}) only [gfI_enc, gfL_enc, gfR_enc, pfI_enc, pfL_enc, pfR_enc, Option.bind_some, cI_v, cL_v, cF_v, cD_v, cR_v, cV_v, cI_x, cL_x, cR_x, cV_x, gz_0, gz_1, acc_enc, tI_sI, tL_sI, tR_sI, tN_sI, tZ_sI, tC_sI, tc_sI, tz_sI, tI_sL, tL_sL, tR_sL, tN_sL, tZ_sL, tC_sL, tc_sL, tz_sL, tI_sR, tL_sR, tR_sR, tN_sR, tZ_sR, tC_sR, tc_sR, tz_sR, tI_sZ, tL_sZ, tR_sZ, tN_sZ, tZ_sZ, tC_sZ, tc_sZ, tz_sZ, tI_sC, tL_sC, tR_sC, tN_sC, tZ_sC, tC_sC, tc_sC, tz_sC, tI_aC, tL_aC, tR_aC, tN_aC, tZ_aC, tC_aC, tc_aC, tz_aC, tI_rmL, tL_rmL, tR_rmL, tN_rmL, tZ_rmL, tC_rmL, tc_rmL, tz_rmL, tI_mk, tL_mk, tR_mk, tN_mk, tZ_mk, tC_mk, tc_mk, tz_mk, tI_pushL, tL_pushL, tR_pushL, tN_pushL, tZ_pushL, tC_pushL, tc_pushL, tz_pushL, tI_pushB, tL_pushB, tR_pushB, tN_pushB, tZ_pushB, tC_pushB, tc_pushB, tz_pushB, tI_cpL, tL_cpL, tR_cpL, tN_cpL, tZ_cpL, tC_cpL, tc_cpL, tz_cpL, eq_self, true_and, and_true, false_and, and_false, if_true, if_false, reduceIte, ite_true, ite_false, not_true_eq_false, not_false_eq_true, frN_95 hF]
theorem y189_0 {b : TS} {z : Hp} {w : Int32} (hF : FxR b) : Ex 189 [aR (some (95, 0)), aI 0, aI w] (enc 2 b z) = some (.inl (some (aI 0)), enc 2 (sI b 95 0 0 w) z) := by
  refine (X_in (by decide +kernel) (frN_95 hF) rfl).trans ((lf_189_0 ..).trans ?_)
  simp (config := {decide := true}) only [gfI_enc, gfL_enc, gfR_enc, pfI_enc, pfL_enc, pfR_enc, Option.bind_some, cI_v, cL_v, cF_v, cD_v, cR_v, cV_v, cI_x, cL_x, cR_x, cV_x, gz_0, gz_1, acc_enc, tI_sI, tL_sI, tR_sI, tN_sI, tZ_sI, tC_sI, tc_sI, tz_sI, tI_sL, tL_sL, tR_sL, tN_sL, tZ_sL, tC_sL, tc_sL, tz_sL, tI_sR, tL_sR, tR_sR, tN_sR, tZ_sR, tC_sR, tc_sR, tz_sR, tI_sZ, tL_sZ, tR_sZ, tN_sZ, tZ_sZ, tC_sZ, tc_sZ, tz_sZ, tI_sC, tL_sC, tR_sC, tN_sC, tZ_sC, tC_sC, tc_sC, tz_sC, tI_aC, tL_aC, tR_aC, tN_aC, tZ_aC, tC_aC, tc_aC, tz_aC, tI_rmL, tL_rmL, tR_rmL, tN_rmL, tZ_rmL, tC_rmL, tc_rmL, tz_rmL, tI_mk, tL_mk, tR_mk, tN_mk, tZ_mk, tC_mk, tc_mk, tz_mk, tI_pushL, tL_pushL, tR_pushL, tN_pushL, tZ_pushL, tC_pushL, tc_pushL, tz_pushL, tI_pushB, tL_pushB, tR_pushB, tN_pushB, tZ_pushB, tC_pushB, tc_pushB, tz_pushB, tI_cpL, tL_cpL, tR_cpL, tN_cpL, tZ_cpL, tC_cpL, tc_cpL, tz_cpL, eq_self, true_and, and_true, false_and, and_false, if_true, if_false, reduceIte, ite_true, ite_false, not_true_eq_false, not_false_eq_true, frN_95 hF]
theorem th95_c {b : TS} {v : Int32} : chF [] FtH b (sI b 95 0 0 v) := chF_I (Or.inr (by decide)) (chF_r _ _ _)
theorem th95_w {b : TS} {v : Int32} : Wr b (sI b 95 0 0 v) := (Wr.rf _).cI _ _ _ _
