/-! ===== the shop's command ===== -/
theorem op_shop {a b : TS} {C : Nat} (h : Core a b C) (p0 p1 : Int32) : OpR 86 [aR (some (96, 0)), aI p0, aI p1] 87 [aR (some (96, 0)), aI p0, aI p1] 263 [aR (some (97, 0)), aI p0, aI p1] (fun r => r - 1) a b C C := by
  have hR := h.1.1
  have hF := r_FC hR
  have hFR := r_FR hR
  obtain ⟨S1, ⟨S2, S2', -⟩, ⟨n36, n21, n22, n18, n19, n20⟩, ⟨S3, S4, S9⟩, S5⟩ := r_S hR
  have n10 : ¬ (1 : Int32) = 0 := by decide
  have n20' : ¬ (2 : Int32) = 0 := by decide
  have y263 : ∀ (r : Nat), 1 ≤ r → r ≤ 2 → (∀ z, Ex 232 [aR (some (93, 0)), aI p0, aI p1] (enc 2 b z) = some (.inl (some (aI 0)), enc 2 (sI b 93 0 10 (Int32.ofNat r)) z)) → ∀ z, Ex 263 [aR (some (97, 0)), aI p0, aI p1] (enc 2 b z) = some (.inl (some (aI 0)), enc 2 (sI (sI b 93 0 10 (Int32.ofNat r)) 97 0 8 (Int32.ofNat r)) z) := fun r r1 r2 hy z => by
    have hF' : FxR (sI b 93 0 10 (Int32.ofNat r)) := FxR_s hFR th93_w (th93_c (b := b) (v := Int32.ofNat r)) (by decide)
    have f255 := fun v z => y255 (b := sI b 93 0 10 (Int32.ofNat r)) (z := z) (v := v) hF'
    have e : tI (sI b 93 0 10 (Int32.ofNat r)) 93 0 10 = Int32.ofNat r := by rw [tI_sI, if_pos ⟨rfl, rfl, rfl⟩]
    rw [e] at f255
    have nr : ¬ Int32.ofNat r = 0 := fun q => by
      have := o_inj (by omega) (by omega) (show Int32.ofNat r = Int32.ofNat 0 from q)
      omega
    refine (X_in (by decide +kernel) (frN_97 hFR) rfl).trans ((lf_263_0 ..).trans ?_)
    simp (config := {decide := true}) only [gfI_enc, gfL_enc, gfR_enc, pfI_enc, pfL_enc, pfR_enc, Option.bind_some, cI_v, cL_v, cF_v, cD_v, cR_v, cV_v, cI_x, cL_x, cR_x, cV_x, gz_0, gz_1, acc_enc, tI_sI, tL_sI, tR_sI, tN_sI, tZ_sI, tC_sI, tc_sI, tz_sI, tI_sL, tL_sL, tR_sL, tN_sL, tZ_sL, tC_sL, tc_sL, tz_sL, tI_sR, tL_sR, tR_sR, tN_sR, tZ_sR, tC_sR, tc_sR, tz_sR, tI_sZ, tL_sZ, tR_sZ, tN_sZ, tZ_sZ, tC_sZ, tc_sZ, tz_sZ, tI_sC, tL_sC, tR_sC, tN_sC, tZ_sC, tC_sC, tc_sC, tz_sC, tI_aC, tL_aC, tR_aC, tN_aC, tZ_aC, tC_aC, tc_aC, tz_aC, tI_rmL, tL_rmL, tR_rmL, tN_rmL, tZ_rmL, tC_rmL, tc_rmL, tz_rmL, tI_mk, tL_mk, tR_mk, tN_mk, tZ_mk, tC_mk, tc_mk, tz_mk, tI_pushL, tL_pushL, tR_pushL, tN_pushL, tZ_pushL, tC_pushL, tc_pushL, tz_pushL, tI_pushB, tL_pushB, tR_pushB, tN_pushB, tZ_pushB, tC_pushB, tc_pushB, tz_pushB, tI_cpL, tL_cpL, tR_cpL, tN_cpL, tZ_cpL, tC_cpL, tc_cpL, tz_cpL, eq_self, true_and, and_true, false_and, and_false, if_true, if_false, reduceIte, ite_true, ite_false, not_true_eq_false, not_false_eq_true, frN_97 hFR, frR_97_2 hFR, hy, frN_93 hFR, nr, f255]
  have bad : ∀ r, 1 ≤ r → r ≤ 2 → (∀ z, Ex 86 [aR (some (96, 0)), aI p0, aI p1] (enc 1 a z) = some (.inl (some (aI (Int32.ofNat (r + 1)))), enc 1 a z)) → (∀ z, Ex 232 [aR (some (93, 0)), aI p0, aI p1] (enc 2 b z) = some (.inl (some (aI 0)), enc 2 (sI b 93 0 10 (Int32.ofNat r)) z)) → OpR 86 [aR (some (96, 0)), aI p0, aI p1] 87 [aR (some (96, 0)), aI p0, aI p1] 263 [aR (some (97, 0)), aI p0, aI p1] (fun r => r - 1) a b C C := fun r r1 r2 hx hy =>
    OpR_bad h (r + 1) (by omega) (by omega) hx (y263 r r1 r2 hy) (chF_t th93_c th_c) (th93_w.t th_w) (by rw [tI_sI, if_pos ⟨rfl, rfl, rfl⟩, Nat.add_sub_cancel])
  have f1 := fun y w z => y225_1 (b := b) (z := z) y w hFR
  have f2 := fun w z => y225_2 (b := b) (z := z) w hFR
  by_cases e0 : inR p0 0 50000
  · have x0 := x139_1 e0
    have y0 := y224_1 e0
    by_cases e1 : inR p1 0 9
    · have x1 := x139_1 e1
      have y1 := y224_1 e1
      by_cases e4 : tZ a 27 0 = 4
      · have o4 : tI b 93 0 7 = 4 := by rw [S4, e4]; rfl
        have n4 : ¬ Int32.ofNat (tZ a 27 0) < 4 := by rw [e4]; decide
        refine bad 2 (by omega) (by omega) (fun z => ?_) (fun z => ?_)
        · refine (X_in (by decide +kernel) (fcN_96 hF) rfl).trans ((lf_86_0 ..).trans ?_)
          simp (config := {decide := true}) only [gfI_enc, gfL_enc, gfR_enc, pfI_enc, pfL_enc, pfR_enc, Option.bind_some, cI_v, cL_v, cF_v, cD_v, cR_v, cV_v, cI_x, cL_x, cR_x, cV_x, gz_0, gz_1, acc_enc, tI_sI, tL_sI, tR_sI, tN_sI, tZ_sI, tC_sI, tc_sI, tz_sI, tI_sL, tL_sL, tR_sL, tN_sL, tZ_sL, tC_sL, tc_sL, tz_sL, tI_sR, tL_sR, tR_sR, tN_sR, tZ_sR, tC_sR, tc_sR, tz_sR, tI_sZ, tL_sZ, tR_sZ, tN_sZ, tZ_sZ, tC_sZ, tc_sZ, tz_sZ, tI_sC, tL_sC, tR_sC, tN_sC, tZ_sC, tC_sC, tc_sC, tz_sC, tI_aC, tL_aC, tR_aC, tN_aC, tZ_aC, tC_aC, tc_aC, tz_aC, tI_rmL, tL_rmL, tR_rmL, tN_rmL, tZ_rmL, tC_rmL, tc_rmL, tz_rmL, tI_mk, tL_mk, tR_mk, tN_mk, tZ_mk, tC_mk, tc_mk, tz_mk, tI_pushL, tL_pushL, tR_pushL, tN_pushL, tZ_pushL, tC_pushL, tc_pushL, tz_pushL, tI_pushB, tL_pushB, tR_pushB, tN_pushB, tZ_pushB, tC_pushB, tc_pushB, tz_pushB, tI_cpL, tL_cpL, tR_cpL, tN_cpL, tZ_cpL, tC_cpL, tc_cpL, tz_cpL, eq_self, true_and, and_true, false_and, and_false, if_true, if_false, reduceIte, ite_true, ite_false, not_true_eq_false, not_false_eq_true, x0, x1, n10, fcN_96 hF, fcR_96_3 hF, X405, fcN_27 hF, n4]
          rfl
        · refine (X_in (by decide +kernel) (frN_93 hFR) rfl).trans ((lf_232_0 ..).trans ?_)
          simp (config := {decide := true}) only [gfI_enc, gfL_enc, gfR_enc, pfI_enc, pfL_enc, pfR_enc, Option.bind_some, cI_v, cL_v, cF_v, cD_v, cR_v, cV_v, cI_x, cL_x, cR_x, cV_x, gz_0, gz_1, acc_enc, tI_sI, tL_sI, tR_sI, tN_sI, tZ_sI, tC_sI, tc_sI, tz_sI, tI_sL, tL_sL, tR_sL, tN_sL, tZ_sL, tC_sL, tc_sL, tz_sL, tI_sR, tL_sR, tR_sR, tN_sR, tZ_sR, tC_sR, tc_sR, tz_sR, tI_sZ, tL_sZ, tR_sZ, tN_sZ, tZ_sZ, tC_sZ, tc_sZ, tz_sZ, tI_sC, tL_sC, tR_sC, tN_sC, tZ_sC, tC_sC, tc_sC, tz_sC, tI_aC, tL_aC, tR_aC, tN_aC, tZ_aC, tC_aC, tc_aC, tz_aC, tI_rmL, tL_rmL, tR_rmL, tN_rmL, tZ_rmL, tC_rmL, tc_rmL, tz_rmL, tI_mk, tL_mk, tR_mk, tN_mk, tZ_mk, tC_mk, tc_mk, tz_mk, tI_pushL, tL_pushL, tR_pushL, tN_pushL, tZ_pushL, tC_pushL, tc_pushL, tz_pushL, tI_pushB, tL_pushB, tR_pushB, tN_pushB, tZ_pushB, tC_pushB, tc_pushB, tz_pushB, tI_cpL, tL_cpL, tR_cpL, tN_cpL, tZ_cpL, tC_cpL, tc_cpL, tz_cpL, eq_self, true_and, and_true, false_and, and_false, if_true, if_false, reduceIte, ite_true, ite_false, not_true_eq_false, not_false_eq_true, y0, y1, n10, frN_93 hFR, o4, f2]
          rfl
      · have h4 : tZ a 27 0 < 4 := by omega
        have l4 : Int32.ofNat (tZ a 27 0) < 4 := (o_lt (n := tZ a 27 0) (k := 4) (by omega) (by omega)).mpr h4
        have l4' : ¬ Int32.ofNat (tZ a 27 0) = 4 := fun q => e4 (o_inj (by omega) (by omega) (show Int32.ofNat (tZ a 27 0) = Int32.ofNat 4 from q))
        have hL := h.1.2.2.1.1
        have hN : ShN a (tZ a 27 0) := ⟨n36, n18, n19, n20, n21, n22, hL.2.2.2.2.2.2.2.1, hL.1.2.1⟩
        have hM : CbN b (tZ a 27 0) (tN b 49) (tN b 50) := ⟨hL.2.2.2.2.2.2.2.2.2.1, hL.2.2.2.2.2.2.2.2.2.2, hL.2.2.2.2.2.2.2.2.1.1, rfl, rfl⟩
        have hA := shA_all p0 p1 (fcN_27 hF) S2 hN
        have hB := shB_all p0 p1 hM
        obtain ⟨hc, sa, sb⟩ := core_shop h h4 hA hB rfl rfl
        have hx86 : ∀ z, Ex 86 [aR (some (96, 0)), aI p0, aI p1] (enc 1 a z) = some (.inl (some (aI 0)), enc 1 a z) := fun z => by
          refine (X_in (by decide +kernel) (fcN_96 hF) rfl).trans ((lf_86_0 ..).trans ?_)
          simp (config := {decide := true}) only [gfI_enc, gfL_enc, gfR_enc, pfI_enc, pfL_enc, pfR_enc, Option.bind_some, cI_v, cL_v, cF_v, cD_v, cR_v, cV_v, cI_x, cL_x, cR_x, cV_x, gz_0, gz_1, acc_enc, tI_sI, tL_sI, tR_sI, tN_sI, tZ_sI, tC_sI, tc_sI, tz_sI, tI_sL, tL_sL, tR_sL, tN_sL, tZ_sL, tC_sL, tc_sL, tz_sL, tI_sR, tL_sR, tR_sR, tN_sR, tZ_sR, tC_sR, tc_sR, tz_sR, tI_sZ, tL_sZ, tR_sZ, tN_sZ, tZ_sZ, tC_sZ, tc_sZ, tz_sZ, tI_sC, tL_sC, tR_sC, tN_sC, tZ_sC, tC_sC, tc_sC, tz_sC, tI_aC, tL_aC, tR_aC, tN_aC, tZ_aC, tC_aC, tc_aC, tz_aC, tI_rmL, tL_rmL, tR_rmL, tN_rmL, tZ_rmL, tC_rmL, tc_rmL, tz_rmL, tI_mk, tL_mk, tR_mk, tN_mk, tZ_mk, tC_mk, tc_mk, tz_mk, tI_pushL, tL_pushL, tR_pushL, tN_pushL, tZ_pushL, tC_pushL, tc_pushL, tz_pushL, tI_pushB, tL_pushB, tR_pushB, tN_pushB, tZ_pushB, tC_pushB, tc_pushB, tz_pushB, tI_cpL, tL_cpL, tR_cpL, tN_cpL, tZ_cpL, tC_cpL, tc_cpL, tz_cpL, eq_self, true_and, and_true, false_and, and_false, if_true, if_false, reduceIte, ite_true, ite_false, not_true_eq_false, not_false_eq_true, x0, x1, n10, fcN_96 hF, fcR_96_3 hF, X405, fcN_27 hF, l4]
        have hFA := r_FC hc.1.1
        have z27 : tZ (shA a (tZ a 27 0) p0 p1) 27 0 = tZ a 27 0 + 1 := hA.2.2.2.2.1.1
        have o27 := shJ_old hN p0 p1 27 0 (fun q => by unfold shNew at q; omega)
        have j27 : tN (shJ a (tZ a 27 0) p0 p1) 27 = tN a 27 := by rw [shJ_N, if_neg (by decide), if_neg (by decide)]
        have hx87 : ∀ z, Ex 87 [aR (some (96, 0)), aI p0, aI p1] (enc 1 a z) = some (.inl (some (aI (Int32.ofNat (tZ a 27 0)))), enc 1 (shA a (tZ a 27 0) p0 p1) z) := fun z => by
          have hnF : nF 10 = 13 := rfl
          have f66 := fun z => x66 (z := z) (p0 := p0) (p1 := p1) hN
          have f401 := fun z => X401 (w := 1) (s := 27) (i := 0) (m := shJ a (tZ a 27 0) p0 p1) (z := z) (v := some (36, tZ a 27 0)) (by decide +kernel) (by rw [j27]; exact fcN_27 hF) (by rw [o27.2.2.1]; omega) (by rw [o27.2.2.1, o27.2.2.2.1]; exact S2) (by rw [o27.2.2.2.1]; omega) rfl
          have eP : pushL (shJ a (tZ a 27 0) p0 p1) 27 0 (some (36, tZ a 27 0)) = shA a (tZ a 27 0) p0 p1 := rfl
          rw [eP] at f401
          have k3 : ∀ z, gfR (enc 1 (shA a (tZ a 27 0) p0 p1) z) (some (96, 0)) 11 3 = some (some (27, 0)) := fun z => by simp (config := {decide := true}) only [gfI_enc, gfL_enc, gfR_enc, pfI_enc, pfL_enc, pfR_enc, Option.bind_some, cI_v, cL_v, cF_v, cD_v, cR_v, cV_v, cI_x, cL_x, cR_x, cV_x, gz_0, gz_1, acc_enc, tI_sI, tL_sI, tR_sI, tN_sI, tZ_sI, tC_sI, tc_sI, tz_sI, tI_sL, tL_sL, tR_sL, tN_sL, tZ_sL, tC_sL, tc_sL, tz_sL, tI_sR, tL_sR, tR_sR, tN_sR, tZ_sR, tC_sR, tc_sR, tz_sR, tI_sZ, tL_sZ, tR_sZ, tN_sZ, tZ_sZ, tC_sZ, tc_sZ, tz_sZ, tI_sC, tL_sC, tR_sC, tN_sC, tZ_sC, tC_sC, tc_sC, tz_sC, tI_aC, tL_aC, tR_aC, tN_aC, tZ_aC, tC_aC, tc_aC, tz_aC, tI_rmL, tL_rmL, tR_rmL, tN_rmL, tZ_rmL, tC_rmL, tc_rmL, tz_rmL, tI_mk, tL_mk, tR_mk, tN_mk, tZ_mk, tC_mk, tc_mk, tz_mk, tI_pushL, tL_pushL, tR_pushL, tN_pushL, tZ_pushL, tC_pushL, tc_pushL, tz_pushL, tI_pushB, tL_pushB, tR_pushB, tN_pushB, tZ_pushB, tC_pushB, tc_pushB, tz_pushB, tI_cpL, tL_cpL, tR_cpL, tN_cpL, tZ_cpL, tC_cpL, tc_cpL, tz_cpL, eq_self, true_and, and_true, false_and, and_false, if_true, if_false, reduceIte, ite_true, ite_false, not_true_eq_false, not_false_eq_true, fcN_96 hFA, fcR_96_3 hFA]
          have k405 : ∀ z, Ex 405 [aR (some (27, 0))] (enc 1 (shA a (tZ a 27 0) p0 p1) z) = some (.inl (some (aI (Int32.ofNat (tZ a 27 0 + 1)))), enc 1 (shA a (tZ a 27 0) p0 p1) z) := fun z => by simp (config := {decide := true}) only [gfI_enc, gfL_enc, gfR_enc, pfI_enc, pfL_enc, pfR_enc, Option.bind_some, cI_v, cL_v, cF_v, cD_v, cR_v, cV_v, cI_x, cL_x, cR_x, cV_x, gz_0, gz_1, acc_enc, tI_sI, tL_sI, tR_sI, tN_sI, tZ_sI, tC_sI, tc_sI, tz_sI, tI_sL, tL_sL, tR_sL, tN_sL, tZ_sL, tC_sL, tc_sL, tz_sL, tI_sR, tL_sR, tR_sR, tN_sR, tZ_sR, tC_sR, tc_sR, tz_sR, tI_sZ, tL_sZ, tR_sZ, tN_sZ, tZ_sZ, tC_sZ, tc_sZ, tz_sZ, tI_sC, tL_sC, tR_sC, tN_sC, tZ_sC, tC_sC, tc_sC, tz_sC, tI_aC, tL_aC, tR_aC, tN_aC, tZ_aC, tC_aC, tc_aC, tz_aC, tI_rmL, tL_rmL, tR_rmL, tN_rmL, tZ_rmL, tC_rmL, tc_rmL, tz_rmL, tI_mk, tL_mk, tR_mk, tN_mk, tZ_mk, tC_mk, tc_mk, tz_mk, tI_pushL, tL_pushL, tR_pushL, tN_pushL, tZ_pushL, tC_pushL, tc_pushL, tz_pushL, tI_pushB, tL_pushB, tR_pushB, tN_pushB, tZ_pushB, tC_pushB, tc_pushB, tz_pushB, tI_cpL, tL_cpL, tR_cpL, tN_cpL, tZ_cpL, tC_cpL, tc_cpL, tz_cpL, eq_self, true_and, and_true, false_and, and_false, if_true, if_false, reduceIte, ite_true, ite_false, not_true_eq_false, not_false_eq_true, X405, fcN_27 hFA, z27]
          clear o27 j27 z27 hA hc sa eP
          generalize shA a (tZ a 27 0) p0 p1 = A at *
          generalize shJ a (tZ a 27 0) p0 p1 = J at *
          refine (X_in (by decide +kernel) (fcN_96 hF) rfl).trans ((lf_87_0 ..).trans ?_)
          rw [nob_enc (by decide +kernel), hnF]
          simp (config := {decide := true}) only [gfI_enc, gfL_enc, gfR_enc, pfI_enc, pfL_enc, pfR_enc, Option.bind_some, cI_v, cL_v, cF_v, cD_v, cR_v, cV_v, cI_x, cL_x, cR_x, cV_x, gz_0, gz_1, acc_enc, tI_sI, tL_sI, tR_sI, tN_sI, tZ_sI, tC_sI, tc_sI, tz_sI, tI_sL, tL_sL, tR_sL, tN_sL, tZ_sL, tC_sL, tc_sL, tz_sL, tI_sR, tL_sR, tR_sR, tN_sR, tZ_sR, tC_sR, tc_sR, tz_sR, tI_sZ, tL_sZ, tR_sZ, tN_sZ, tZ_sZ, tC_sZ, tc_sZ, tz_sZ, tI_sC, tL_sC, tR_sC, tN_sC, tZ_sC, tC_sC, tc_sC, tz_sC, tI_aC, tL_aC, tR_aC, tN_aC, tZ_aC, tC_aC, tc_aC, tz_aC, tI_rmL, tL_rmL, tR_rmL, tN_rmL, tZ_rmL, tC_rmL, tc_rmL, tz_rmL, tI_mk, tL_mk, tR_mk, tN_mk, tZ_mk, tC_mk, tc_mk, tz_mk, tI_pushL, tL_pushL, tR_pushL, tN_pushL, tZ_pushL, tC_pushL, tc_pushL, tz_pushL, tI_pushB, tL_pushB, tR_pushB, tN_pushB, tZ_pushB, tC_pushB, tc_pushB, tz_pushB, tI_cpL, tL_cpL, tR_cpL, tN_cpL, tZ_cpL, tC_cpL, tc_cpL, tz_cpL, eq_self, true_and, and_true, false_and, and_false, if_true, if_false, reduceIte, ite_true, ite_false, not_true_eq_false, not_false_eq_true, fcN_96 hF, fcR_96_3 hF, fcR_96_1 hF, X405, fcN_27 hF, n36, f66, f401, k3, k405, o_p]
        have g1 : (Int32.ofNat (tZ a 27 0)).toNatClampNeg = tZ a 27 0 := o_ix (by omega)
        have g2 : ¬ Int32.ofNat (tZ a 27 0) < 0 := o_lt0 (by omega)
        have f0 := fun z => y225_0 (b := b) (z := z) hFR
        have hF0 : FxR (sI b 93 0 10 0) := FxR_s hFR th93_w (th93_c (b := b) (v := 0)) (by decide)
        have hy232 : ∀ z, Ex 232 [aR (some (93, 0)), aI p0, aI p1] (enc 2 b z) = some (.inl (some (aI (Int32.ofNat (tZ a 27 0)))), enc 2 (shB0 b (tZ a 27 0) p0 p1) z) := fun z => by
          refine (X_in (by decide +kernel) (frN_93 hFR) rfl).trans ((lf_232_0 ..).trans ?_)
          simp (config := {decide := true}) only [gfI_enc, gfL_enc, gfR_enc, pfI_enc, pfL_enc, pfR_enc, Option.bind_some, cI_v, cL_v, cF_v, cD_v, cR_v, cV_v, cI_x, cL_x, cR_x, cV_x, gz_0, gz_1, acc_enc, tI_sI, tL_sI, tR_sI, tN_sI, tZ_sI, tC_sI, tc_sI, tz_sI, tI_sL, tL_sL, tR_sL, tN_sL, tZ_sL, tC_sL, tc_sL, tz_sL, tI_sR, tL_sR, tR_sR, tN_sR, tZ_sR, tC_sR, tc_sR, tz_sR, tI_sZ, tL_sZ, tR_sZ, tN_sZ, tZ_sZ, tC_sZ, tc_sZ, tz_sZ, tI_sC, tL_sC, tR_sC, tN_sC, tZ_sC, tC_sC, tc_sC, tz_sC, tI_aC, tL_aC, tR_aC, tN_aC, tZ_aC, tC_aC, tc_aC, tz_aC, tI_rmL, tL_rmL, tR_rmL, tN_rmL, tZ_rmL, tC_rmL, tc_rmL, tz_rmL, tI_mk, tL_mk, tR_mk, tN_mk, tZ_mk, tC_mk, tc_mk, tz_mk, tI_pushL, tL_pushL, tR_pushL, tN_pushL, tZ_pushL, tC_pushL, tc_pushL, tz_pushL, tI_pushB, tL_pushB, tR_pushB, tN_pushB, tZ_pushB, tC_pushB, tc_pushB, tz_pushB, tI_cpL, tL_cpL, tR_cpL, tN_cpL, tZ_cpL, tC_cpL, tc_cpL, tz_cpL, eq_self, true_and, and_true, false_and, and_false, if_true, if_false, reduceIte, ite_true, ite_false, not_true_eq_false, not_false_eq_true, y0, y1, n10, frN_93 hFR, S4, l4', f0, frR_93_3 hFR, frR_93_4 hFR, frN_88 hFR, frZ_88 hFR, frN_89 hFR, frZ_89 hFR, paI_enc, g1, g2, h4, o_s, o_p]
          rfl
        obtain ⟨c0, w0⟩ := shB0_eq b (tZ a 27 0) p0 p1
        have F0 : FxR (shB0 b (tZ a 27 0) p0 p1) := FxR_s hFR w0 c0 (by decide)
        have i95 : tI (shB0 b (tZ a 27 0) p0 p1) 95 0 9 = Int32.ofNat (tZ a 27 0) := (dIS c0 (S := [95]) (P := []) (s := 95) (by decide) (by simp) 0 9).trans S9
        have i91 : tI (shB0 b (tZ a 27 0) p0 p1) 91 0 6 = Int32.ofNat (tZ a 27 0) := (dIS c0 (S := [91]) (P := []) (s := 91) (by decide) (by simp) 0 6).trans S3
        have i93 : tI (shB0 b (tZ a 27 0) p0 p1) 93 0 10 = 0 := by
          unfold shB0
          simp (config := {decide := true}) only [tI_sI, true_and, false_and, and_false, and_self, if_true, if_false]
        have N0 : CbN (shB0 b (tZ a 27 0) p0 p1) (tZ a 27 0) (tN b 49) (tN b 50) := by
          obtain ⟨q1, q2, q3, -, -⟩ := hM
          have e : ∀ s, s ≠ 88 → s ≠ 89 → tN (shB0 b (tZ a 27 0) p0 p1) s = tN b s := fun s hs hs' => (c0 s (by simp; omega)).2.2.2.1
          exact ⟨(e _ (by decide) (by decide)).trans q1, (e _ (by decide) (by decide)).trans q2, (e _ (by decide) (by decide)).trans q3, e _ (by decide) (by decide), e _ (by decide) (by decide)⟩
        have f190 := fun z => y190s (z := z) F0 h4 i95 N0
        obtain ⟨c1, w1⟩ := shB1_eq (shB0 b (tZ a 27 0) p0 p1) (tZ a 27 0) (tN b 49) (tN b 50)
        have F1 : FxR (shB1 (shB0 b (tZ a 27 0) p0 p1) (tZ a 27 0) (tN b 49) (tN b 50)) := FxR_s F0 w1 c1 (by decide)
        have j91 : tI (shB1 (shB0 b (tZ a 27 0) p0 p1) (tZ a 27 0) (tN b 49) (tN b 50)) 91 0 6 = Int32.ofNat (tZ a 27 0) := (dIS c1 (S := [91]) (P := []) (s := 91) (by decide) (by simp) 0 6).trans i91
        have eB : sI (shB1 (shB0 b (tZ a 27 0) p0 p1) (tZ a 27 0) (tN b 49) (tN b 50)) 91 0 6 (Int32.ofNat (tZ a 27 0 + 1)) = shB b (tZ a 27 0) p0 p1 := rfl
        have b93 : tI (shB b (tZ a 27 0) p0 p1) 93 0 10 = 0 := hB.2.2.2.2.1.2.2.2.2
        have f255 := fun v z => y255 (b := shB b (tZ a 27 0) p0 p1) (z := z) (v := v) (r_FR hc.1.1)
        rw [b93] at f255
        have hy263 : ∀ z, Ex 263 [aR (some (97, 0)), aI p0, aI p1] (enc 2 b z) = some (.inl (some (aI (Int32.ofNat (tZ a 27 0)))), enc 2 (sI (shB b (tZ a 27 0) p0 p1) 97 0 8 0) z) := fun z => by
          clear hA hB hc sa sb hx86 hx87
          generalize shB b (tZ a 27 0) p0 p1 = Y at *
          generalize shB1 (shB0 b (tZ a 27 0) p0 p1) (tZ a 27 0) (tN b 49) (tN b 50) = Y1 at *
          generalize shB0 b (tZ a 27 0) p0 p1 = Y0 at *
          refine (X_in (by decide +kernel) (frN_97 hFR) rfl).trans ((lf_263_0 ..).trans ?_)
          simp (config := {decide := true}) only [gfI_enc, gfL_enc, gfR_enc, pfI_enc, pfL_enc, pfR_enc, Option.bind_some, cI_v, cL_v, cF_v, cD_v, cR_v, cV_v, cI_x, cL_x, cR_x, cV_x, gz_0, gz_1, acc_enc, tI_sI, tL_sI, tR_sI, tN_sI, tZ_sI, tC_sI, tc_sI, tz_sI, tI_sL, tL_sL, tR_sL, tN_sL, tZ_sL, tC_sL, tc_sL, tz_sL, tI_sR, tL_sR, tR_sR, tN_sR, tZ_sR, tC_sR, tc_sR, tz_sR, tI_sZ, tL_sZ, tR_sZ, tN_sZ, tZ_sZ, tC_sZ, tc_sZ, tz_sZ, tI_sC, tL_sC, tR_sC, tN_sC, tZ_sC, tC_sC, tc_sC, tz_sC, tI_aC, tL_aC, tR_aC, tN_aC, tZ_aC, tC_aC, tc_aC, tz_aC, tI_rmL, tL_rmL, tR_rmL, tN_rmL, tZ_rmL, tC_rmL, tc_rmL, tz_rmL, tI_mk, tL_mk, tR_mk, tN_mk, tZ_mk, tC_mk, tc_mk, tz_mk, tI_pushL, tL_pushL, tR_pushL, tN_pushL, tZ_pushL, tC_pushL, tc_pushL, tz_pushL, tI_pushB, tL_pushB, tR_pushB, tN_pushB, tZ_pushB, tC_pushB, tc_pushB, tz_pushB, tI_cpL, tL_cpL, tR_cpL, tN_cpL, tZ_cpL, tC_cpL, tc_cpL, tz_cpL, eq_self, true_and, and_true, false_and, and_false, if_true, if_false, reduceIte, ite_true, ite_false, not_true_eq_false, not_false_eq_true, frN_97 hFR, frR_97_2 hFR, hy232, frN_97 F0, frR_97_2 F0, frN_93 F0, i93, frR_97_4 F0, f190, frN_97 F1, frR_97_0 F1, frN_91 F1, j91, o_s, eB, f255]
        exact Or.inr (done_of hx86 ⟨_, _, _, hx87, hy263, th_v, Core_th hc th_c th_w, hA.2.1, hB.2.1.t th_w, sa, sam_t sb th_s⟩)
    · have x1 := x139_0 e1
      have y1 := y224_0 e1
      refine bad 1 (by omega) (by omega) (fun z => ?_) (fun z => ?_)
      · refine (X_in (by decide +kernel) (fcN_96 hF) rfl).trans ((lf_86_0 ..).trans ?_)
        simp (config := {decide := true}) only [gfI_enc, gfL_enc, gfR_enc, pfI_enc, pfL_enc, pfR_enc, Option.bind_some, cI_v, cL_v, cF_v, cD_v, cR_v, cV_v, cI_x, cL_x, cR_x, cV_x, gz_0, gz_1, acc_enc, tI_sI, tL_sI, tR_sI, tN_sI, tZ_sI, tC_sI, tc_sI, tz_sI, tI_sL, tL_sL, tR_sL, tN_sL, tZ_sL, tC_sL, tc_sL, tz_sL, tI_sR, tL_sR, tR_sR, tN_sR, tZ_sR, tC_sR, tc_sR, tz_sR, tI_sZ, tL_sZ, tR_sZ, tN_sZ, tZ_sZ, tC_sZ, tc_sZ, tz_sZ, tI_sC, tL_sC, tR_sC, tN_sC, tZ_sC, tC_sC, tc_sC, tz_sC, tI_aC, tL_aC, tR_aC, tN_aC, tZ_aC, tC_aC, tc_aC, tz_aC, tI_rmL, tL_rmL, tR_rmL, tN_rmL, tZ_rmL, tC_rmL, tc_rmL, tz_rmL, tI_mk, tL_mk, tR_mk, tN_mk, tZ_mk, tC_mk, tc_mk, tz_mk, tI_pushL, tL_pushL, tR_pushL, tN_pushL, tZ_pushL, tC_pushL, tc_pushL, tz_pushL, tI_pushB, tL_pushB, tR_pushB, tN_pushB, tZ_pushB, tC_pushB, tc_pushB, tz_pushB, tI_cpL, tL_cpL, tR_cpL, tN_cpL, tZ_cpL, tC_cpL, tc_cpL, tz_cpL, eq_self, true_and, and_true, false_and, and_false, if_true, if_false, reduceIte, ite_true, ite_false, not_true_eq_false, not_false_eq_true, x0, x1, n10]
        rfl
      · refine (X_in (by decide +kernel) (frN_93 hFR) rfl).trans ((lf_232_0 ..).trans ?_)
        by_cases e4 : tI b 93 0 7 = 4
        · simp (config := {decide := true}) only [gfI_enc, gfL_enc, gfR_enc, pfI_enc, pfL_enc, pfR_enc, Option.bind_some, cI_v, cL_v, cF_v, cD_v, cR_v, cV_v, cI_x, cL_x, cR_x, cV_x, gz_0, gz_1, acc_enc, tI_sI, tL_sI, tR_sI, tN_sI, tZ_sI, tC_sI, tc_sI, tz_sI, tI_sL, tL_sL, tR_sL, tN_sL, tZ_sL, tC_sL, tc_sL, tz_sL, tI_sR, tL_sR, tR_sR, tN_sR, tZ_sR, tC_sR, tc_sR, tz_sR, tI_sZ, tL_sZ, tR_sZ, tN_sZ, tZ_sZ, tC_sZ, tc_sZ, tz_sZ, tI_sC, tL_sC, tR_sC, tN_sC, tZ_sC, tC_sC, tc_sC, tz_sC, tI_aC, tL_aC, tR_aC, tN_aC, tZ_aC, tC_aC, tc_aC, tz_aC, tI_rmL, tL_rmL, tR_rmL, tN_rmL, tZ_rmL, tC_rmL, tc_rmL, tz_rmL, tI_mk, tL_mk, tR_mk, tN_mk, tZ_mk, tC_mk, tc_mk, tz_mk, tI_pushL, tL_pushL, tR_pushL, tN_pushL, tZ_pushL, tC_pushL, tc_pushL, tz_pushL, tI_pushB, tL_pushB, tR_pushB, tN_pushB, tZ_pushB, tC_pushB, tc_pushB, tz_pushB, tI_cpL, tL_cpL, tR_cpL, tN_cpL, tZ_cpL, tC_cpL, tc_cpL, tz_cpL, eq_self, true_and, and_true, false_and, and_false, if_true, if_false, reduceIte, ite_true, ite_false, not_true_eq_false, not_false_eq_true, y0, y1, n10, frN_93 hFR, e4, f1]
          rfl
        · simp (config := {decide := true}) only [gfI_enc, gfL_enc, gfR_enc, pfI_enc, pfL_enc, pfR_enc, Option.bind_some, cI_v, cL_v, cF_v, cD_v, cR_v, cV_v, cI_x, cL_x, cR_x, cV_x, gz_0, gz_1, acc_enc, tI_sI, tL_sI, tR_sI, tN_sI, tZ_sI, tC_sI, tc_sI, tz_sI, tI_sL, tL_sL, tR_sL, tN_sL, tZ_sL, tC_sL, tc_sL, tz_sL, tI_sR, tL_sR, tR_sR, tN_sR, tZ_sR, tC_sR, tc_sR, tz_sR, tI_sZ, tL_sZ, tR_sZ, tN_sZ, tZ_sZ, tC_sZ, tc_sZ, tz_sZ, tI_sC, tL_sC, tR_sC, tN_sC, tZ_sC, tC_sC, tc_sC, tz_sC, tI_aC, tL_aC, tR_aC, tN_aC, tZ_aC, tC_aC, tc_aC, tz_aC, tI_rmL, tL_rmL, tR_rmL, tN_rmL, tZ_rmL, tC_rmL, tc_rmL, tz_rmL, tI_mk, tL_mk, tR_mk, tN_mk, tZ_mk, tC_mk, tc_mk, tz_mk, tI_pushL, tL_pushL, tR_pushL, tN_pushL, tZ_pushL, tC_pushL, tc_pushL, tz_pushL, tI_pushB, tL_pushB, tR_pushB, tN_pushB, tZ_pushB, tC_pushB, tc_pushB, tz_pushB, tI_cpL, tL_cpL, tR_cpL, tN_cpL, tZ_cpL, tC_cpL, tc_cpL, tz_cpL, eq_self, true_and, and_true, false_and, and_false, if_true, if_false, reduceIte, ite_true, ite_false, not_true_eq_false, not_false_eq_true, y0, y1, n10, frN_93 hFR, e4, f1]
          rfl
  · have x0 := x139_0 e0
    have y0 := y224_0 e0
    refine bad 1 (by omega) (by omega) (fun z => ?_) (fun z => ?_)
    · refine (X_in (by decide +kernel) (fcN_96 hF) rfl).trans ((lf_86_0 ..).trans ?_)
      simp (config := {decide := true}) only [gfI_enc, gfL_enc, gfR_enc, pfI_enc, pfL_enc, pfR_enc, Option.bind_some, cI_v, cL_v, cF_v, cD_v, cR_v, cV_v, cI_x, cL_x, cR_x, cV_x, gz_0, gz_1, acc_enc, tI_sI, tL_sI, tR_sI, tN_sI, tZ_sI, tC_sI, tc_sI, tz_sI, tI_sL, tL_sL, tR_sL, tN_sL, tZ_sL, tC_sL, tc_sL, tz_sL, tI_sR, tL_sR, tR_sR, tN_sR, tZ_sR, tC_sR, tc_sR, tz_sR, tI_sZ, tL_sZ, tR_sZ, tN_sZ, tZ_sZ, tC_sZ, tc_sZ, tz_sZ, tI_sC, tL_sC, tR_sC, tN_sC, tZ_sC, tC_sC, tc_sC, tz_sC, tI_aC, tL_aC, tR_aC, tN_aC, tZ_aC, tC_aC, tc_aC, tz_aC, tI_rmL, tL_rmL, tR_rmL, tN_rmL, tZ_rmL, tC_rmL, tc_rmL, tz_rmL, tI_mk, tL_mk, tR_mk, tN_mk, tZ_mk, tC_mk, tc_mk, tz_mk, tI_pushL, tL_pushL, tR_pushL, tN_pushL, tZ_pushL, tC_pushL, tc_pushL, tz_pushL, tI_pushB, tL_pushB, tR_pushB, tN_pushB, tZ_pushB, tC_pushB, tc_pushB, tz_pushB, tI_cpL, tL_cpL, tR_cpL, tN_cpL, tZ_cpL, tC_cpL, tc_cpL, tz_cpL, eq_self, true_and, and_true, false_and, and_false, if_true, if_false, reduceIte, ite_true, ite_false, not_true_eq_false, not_false_eq_true, x0, n10]
      rfl
    · refine (X_in (by decide +kernel) (frN_93 hFR) rfl).trans ((lf_232_0 ..).trans ?_)
      by_cases e4 : tI b 93 0 7 = 4
      · simp (config := {decide := true}) only [gfI_enc, gfL_enc, gfR_enc, pfI_enc, pfL_enc, pfR_enc, Option.bind_some, cI_v, cL_v, cF_v, cD_v, cR_v, cV_v, cI_x, cL_x, cR_x, cV_x, gz_0, gz_1, acc_enc, tI_sI, tL_sI, tR_sI, tN_sI, tZ_sI, tC_sI, tc_sI, tz_sI, tI_sL, tL_sL, tR_sL, tN_sL, tZ_sL, tC_sL, tc_sL, tz_sL, tI_sR, tL_sR, tR_sR, tN_sR, tZ_sR, tC_sR, tc_sR, tz_sR, tI_sZ, tL_sZ, tR_sZ, tN_sZ, tZ_sZ, tC_sZ, tc_sZ, tz_sZ, tI_sC, tL_sC, tR_sC, tN_sC, tZ_sC, tC_sC, tc_sC, tz_sC, tI_aC, tL_aC, tR_aC, tN_aC, tZ_aC, tC_aC, tc_aC, tz_aC, tI_rmL, tL_rmL, tR_rmL, tN_rmL, tZ_rmL, tC_rmL, tc_rmL, tz_rmL, tI_mk, tL_mk, tR_mk, tN_mk, tZ_mk, tC_mk, tc_mk, tz_mk, tI_pushL, tL_pushL, tR_pushL, tN_pushL, tZ_pushL, tC_pushL, tc_pushL, tz_pushL, tI_pushB, tL_pushB, tR_pushB, tN_pushB, tZ_pushB, tC_pushB, tc_pushB, tz_pushB, tI_cpL, tL_cpL, tR_cpL, tN_cpL, tZ_cpL, tC_cpL, tc_cpL, tz_cpL, eq_self, true_and, and_true, false_and, and_false, if_true, if_false, reduceIte, ite_true, ite_false, not_true_eq_false, not_false_eq_true, y0, n10, frN_93 hFR, e4, f1]
        rfl
      · simp (config := {decide := true}) only [gfI_enc, gfL_enc, gfR_enc, pfI_enc, pfL_enc, pfR_enc, Option.bind_some, cI_v, cL_v, cF_v, cD_v, cR_v, cV_v, cI_x, cL_x, cR_x, cV_x, gz_0, gz_1, acc_enc, tI_sI, tL_sI, tR_sI, tN_sI, tZ_sI, tC_sI, tc_sI, tz_sI, tI_sL, tL_sL, tR_sL, tN_sL, tZ_sL, tC_sL, tc_sL, tz_sL, tI_sR, tL_sR, tR_sR, tN_sR, tZ_sR, tC_sR, tc_sR, tz_sR, tI_sZ, tL_sZ, tR_sZ, tN_sZ, tZ_sZ, tC_sZ, tc_sZ, tz_sZ, tI_sC, tL_sC, tR_sC, tN_sC, tZ_sC, tC_sC, tc_sC, tz_sC, tI_aC, tL_aC, tR_aC, tN_aC, tZ_aC, tC_aC, tc_aC, tz_aC, tI_rmL, tL_rmL, tR_rmL, tN_rmL, tZ_rmL, tC_rmL, tc_rmL, tz_rmL, tI_mk, tL_mk, tR_mk, tN_mk, tZ_mk, tC_mk, tc_mk, tz_mk, tI_pushL, tL_pushL, tR_pushL, tN_pushL, tZ_pushL, tC_pushL, tc_pushL, tz_pushL, tI_pushB, tL_pushB, tR_pushB, tN_pushB, tZ_pushB, tC_pushB, tc_pushB, tz_pushB, tI_cpL, tL_cpL, tR_cpL, tN_cpL, tZ_cpL, tC_cpL, tc_cpL, tz_cpL, eq_self, true_and, and_true, false_and, and_false, if_true, if_false, reduceIte, ite_true, ite_false, not_true_eq_false, not_false_eq_true, y0, n10, frN_93 hFR, e4, f1]
        rfl
