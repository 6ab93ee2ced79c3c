/-! ===== errors (class alone): stamps, counters ===== -/
theorem pay_at {a b : TS} (hR : R0 a b) {p : Nat} (hp : p < tZ a 29 0) : tR a 29 0 p = some (38, p) ∧ p < tN a 38 ∧ tZ a 29 0 ≤ 200 ∧ tI a 38 p 7 = tI b 87 0 (10 * p) ∧ tI a 38 p 3 = tI b 87 0 (10 * p + 3) ∧ tI a 38 p 4 = tI b 87 0 (10 * p + 4) ∧ ∃ s, s < tZ a 27 0 ∧ s < tN a 36 ∧ tR a 38 p 2 = some (36, s) ∧ tI a 36 s 0 = Int32.ofNat s ∧ tI b 87 0 (10 * p + 2) = Int32.ofNat s := by
  obtain ⟨P1, -, P3, P4, P5, -⟩ := r_P' hR
  obtain ⟨r1, -, -, ⟨s, s1, s2, s3⟩, ⟨d3, -⟩, ⟨d4, -⟩, -⟩ := P5 p hp
  obtain ⟨-, d0, -⟩ := (r_Q hR).1 p hp
  obtain ⟨-, -, ⟨S2, -⟩, -, S5⟩ := r_S hR
  exact ⟨r1, by omega, P1, d0, d3, d4, s, s1, by omega, s2, (S5 s s1).2.1, s3⟩
theorem x17 {a b : TS} {z : Hp} {n : Nat} (hR : R0 a b) (hn : n < 1000) : Ex 17 [aR (some (30, 0)), aI (Int32.ofNat n)] (enc 1 a z) = some (.inl (some (aI (hI b n 8))), enc 1 a z) := by
  have hF := r_FC hR
  have hK : RK a b := hR.2.2.2.2.2.2.2.2.2.2.2.2.2.1
  obtain ⟨⟨K1, -, -⟩, -, K3⟩ := hK
  obtain ⟨-, -, -, -, ⟨b8, kP0, kP⟩⟩ := K3 n hn
  have f14 := fun z => x14 (a := a) (z := z) hF hn
  have n10 : ¬ (1 : Int32) = 0 := by decide
  refine (X_in (by decide +kernel) (fcN_30 hF) rfl).trans ((lf_17_0 ..).trans ?_)
  rcases K1 n hn with hno | ⟨j, j1, hj⟩
  · have z8 : hI b n 8 = 0 := Classical.byContradiction (fun q => by
      obtain ⟨i, k, t, s, -, -, -, -, h1, -⟩ := kP q
      rw [kR_none hno] at h1
      cases h1)
    simp (config := {decide := true}) only [gfI_enc, gfL_enc, gfR_enc, pfI_enc, pfL_enc, pfR_enc, Option.bind_some, cI_v, cL_v, cF_v, cD_v, cR_v, cV_v, cI_x, cL_x, cR_x, cV_x, gz_0, gz_1, acc_enc, tI_sI, tL_sI, tR_sI, tN_sI, tZ_sI, tC_sI, tc_sI, tz_sI, tI_sL, tL_sL, tR_sL, tN_sL, tZ_sL, tC_sL, tc_sL, tz_sL, tI_sR, tL_sR, tR_sR, tN_sR, tZ_sR, tC_sR, tc_sR, tz_sR, tI_sZ, tL_sZ, tR_sZ, tN_sZ, tZ_sZ, tC_sZ, tc_sZ, tz_sZ, tI_sC, tL_sC, tR_sC, tN_sC, tZ_sC, tC_sC, tc_sC, tz_sC, tI_aC, tL_aC, tR_aC, tN_aC, tZ_aC, tC_aC, tc_aC, tz_aC, tI_rmL, tL_rmL, tR_rmL, tN_rmL, tZ_rmL, tC_rmL, tc_rmL, tz_rmL, tI_mk, tL_mk, tR_mk, tN_mk, tZ_mk, tC_mk, tc_mk, tz_mk, tI_pushL, tL_pushL, tR_pushL, tN_pushL, tZ_pushL, tC_pushL, tc_pushL, tz_pushL, tI_pushB, tL_pushB, tR_pushB, tN_pushB, tZ_pushB, tC_pushB, tc_pushB, tz_pushB, tI_cpL, tL_cpL, tR_cpL, tN_cpL, tZ_cpL, tC_cpL, tc_cpL, tz_cpL, eq_self, true_and, and_true, false_and, and_false, if_true, if_false, reduceIte, ite_true, ite_false, not_true_eq_false, not_false_eq_true, f14, hno, z8]
  · have f29 := fun z => x29 (a := a) (z := z) j1
    rw [kR_some hj] at kP0
    rcases bit01 b8 with q | q
    · simp (config := {decide := true}) only [gfI_enc, gfL_enc, gfR_enc, pfI_enc, pfL_enc, pfR_enc, Option.bind_some, cI_v, cL_v, cF_v, cD_v, cR_v, cV_v, cI_x, cL_x, cR_x, cV_x, gz_0, gz_1, acc_enc, tI_sI, tL_sI, tR_sI, tN_sI, tZ_sI, tC_sI, tc_sI, tz_sI, tI_sL, tL_sL, tR_sL, tN_sL, tZ_sL, tC_sL, tc_sL, tz_sL, tI_sR, tL_sR, tR_sR, tN_sR, tZ_sR, tC_sR, tc_sR, tz_sR, tI_sZ, tL_sZ, tR_sZ, tN_sZ, tZ_sZ, tC_sZ, tc_sZ, tz_sZ, tI_sC, tL_sC, tR_sC, tN_sC, tZ_sC, tC_sC, tc_sC, tz_sC, tI_aC, tL_aC, tR_aC, tN_aC, tZ_aC, tC_aC, tc_aC, tz_aC, tI_rmL, tL_rmL, tR_rmL, tN_rmL, tZ_rmL, tC_rmL, tc_rmL, tz_rmL, tI_mk, tL_mk, tR_mk, tN_mk, tZ_mk, tC_mk, tc_mk, tz_mk, tI_pushL, tL_pushL, tR_pushL, tN_pushL, tZ_pushL, tC_pushL, tc_pushL, tz_pushL, tI_pushB, tL_pushB, tR_pushB, tN_pushB, tZ_pushB, tC_pushB, tc_pushB, tz_pushB, tI_cpL, tL_cpL, tR_cpL, tN_cpL, tZ_cpL, tC_cpL, tc_cpL, tz_cpL, eq_self, true_and, and_true, false_and, and_false, if_true, if_false, reduceIte, ite_true, ite_false, not_true_eq_false, not_false_eq_true, f14, hj, reduceCtorEq, f29, kP0 q, q]
    · obtain ⟨i, k, t, s, -, -, -, -, h1, -⟩ := kP (by rw [q]; decide)
      rw [kR_some hj] at h1
      simp (config := {decide := true}) only [gfI_enc, gfL_enc, gfR_enc, pfI_enc, pfL_enc, pfR_enc, Option.bind_some, cI_v, cL_v, cF_v, cD_v, cR_v, cV_v, cI_x, cL_x, cR_x, cV_x, gz_0, gz_1, acc_enc, tI_sI, tL_sI, tR_sI, tN_sI, tZ_sI, tC_sI, tc_sI, tz_sI, tI_sL, tL_sL, tR_sL, tN_sL, tZ_sL, tC_sL, tc_sL, tz_sL, tI_sR, tL_sR, tR_sR, tN_sR, tZ_sR, tC_sR, tc_sR, tz_sR, tI_sZ, tL_sZ, tR_sZ, tN_sZ, tZ_sZ, tC_sZ, tc_sZ, tz_sZ, tI_sC, tL_sC, tR_sC, tN_sC, tZ_sC, tC_sC, tc_sC, tz_sC, tI_aC, tL_aC, tR_aC, tN_aC, tZ_aC, tC_aC, tc_aC, tz_aC, tI_rmL, tL_rmL, tR_rmL, tN_rmL, tZ_rmL, tC_rmL, tc_rmL, tz_rmL, tI_mk, tL_mk, tR_mk, tN_mk, tZ_mk, tC_mk, tc_mk, tz_mk, tI_pushL, tL_pushL, tR_pushL, tN_pushL, tZ_pushL, tC_pushL, tc_pushL, tz_pushL, tI_pushB, tL_pushB, tR_pushB, tN_pushB, tZ_pushB, tC_pushB, tc_pushB, tz_pushB, tI_cpL, tL_cpL, tR_cpL, tN_cpL, tZ_cpL, tC_cpL, tc_cpL, tz_cpL, eq_self, true_and, and_true, false_and, and_false, if_true, if_false, reduceIte, ite_true, ite_false, not_true_eq_false, not_false_eq_true, f14, hj, reduceCtorEq, f29, h1, q, n10]
theorem aq36 {a : TS} {s s' : Nat} (h : s < tN a 36) (h' : s' < tN a 36) (z : Hp) (r : Res) : aq (enc 1 a z) (some (36, s)) (some (36, s')) r = r :=
  aq_enc (fun q hq => by cases hq; exact ⟨show ow 36 = 1 from by decide +kernel, show kd 36 < 24 from by decide +kernel, h⟩) (fun q hq => by cases hq; exact ⟨show ow 36 = 1 from by decide +kernel, show kd 36 < 24 from by decide +kernel, h'⟩)
def m24 (a : TS) (i s q cq sq : Nat) : Prop := tI a 37 cq 0 = tI a 7 i 2 ∧ tI a 38 q 4 = tI a 7 i 4 ∧ tI a 38 q 3 = tI a 7 i 5 ∧ sq = s ∧ tI a 38 q 5 = tI a 7 i 6
theorem s24 {a b : TS} {z : Hp} {j i s q cq sq : Nat} (hR : R0 a b) (hj : j < tN a 4) (hi : i < tN a 7) (h10 : tR a 4 j 10 = some (36, s)) (hs : s < tN a 36) (hq : q < tZ a 29 0) (k1 : tR a 38 q 1 = some (37, cq)) (k2 : cq < tN a 37) (k3 : tR a 38 q 2 = some (36, sq)) (k4 : sq < tN a 36) :
    (m24 a i s q cq sq → Ru 24 20 [(0, aR (some (4, j))), (1, aR (some (29, 0))), (2, aR (some (7, i))), (3, aI (Int32.ofNat q))] [] (enc 1 a z) = some (.inl (some (aI 1)), enc 1 a z)) ∧
    (¬ m24 a i s q cq sq → Ru 24 20 [(0, aR (some (4, j))), (1, aR (some (29, 0))), (2, aR (some (7, i))), (3, aI (Int32.ofNat q))] [] (enc 1 a z) = Ru 24 20 [(0, aR (some (4, j))), (1, aR (some (29, 0))), (2, aR (some (7, i))), (3, aI (Int32.ofNat (q + 1)))] [] (enc 1 a z)) := by
  have hF := r_FC hR
  obtain ⟨r1, r2, r3, -⟩ := pay_at hR hq
  have g1 : (Int32.ofNat q).toNatClampNeg = q := o_ix (by omega)
  have g2 : ¬ Int32.ofNat q < 0 := o_lt0 (by omega)
  have g3 : ¬ Int32.ofNat (tZ a 29 0) ≤ Int32.ofNat q := by rw [o_le (by omega) (by omega)]; omega
  have f := aq36 (a := a) (s := sq) (s' := s) k4 hs
  have f7 : 29 = 29 := rfl
  unfold m24
  refine ⟨fun ⟨e1, e2, e3, e4, e5⟩ => ?_, fun hn => ?_⟩
  · subst e4
    rw [lf_24_20]
    simp (config := {decide := true}) only [gfI_enc, gfL_enc, gfR_enc, pfI_enc, pfL_enc, pfR_enc, Option.bind_some, cI_v, cL_v, cF_v, cD_v, cR_v, cV_v, cI_x, cL_x, cR_x, cV_x, gz_0, gz_1, acc_enc, tI_sI, tL_sI, tR_sI, tN_sI, tZ_sI, tC_sI, tc_sI, tz_sI, tI_sL, tL_sL, tR_sL, tN_sL, tZ_sL, tC_sL, tc_sL, tz_sL, tI_sR, tL_sR, tR_sR, tN_sR, tZ_sR, tC_sR, tc_sR, tz_sR, tI_sZ, tL_sZ, tR_sZ, tN_sZ, tZ_sZ, tC_sZ, tc_sZ, tz_sZ, tI_sC, tL_sC, tR_sC, tN_sC, tZ_sC, tC_sC, tc_sC, tz_sC, tI_aC, tL_aC, tR_aC, tN_aC, tZ_aC, tC_aC, tc_aC, tz_aC, tI_rmL, tL_rmL, tR_rmL, tN_rmL, tZ_rmL, tC_rmL, tc_rmL, tz_rmL, tI_mk, tL_mk, tR_mk, tN_mk, tZ_mk, tC_mk, tc_mk, tz_mk, tI_pushL, tL_pushL, tR_pushL, tN_pushL, tZ_pushL, tC_pushL, tc_pushL, tz_pushL, tI_pushB, tL_pushB, tR_pushB, tN_pushB, tZ_pushB, tC_pushB, tc_pushB, tz_pushB, tI_cpL, tL_cpL, tR_cpL, tN_cpL, tZ_cpL, tC_cpL, tc_cpL, tz_cpL, eq_self, true_and, and_true, false_and, and_false, if_true, if_false, reduceIte, ite_true, ite_false, not_true_eq_false, not_false_eq_true, X405, X402, fcN_29 hF, g1, g2, g3, hq, r1, r2, k1, k2, hi, e1, e2, e3, k3, hj, h10, f, e5]
  · rw [lf_24_20]
    by_cases e1 : tI a 37 cq 0 = tI a 7 i 2
    · by_cases e2 : tI a 38 q 4 = tI a 7 i 4
      · by_cases e3 : tI a 38 q 3 = tI a 7 i 5
        · by_cases e4 : sq = s
          · subst e4
            have e5 : ¬ tI a 38 q 5 = tI a 7 i 6 := fun w => hn ⟨e1, e2, e3, rfl, w⟩
            simp (config := {decide := true}) only [gfI_enc, gfL_enc, gfR_enc, pfI_enc, pfL_enc, pfR_enc, Option.bind_some, cI_v, cL_v, cF_v, cD_v, cR_v, cV_v, cI_x, cL_x, cR_x, cV_x, gz_0, gz_1, acc_enc, tI_sI, tL_sI, tR_sI, tN_sI, tZ_sI, tC_sI, tc_sI, tz_sI, tI_sL, tL_sL, tR_sL, tN_sL, tZ_sL, tC_sL, tc_sL, tz_sL, tI_sR, tL_sR, tR_sR, tN_sR, tZ_sR, tC_sR, tc_sR, tz_sR, tI_sZ, tL_sZ, tR_sZ, tN_sZ, tZ_sZ, tC_sZ, tc_sZ, tz_sZ, tI_sC, tL_sC, tR_sC, tN_sC, tZ_sC, tC_sC, tc_sC, tz_sC, tI_aC, tL_aC, tR_aC, tN_aC, tZ_aC, tC_aC, tc_aC, tz_aC, tI_rmL, tL_rmL, tR_rmL, tN_rmL, tZ_rmL, tC_rmL, tc_rmL, tz_rmL, tI_mk, tL_mk, tR_mk, tN_mk, tZ_mk, tC_mk, tc_mk, tz_mk, tI_pushL, tL_pushL, tR_pushL, tN_pushL, tZ_pushL, tC_pushL, tc_pushL, tz_pushL, tI_pushB, tL_pushB, tR_pushB, tN_pushB, tZ_pushB, tC_pushB, tc_pushB, tz_pushB, tI_cpL, tL_cpL, tR_cpL, tN_cpL, tZ_cpL, tC_cpL, tc_cpL, tz_cpL, eq_self, true_and, and_true, false_and, and_false, if_true, if_false, reduceIte, ite_true, ite_false, not_true_eq_false, not_false_eq_true, X405, X402, fcN_29 hF, g1, g2, g3, hq, r1, r2, k1, k2, hi, e1, e2, e3, k3, hj, h10, f, e5, o_s]
          · have e4' : ¬ (some (36, sq) : Option (Nat × Nat)) = some (36, s) := fun w => e4 (congrArg Prod.snd (Option.some.inj w))
            simp (config := {decide := true}) only [gfI_enc, gfL_enc, gfR_enc, pfI_enc, pfL_enc, pfR_enc, Option.bind_some, cI_v, cL_v, cF_v, cD_v, cR_v, cV_v, cI_x, cL_x, cR_x, cV_x, gz_0, gz_1, acc_enc, tI_sI, tL_sI, tR_sI, tN_sI, tZ_sI, tC_sI, tc_sI, tz_sI, tI_sL, tL_sL, tR_sL, tN_sL, tZ_sL, tC_sL, tc_sL, tz_sL, tI_sR, tL_sR, tR_sR, tN_sR, tZ_sR, tC_sR, tc_sR, tz_sR, tI_sZ, tL_sZ, tR_sZ, tN_sZ, tZ_sZ, tC_sZ, tc_sZ, tz_sZ, tI_sC, tL_sC, tR_sC, tN_sC, tZ_sC, tC_sC, tc_sC, tz_sC, tI_aC, tL_aC, tR_aC, tN_aC, tZ_aC, tC_aC, tc_aC, tz_aC, tI_rmL, tL_rmL, tR_rmL, tN_rmL, tZ_rmL, tC_rmL, tc_rmL, tz_rmL, tI_mk, tL_mk, tR_mk, tN_mk, tZ_mk, tC_mk, tc_mk, tz_mk, tI_pushL, tL_pushL, tR_pushL, tN_pushL, tZ_pushL, tC_pushL, tc_pushL, tz_pushL, tI_pushB, tL_pushB, tR_pushB, tN_pushB, tZ_pushB, tC_pushB, tc_pushB, tz_pushB, tI_cpL, tL_cpL, tR_cpL, tN_cpL, tZ_cpL, tC_cpL, tc_cpL, tz_cpL, eq_self, true_and, and_true, false_and, and_false, if_true, if_false, reduceIte, ite_true, ite_false, not_true_eq_false, not_false_eq_true, X405, X402, fcN_29 hF, g1, g2, g3, hq, r1, r2, k1, k2, hi, e1, e2, e3, k3, hj, h10, f, e4', o_s]
        · simp (config := {decide := true}) only [gfI_enc, gfL_enc, gfR_enc, pfI_enc, pfL_enc, pfR_enc, Option.bind_some, cI_v, cL_v, cF_v, cD_v, cR_v, cV_v, cI_x, cL_x, cR_x, cV_x, gz_0, gz_1, acc_enc, tI_sI, tL_sI, tR_sI, tN_sI, tZ_sI, tC_sI, tc_sI, tz_sI, tI_sL, tL_sL, tR_sL, tN_sL, tZ_sL, tC_sL, tc_sL, tz_sL, tI_sR, tL_sR, tR_sR, tN_sR, tZ_sR, tC_sR, tc_sR, tz_sR, tI_sZ, tL_sZ, tR_sZ, tN_sZ, tZ_sZ, tC_sZ, tc_sZ, tz_sZ, tI_sC, tL_sC, tR_sC, tN_sC, tZ_sC, tC_sC, tc_sC, tz_sC, tI_aC, tL_aC, tR_aC, tN_aC, tZ_aC, tC_aC, tc_aC, tz_aC, tI_rmL, tL_rmL, tR_rmL, tN_rmL, tZ_rmL, tC_rmL, tc_rmL, tz_rmL, tI_mk, tL_mk, tR_mk, tN_mk, tZ_mk, tC_mk, tc_mk, tz_mk, tI_pushL, tL_pushL, tR_pushL, tN_pushL, tZ_pushL, tC_pushL, tc_pushL, tz_pushL, tI_pushB, tL_pushB, tR_pushB, tN_pushB, tZ_pushB, tC_pushB, tc_pushB, tz_pushB, tI_cpL, tL_cpL, tR_cpL, tN_cpL, tZ_cpL, tC_cpL, tc_cpL, tz_cpL, eq_self, true_and, and_true, false_and, and_false, if_true, if_false, reduceIte, ite_true, ite_false, not_true_eq_false, not_false_eq_true, X405, X402, fcN_29 hF, g1, g2, g3, hq, r1, r2, k1, k2, hi, e1, e2, e3, o_s]
      · simp (config := {decide := true}) only [gfI_enc, gfL_enc, gfR_enc, pfI_enc, pfL_enc, pfR_enc, Option.bind_some, cI_v, cL_v, cF_v, cD_v, cR_v, cV_v, cI_x, cL_x, cR_x, cV_x, gz_0, gz_1, acc_enc, tI_sI, tL_sI, tR_sI, tN_sI, tZ_sI, tC_sI, tc_sI, tz_sI, tI_sL, tL_sL, tR_sL, tN_sL, tZ_sL, tC_sL, tc_sL, tz_sL, tI_sR, tL_sR, tR_sR, tN_sR, tZ_sR, tC_sR, tc_sR, tz_sR, tI_sZ, tL_sZ, tR_sZ, tN_sZ, tZ_sZ, tC_sZ, tc_sZ, tz_sZ, tI_sC, tL_sC, tR_sC, tN_sC, tZ_sC, tC_sC, tc_sC, tz_sC, tI_aC, tL_aC, tR_aC, tN_aC, tZ_aC, tC_aC, tc_aC, tz_aC, tI_rmL, tL_rmL, tR_rmL, tN_rmL, tZ_rmL, tC_rmL, tc_rmL, tz_rmL, tI_mk, tL_mk, tR_mk, tN_mk, tZ_mk, tC_mk, tc_mk, tz_mk, tI_pushL, tL_pushL, tR_pushL, tN_pushL, tZ_pushL, tC_pushL, tc_pushL, tz_pushL, tI_pushB, tL_pushB, tR_pushB, tN_pushB, tZ_pushB, tC_pushB, tc_pushB, tz_pushB, tI_cpL, tL_cpL, tR_cpL, tN_cpL, tZ_cpL, tC_cpL, tc_cpL, tz_cpL, eq_self, true_and, and_true, false_and, and_false, if_true, if_false, reduceIte, ite_true, ite_false, not_true_eq_false, not_false_eq_true, X405, X402, fcN_29 hF, g1, g2, g3, hq, r1, r2, k1, k2, hi, e1, e2, o_s]
    · simp (config := {decide := true}) only [gfI_enc, gfL_enc, gfR_enc, pfI_enc, pfL_enc, pfR_enc, Option.bind_some, cI_v, cL_v, cF_v, cD_v, cR_v, cV_v, cI_x, cL_x, cR_x, cV_x, gz_0, gz_1, acc_enc, tI_sI, tL_sI, tR_sI, tN_sI, tZ_sI, tC_sI, tc_sI, tz_sI, tI_sL, tL_sL, tR_sL, tN_sL, tZ_sL, tC_sL, tc_sL, tz_sL, tI_sR, tL_sR, tR_sR, tN_sR, tZ_sR, tC_sR, tc_sR, tz_sR, tI_sZ, tL_sZ, tR_sZ, tN_sZ, tZ_sZ, tC_sZ, tc_sZ, tz_sZ, tI_sC, tL_sC, tR_sC, tN_sC, tZ_sC, tC_sC, tc_sC, tz_sC, tI_aC, tL_aC, tR_aC, tN_aC, tZ_aC, tC_aC, tc_aC, tz_aC, tI_rmL, tL_rmL, tR_rmL, tN_rmL, tZ_rmL, tC_rmL, tc_rmL, tz_rmL, tI_mk, tL_mk, tR_mk, tN_mk, tZ_mk, tC_mk, tc_mk, tz_mk, tI_pushL, tL_pushL, tR_pushL, tN_pushL, tZ_pushL, tC_pushL, tc_pushL, tz_pushL, tI_pushB, tL_pushB, tR_pushB, tN_pushB, tZ_pushB, tC_pushB, tc_pushB, tz_pushB, tI_cpL, tL_cpL, tR_cpL, tN_cpL, tZ_cpL, tC_cpL, tc_cpL, tz_cpL, eq_self, true_and, and_true, false_and, and_false, if_true, if_false, reduceIte, ite_true, ite_false, not_true_eq_false, not_false_eq_true, X405, X402, fcN_29 hF, g1, g2, g3, hq, r1, r2, k1, k2, hi, e1, o_s]
/-- a posted number, in both -/
theorem pst_at {a b : TS} {n : Nat} (hR : R0 a b) (hn : n < 1000) (h8 : hI b n 8 ≠ 0) : ∃ j i s p j', tR a 3 0 n = some (4, j) ∧ j < tN a 4 ∧ tR a 4 j 8 = some (7, i) ∧ i < tN a 7 ∧ tR a 4 j 10 = some (36, s) ∧ s < tZ a 27 0 ∧ p < tZ a 29 0 ∧
    (tI a 7 i 2 = tI b 87 0 (10 * p + 1) ∧ tI a 7 i 4 = tI b 87 0 (10 * p + 4) ∧ tI a 7 i 5 = tI b 87 0 (10 * p + 3) ∧ Int32.ofNat s = tI b 87 0 (10 * p + 2) ∧ tI a 7 i 6 = tI b 87 0 (10 * p + 5)) ∧
    tR b 53 0 n = some (61, j') ∧ j' < tN b 61 ∧ (tI b 64 j' 0 = tI b 87 0 (10 * p + 1) ∧ tI b 64 j' 1 = tI b 87 0 (10 * p + 4) ∧ tI b 64 j' 2 = tI b 87 0 (10 * p + 3) ∧ tI b 61 j' 14 = tI b 87 0 (10 * p + 2)) ∧ tI b 61 j' 8 ≠ 0 := by
  have hK : RK a b := hR.2.2.2.2.2.2.2.2.2.2.2.2.2.1
  have hZ : RZ a b := hR.2.2.2.2.2.2.2.2.2.2.2.2.2.2.2.2
  obtain ⟨⟨K1, -, -⟩, ⟨K2, -⟩, K3⟩ := hK
  obtain ⟨-, -, -, -, ⟨b8, kP0, kP⟩⟩ := K3 n hn
  obtain ⟨i, k, t, s, i1, i2, i3, i4, i5, i6, i7, i8, i9, i10, i11, i12, i13⟩ := kP h8
  obtain ⟨p, p1, p2, p3, p4, p5, -, p7⟩ := hZ.2 n hn h8
  have p7 := p7 _ i5
  rcases K1 n hn with hno | ⟨j, j1, hj⟩
  · rw [kR_none hno] at i5
    cases i5
  · rcases K2 n hn with hno | ⟨j', j1', hj'⟩
    · rw [hI_none hno] at h8
      exact absurd rfl h8
    · rw [kR_some hj] at i5 i12
      rw [hI_some hj'] at h8 i13 p5
      rw [hA_at hj'] at i6 i7 i8 p2 p3 p4
      exact ⟨j, i, s, p, j', hj, j1, i5, i1, i12, i4, p1, ⟨i6.trans p2, i7.trans p3, i8.trans p4, i13.symm.trans p5, p7⟩, hj', j1', ⟨p2, p3, p4, p5⟩, h8⟩
theorem x23 {a b : TS} {z : Hp} (hR : R0 a b) : Ex 23 [aR (some (30, 0)), aR (some (29, 0))] (enc 1 a z) = some (.inl (some (aI 1)), enc 1 a z) := by
  have hF := r_FC hR
  obtain ⟨P1, -, P3, P4, P5, -⟩ := r_P' hR
  obtain ⟨-, -, ⟨C3, -⟩, -, C7⟩ := r_C hR
  obtain ⟨S1, -, ⟨S2, -⟩, -, S5⟩ := r_S hR
  have z3 : tZ a 3 0 = 1000 := fcZ_3 hF
  have loop : ∀ k n, n + k = 1000 → Ru 23 2 [(0, aR (some (30, 0))), (1, aR (some (29, 0))), (2, aI (Int32.ofNat n))] [] (enc 1 a z) = some (.inl (some (aI 1)), enc 1 a z) := by
    intro k
    induction k with
    | zero =>
      intro n hn
      have : n = 1000 := by omega
      subst this
      have q : Int32.ofNat 1000 ≤ Int32.ofNat 1000 := Int32.le_refl _
      rw [lf_23_2]
      simp (config := {decide := true}) only [gfI_enc, gfL_enc, gfR_enc, pfI_enc, pfL_enc, pfR_enc, Option.bind_some, cI_v, cL_v, cF_v, cD_v, cR_v, cV_v, cI_x, cL_x, cR_x, cV_x, gz_0, gz_1, acc_enc, tI_sI, tL_sI, tR_sI, tN_sI, tZ_sI, tC_sI, tc_sI, tz_sI, tI_sL, tL_sL, tR_sL, tN_sL, tZ_sL, tC_sL, tc_sL, tz_sL, tI_sR, tL_sR, tR_sR, tN_sR, tZ_sR, tC_sR, tc_sR, tz_sR, tI_sZ, tL_sZ, tR_sZ, tN_sZ, tZ_sZ, tC_sZ, tc_sZ, tz_sZ, tI_sC, tL_sC, tR_sC, tN_sC, tZ_sC, tC_sC, tc_sC, tz_sC, tI_aC, tL_aC, tR_aC, tN_aC, tZ_aC, tC_aC, tc_aC, tz_aC, tI_rmL, tL_rmL, tR_rmL, tN_rmL, tZ_rmL, tC_rmL, tc_rmL, tz_rmL, tI_mk, tL_mk, tR_mk, tN_mk, tZ_mk, tC_mk, tc_mk, tz_mk, tI_pushL, tL_pushL, tR_pushL, tN_pushL, tZ_pushL, tC_pushL, tc_pushL, tz_pushL, tI_pushB, tL_pushB, tR_pushB, tN_pushB, tZ_pushB, tC_pushB, tc_pushB, tz_pushB, tI_cpL, tL_cpL, tR_cpL, tN_cpL, tZ_cpL, tC_cpL, tc_cpL, tz_cpL, eq_self, true_and, and_true, false_and, and_false, if_true, if_false, reduceIte, ite_true, ite_false, not_true_eq_false, not_false_eq_true, fcN_30 hF, fcR_30_2 hF, len_enc, fcN_3 hF, z3, q]
    | succ k ih =>
      intro n hk
      have hn : n < 1000 := by omega
      have q : ¬ Int32.ofNat 1000 ≤ Int32.ofNat n := by rw [o_le (by omega) (by omega)]; omega
      have f17 := fun z => x17 (z := z) hR hn
      have f14 := fun z => x14 (a := a) (z := z) hF hn
      have hi := ih (n + 1) (by omega)
      rw [lf_23_2]
      by_cases e : hI b n 8 = 0
      · simp (config := {decide := true}) only [gfI_enc, gfL_enc, gfR_enc, pfI_enc, pfL_enc, pfR_enc, Option.bind_some, cI_v, cL_v, cF_v, cD_v, cR_v, cV_v, cI_x, cL_x, cR_x, cV_x, gz_0, gz_1, acc_enc, tI_sI, tL_sI, tR_sI, tN_sI, tZ_sI, tC_sI, tc_sI, tz_sI, tI_sL, tL_sL, tR_sL, tN_sL, tZ_sL, tC_sL, tc_sL, tz_sL, tI_sR, tL_sR, tR_sR, tN_sR, tZ_sR, tC_sR, tc_sR, tz_sR, tI_sZ, tL_sZ, tR_sZ, tN_sZ, tZ_sZ, tC_sZ, tc_sZ, tz_sZ, tI_sC, tL_sC, tR_sC, tN_sC, tZ_sC, tC_sC, tc_sC, tz_sC, tI_aC, tL_aC, tR_aC, tN_aC, tZ_aC, tC_aC, tc_aC, tz_aC, tI_rmL, tL_rmL, tR_rmL, tN_rmL, tZ_rmL, tC_rmL, tc_rmL, tz_rmL, tI_mk, tL_mk, tR_mk, tN_mk, tZ_mk, tC_mk, tc_mk, tz_mk, tI_pushL, tL_pushL, tR_pushL, tN_pushL, tZ_pushL, tC_pushL, tc_pushL, tz_pushL, tI_pushB, tL_pushB, tR_pushB, tN_pushB, tZ_pushB, tC_pushB, tc_pushB, tz_pushB, tI_cpL, tL_cpL, tR_cpL, tN_cpL, tZ_cpL, tC_cpL, tc_cpL, tz_cpL, eq_self, true_and, and_true, false_and, and_false, if_true, if_false, reduceIte, ite_true, ite_false, not_true_eq_false, not_false_eq_true, fcN_30 hF, fcR_30_2 hF, len_enc, fcN_3 hF, z3, q, f17, e, o_s]
        exact hi
      · obtain ⟨j, i, s, p, j', hj, j1, h8, i1, h10, s1, p1, ⟨m1, m2, m3, m4, m5⟩, -⟩ := pst_at hR hn e
        have s36 : s < tN a 36 := by omega
        have f24 : ∀ z, Ex 24 [aR (some (4, j)), aR (some (29, 0))] (enc 1 a z) = some (.inl (some (aI 1)), enc 1 a z) := fun z => by
          have l24 : ∀ k q, q + k = p → Ru 24 20 [(0, aR (some (4, j))), (1, aR (some (29, 0))), (2, aR (some (7, i))), (3, aI (Int32.ofNat q))] [] (enc 1 a z) = some (.inl (some (aI 1)), enc 1 a z) := by
            intro k
            induction k with
            | zero =>
              intro q hq
              have : q = p := by omega
              subst this
              obtain ⟨-, -, ⟨cq, c1, c2, c3⟩, ⟨sq, q1, q2, q3⟩, ⟨d3, -⟩, ⟨d4, -⟩, -⟩ := P5 q p1
              obtain ⟨d5, -⟩ := (r_Q hR).1 q p1
              refine (s24 hR j1 i1 h10 s36 p1 c2 (by omega) q2 (by omega)).1 ⟨((C7 cq c1).2.1.trans c3.symm).trans m1.symm, d4.trans m2.symm, d3.trans m3.symm, ?_, d5.trans m5.symm⟩
              exact o_inj (by omega) (by omega) (q3.symm.trans m4.symm)
            | succ k ih' =>
              intro q hq
              have hqn : q < tZ a 29 0 := by omega
              obtain ⟨-, -, ⟨cq, c1, c2, c3⟩, ⟨sq, q1, q2, q3⟩, -⟩ := P5 q hqn
              have st := s24 (z := z) hR j1 i1 h10 s36 hqn c2 (by omega) q2 (by omega)
              by_cases w : m24 a i s q cq sq
              · exact st.1 w
              · exact (st.2 w).trans (ih' (q + 1) (by omega))
          refine (X_st (by decide +kernel) rfl).trans ((lf_24_0 ..).trans ?_)
          simp (config := {decide := true}) only [gfI_enc, gfL_enc, gfR_enc, pfI_enc, pfL_enc, pfR_enc, Option.bind_some, cI_v, cL_v, cF_v, cD_v, cR_v, cV_v, cI_x, cL_x, cR_x, cV_x, gz_0, gz_1, acc_enc, tI_sI, tL_sI, tR_sI, tN_sI, tZ_sI, tC_sI, tc_sI, tz_sI, tI_sL, tL_sL, tR_sL, tN_sL, tZ_sL, tC_sL, tc_sL, tz_sL, tI_sR, tL_sR, tR_sR, tN_sR, tZ_sR, tC_sR, tc_sR, tz_sR, tI_sZ, tL_sZ, tR_sZ, tN_sZ, tZ_sZ, tC_sZ, tc_sZ, tz_sZ, tI_sC, tL_sC, tR_sC, tN_sC, tZ_sC, tC_sC, tc_sC, tz_sC, tI_aC, tL_aC, tR_aC, tN_aC, tZ_aC, tC_aC, tc_aC, tz_aC, tI_rmL, tL_rmL, tR_rmL, tN_rmL, tZ_rmL, tC_rmL, tc_rmL, tz_rmL, tI_mk, tL_mk, tR_mk, tN_mk, tZ_mk, tC_mk, tc_mk, tz_mk, tI_pushL, tL_pushL, tR_pushL, tN_pushL, tZ_pushL, tC_pushL, tc_pushL, tz_pushL, tI_pushB, tL_pushB, tR_pushB, tN_pushB, tZ_pushB, tC_pushB, tc_pushB, tz_pushB, tI_cpL, tL_cpL, tR_cpL, tN_cpL, tZ_cpL, tC_cpL, tc_cpL, tz_cpL, eq_self, true_and, and_true, false_and, and_false, if_true, if_false, reduceIte, ite_true, ite_false, not_true_eq_false, not_false_eq_true, reduceCtorEq, j1, h8]
          exact l24 p 0 (by omega)
        have n10 : ¬ (1 : Int32) = 0 := by decide
        simp (config := {decide := true}) only [gfI_enc, gfL_enc, gfR_enc, pfI_enc, pfL_enc, pfR_enc, Option.bind_some, cI_v, cL_v, cF_v, cD_v, cR_v, cV_v, cI_x, cL_x, cR_x, cV_x, gz_0, gz_1, acc_enc, tI_sI, tL_sI, tR_sI, tN_sI, tZ_sI, tC_sI, tc_sI, tz_sI, tI_sL, tL_sL, tR_sL, tN_sL, tZ_sL, tC_sL, tc_sL, tz_sL, tI_sR, tL_sR, tR_sR, tN_sR, tZ_sR, tC_sR, tc_sR, tz_sR, tI_sZ, tL_sZ, tR_sZ, tN_sZ, tZ_sZ, tC_sZ, tc_sZ, tz_sZ, tI_sC, tL_sC, tR_sC, tN_sC, tZ_sC, tC_sC, tc_sC, tz_sC, tI_aC, tL_aC, tR_aC, tN_aC, tZ_aC, tC_aC, tc_aC, tz_aC, tI_rmL, tL_rmL, tR_rmL, tN_rmL, tZ_rmL, tC_rmL, tc_rmL, tz_rmL, tI_mk, tL_mk, tR_mk, tN_mk, tZ_mk, tC_mk, tc_mk, tz_mk, tI_pushL, tL_pushL, tR_pushL, tN_pushL, tZ_pushL, tC_pushL, tc_pushL, tz_pushL, tI_pushB, tL_pushB, tR_pushB, tN_pushB, tZ_pushB, tC_pushB, tc_pushB, tz_pushB, tI_cpL, tL_cpL, tR_cpL, tN_cpL, tZ_cpL, tC_cpL, tc_cpL, tz_cpL, eq_self, true_and, and_true, false_and, and_false, if_true, if_false, reduceIte, ite_true, ite_false, not_true_eq_false, not_false_eq_true, fcN_30 hF, fcR_30_2 hF, len_enc, fcN_3 hF, z3, q, f17, e, f14, hj, f24, n10, o_s]
        exact hi
  refine (X_in (by decide +kernel) (fcN_30 hF) rfl).trans ((lf_23_0 ..).trans ?_)
  exact loop 1000 0 (by omega)
/-! the reference's -/
theorem ro_at {a b : TS} {n : Nat} (hR : R0 a b) (hn : n < 1000) (h8 : hI b n 8 ≠ 0) : ∃ cd c, cd < tZ a 28 0 ∧ c < 201 ∧ hA b n 64 0 = Int32.ofNat cd ∧ hA b n 64 1 = Int32.ofNat c ∧ tI a 2 cd c = Int32.ofNat (n + 1) :=
  (hR.2.2.2.2.2.2.2.2.2.2.2.2.2.2.2.1 : RO a b).2.1 n hn h8
theorem x25 {a b : TS} {z : Hp} (hR : R0 a b) : Ex 25 [aR (some (30, 0))] (enc 1 a z) = some (.inl (some (aI 1)), enc 1 a z) := by
  have hF := r_FC hR
  have hK : RK a b := hR.2.2.2.2.2.2.2.2.2.2.2.2.2.1
  obtain ⟨⟨K1, -, -⟩, -, K3⟩ := hK
  obtain ⟨C1, -, ⟨C3, C4, C5⟩, -, C7⟩ := r_C hR
  have z3 : tZ a 3 0 = 1000 := fcZ_3 hF
  have loop : ∀ k n, n + k = 1000 → Ru 25 2 [(0, aR (some (30, 0))), (1, aI (Int32.ofNat n))] [] (enc 1 a z) = some (.inl (some (aI 1)), enc 1 a z) := by
    intro k
    induction k with
    | zero =>
      intro n hn
      have : n = 1000 := by omega
      subst this
      have q : Int32.ofNat 1000 ≤ Int32.ofNat 1000 := Int32.le_refl _
      rw [lf_25_2]
      simp (config := {decide := true}) only [gfI_enc, gfL_enc, gfR_enc, pfI_enc, pfL_enc, pfR_enc, Option.bind_some, cI_v, cL_v, cF_v, cD_v, cR_v, cV_v, cI_x, cL_x, cR_x, cV_x, gz_0, gz_1, acc_enc, tI_sI, tL_sI, tR_sI, tN_sI, tZ_sI, tC_sI, tc_sI, tz_sI, tI_sL, tL_sL, tR_sL, tN_sL, tZ_sL, tC_sL, tc_sL, tz_sL, tI_sR, tL_sR, tR_sR, tN_sR, tZ_sR, tC_sR, tc_sR, tz_sR, tI_sZ, tL_sZ, tR_sZ, tN_sZ, tZ_sZ, tC_sZ, tc_sZ, tz_sZ, tI_sC, tL_sC, tR_sC, tN_sC, tZ_sC, tC_sC, tc_sC, tz_sC, tI_aC, tL_aC, tR_aC, tN_aC, tZ_aC, tC_aC, tc_aC, tz_aC, tI_rmL, tL_rmL, tR_rmL, tN_rmL, tZ_rmL, tC_rmL, tc_rmL, tz_rmL, tI_mk, tL_mk, tR_mk, tN_mk, tZ_mk, tC_mk, tc_mk, tz_mk, tI_pushL, tL_pushL, tR_pushL, tN_pushL, tZ_pushL, tC_pushL, tc_pushL, tz_pushL, tI_pushB, tL_pushB, tR_pushB, tN_pushB, tZ_pushB, tC_pushB, tc_pushB, tz_pushB, tI_cpL, tL_cpL, tR_cpL, tN_cpL, tZ_cpL, tC_cpL, tc_cpL, tz_cpL, eq_self, true_and, and_true, false_and, and_false, if_true, if_false, reduceIte, ite_true, ite_false, not_true_eq_false, not_false_eq_true, fcN_30 hF, fcR_30_2 hF, len_enc, fcN_3 hF, z3, q]
    | succ k ih =>
      intro n hk
      have hn : n < 1000 := by omega
      have q : ¬ Int32.ofNat 1000 ≤ Int32.ofNat n := by rw [o_le (by omega) (by omega)]; omega
      have g1 : (Int32.ofNat n).toNatClampNeg = n := o_ix (by omega)
      have g2 : ¬ Int32.ofNat n < 0 := o_lt0 (by omega)
      have hi := ih (n + 1) (by omega)
      rw [lf_25_2]
      rcases K1 n hn with hno | ⟨j, j1, hj⟩
      · simp (config := {decide := true}) only [gfI_enc, gfL_enc, gfR_enc, pfI_enc, pfL_enc, pfR_enc, Option.bind_some, cI_v, cL_v, cF_v, cD_v, cR_v, cV_v, cI_x, cL_x, cR_x, cV_x, gz_0, gz_1, acc_enc, tI_sI, tL_sI, tR_sI, tN_sI, tZ_sI, tC_sI, tc_sI, tz_sI, tI_sL, tL_sL, tR_sL, tN_sL, tZ_sL, tC_sL, tc_sL, tz_sL, tI_sR, tL_sR, tR_sR, tN_sR, tZ_sR, tC_sR, tc_sR, tz_sR, tI_sZ, tL_sZ, tR_sZ, tN_sZ, tZ_sZ, tC_sZ, tc_sZ, tz_sZ, tI_sC, tL_sC, tR_sC, tN_sC, tZ_sC, tC_sC, tc_sC, tz_sC, tI_aC, tL_aC, tR_aC, tN_aC, tZ_aC, tC_aC, tc_aC, tz_aC, tI_rmL, tL_rmL, tR_rmL, tN_rmL, tZ_rmL, tC_rmL, tc_rmL, tz_rmL, tI_mk, tL_mk, tR_mk, tN_mk, tZ_mk, tC_mk, tc_mk, tz_mk, tI_pushL, tL_pushL, tR_pushL, tN_pushL, tZ_pushL, tC_pushL, tc_pushL, tz_pushL, tI_pushB, tL_pushB, tR_pushB, tN_pushB, tZ_pushB, tC_pushB, tc_pushB, tz_pushB, tI_cpL, tL_cpL, tR_cpL, tN_cpL, tZ_cpL, tC_cpL, tc_cpL, tz_cpL, eq_self, true_and, and_true, false_and, and_false, if_true, if_false, reduceIte, ite_true, ite_false, not_true_eq_false, not_false_eq_true, fcN_30 hF, fcR_30_2 hF, len_enc, gaR_enc, fcN_3 hF, z3, q, g1, g2, hn, hno, o_s]
        exact hi
      · obtain ⟨-, -, -, -, ⟨b8, kP0, kP⟩⟩ := K3 n hn
        rw [kR_some hj] at kP0
        by_cases e : hI b n 8 = 0
        · simp (config := {decide := true}) only [gfI_enc, gfL_enc, gfR_enc, pfI_enc, pfL_enc, pfR_enc, Option.bind_some, cI_v, cL_v, cF_v, cD_v, cR_v, cV_v, cI_x, cL_x, cR_x, cV_x, gz_0, gz_1, acc_enc, tI_sI, tL_sI, tR_sI, tN_sI, tZ_sI, tC_sI, tc_sI, tz_sI, tI_sL, tL_sL, tR_sL, tN_sL, tZ_sL, tC_sL, tc_sL, tz_sL, tI_sR, tL_sR, tR_sR, tN_sR, tZ_sR, tC_sR, tc_sR, tz_sR, tI_sZ, tL_sZ, tR_sZ, tN_sZ, tZ_sZ, tC_sZ, tc_sZ, tz_sZ, tI_sC, tL_sC, tR_sC, tN_sC, tZ_sC, tC_sC, tc_sC, tz_sC, tI_aC, tL_aC, tR_aC, tN_aC, tZ_aC, tC_aC, tc_aC, tz_aC, tI_rmL, tL_rmL, tR_rmL, tN_rmL, tZ_rmL, tC_rmL, tc_rmL, tz_rmL, tI_mk, tL_mk, tR_mk, tN_mk, tZ_mk, tC_mk, tc_mk, tz_mk, tI_pushL, tL_pushL, tR_pushL, tN_pushL, tZ_pushL, tC_pushL, tc_pushL, tz_pushL, tI_pushB, tL_pushB, tR_pushB, tN_pushB, tZ_pushB, tC_pushB, tc_pushB, tz_pushB, tI_cpL, tL_cpL, tR_cpL, tN_cpL, tZ_cpL, tC_cpL, tc_cpL, tz_cpL, eq_self, true_and, and_true, false_and, and_false, if_true, if_false, reduceIte, ite_true, ite_false, not_true_eq_false, not_false_eq_true, fcN_30 hF, fcR_30_2 hF, len_enc, gaR_enc, fcN_3 hF, z3, q, g1, g2, hn, hj, reduceCtorEq, j1, kP0 e, o_s]
          exact hi
        · obtain ⟨i, -, -, -, i1, -, -, -, i5, i6, i7, -⟩ := kP e
          rw [kR_some hj] at i5
          obtain ⟨cd, c, o1, o2, o3, o4, o5⟩ := ro_at hR hn e
          rw [o3] at i6
          rw [o4] at i7
          obtain ⟨c1, c2, -, -, -, -, -, c8, -, c10⟩ := C7 cd o1
          have n37 : cd < tN a 37 := by omega
          have f16 := fun z => x16 (a := a) (z := z) (k := cd) hF C1 o1 c1 n37
          have f10 := fun z => x10 (a := a) (z := z) (j := cd) (c := Int32.ofNat c) n37 c8 (by omega) c10 (o_lt0 (by omega)) (by rw [o_ix (by omega)]; exact o2)
          rw [o_ix (by omega), o5, o_p] at f10
          simp (config := {decide := true}) only [gfI_enc, gfL_enc, gfR_enc, pfI_enc, pfL_enc, pfR_enc, Option.bind_some, cI_v, cL_v, cF_v, cD_v, cR_v, cV_v, cI_x, cL_x, cR_x, cV_x, gz_0, gz_1, acc_enc, tI_sI, tL_sI, tR_sI, tN_sI, tZ_sI, tC_sI, tc_sI, tz_sI, tI_sL, tL_sL, tR_sL, tN_sL, tZ_sL, tC_sL, tc_sL, tz_sL, tI_sR, tL_sR, tR_sR, tN_sR, tZ_sR, tC_sR, tc_sR, tz_sR, tI_sZ, tL_sZ, tR_sZ, tN_sZ, tZ_sZ, tC_sZ, tc_sZ, tz_sZ, tI_sC, tL_sC, tR_sC, tN_sC, tZ_sC, tC_sC, tc_sC, tz_sC, tI_aC, tL_aC, tR_aC, tN_aC, tZ_aC, tC_aC, tc_aC, tz_aC, tI_rmL, tL_rmL, tR_rmL, tN_rmL, tZ_rmL, tC_rmL, tc_rmL, tz_rmL, tI_mk, tL_mk, tR_mk, tN_mk, tZ_mk, tC_mk, tc_mk, tz_mk, tI_pushL, tL_pushL, tR_pushL, tN_pushL, tZ_pushL, tC_pushL, tc_pushL, tz_pushL, tI_pushB, tL_pushB, tR_pushB, tN_pushB, tZ_pushB, tC_pushB, tc_pushB, tz_pushB, tI_cpL, tL_cpL, tR_cpL, tN_cpL, tZ_cpL, tC_cpL, tc_cpL, tz_cpL, eq_self, true_and, and_true, false_and, and_false, if_true, if_false, reduceIte, ite_true, ite_false, not_true_eq_false, not_false_eq_true, fcN_30 hF, fcR_30_2 hF, len_enc, gaR_enc, fcN_3 hF, z3, q, g1, g2, hn, hj, reduceCtorEq, j1, i5, i1, i6, f16, i7, f10, o_s]
          exact hi
  refine (X_in (by decide +kernel) (fcN_30 hF) rfl).trans ((lf_25_0 ..).trans ?_)
  exact loop 1000 0 (by omega)
