/-! ===== errors: each posted number was posted with a stamp that was made ===== -/
theorem stP_r (b : TS) (e : Nat) : (∀ s i k, tR (stP b e) s i k = tR b s i k) ∧ (∀ s i, tZ (stP b e) s i = tZ b s i) ∧ (∀ s, tN (stP b e) s = tN b s) ∧ (∀ s i k, tL (stP b e) s i k = tL b s i k) := by
  unfold stP
  split
  · exact ⟨fun _ _ _ => rfl, fun _ _ => rfl, fun _ => rfl, fun _ _ _ => rfl⟩
  · exact ⟨fun _ _ _ => by rw [tR_sI], fun _ _ => by rw [tZ_sI], fun _ => by rw [tN_sI], fun _ _ _ => by rw [tL_sI]⟩
theorem aq36 {a : TS} {s s' : Nat} (h : s < tN a 36) (h' : s' < tN a 36) (z : Hp) (r : Res) : aq (enc 1 a z) (some (36, s)) (some (36, s')) r = r :=
  aq_enc (fun q hq => by cases hq; exact ⟨show ow 36 = 1 from by decide +kernel, show kd 36 < 24 from by decide +kernel, h⟩) (fun q hq => by cases hq; exact ⟨show ow 36 = 1 from by decide +kernel, show kd 36 < 24 from by decide +kernel, h'⟩)
def m24 (a : TS) (i s q cq sq : Nat) : Prop := tI a 37 cq 0 = tI a 7 i 2 ∧ tI a 38 q 4 = tI a 7 i 4 ∧ tI a 38 q 3 = tI a 7 i 5 ∧ sq = s ∧ tI a 38 q 5 = tI a 7 i 6
theorem s24 {a b : TS} {z : Hp} {j i s q cq sq : Nat} (hR : R0 a b) (hj : j < tN a 4) (hi : i < tN a 7) (h10 : tR a 4 j 10 = some (36, s)) (hs : s < tN a 36) (hq : q < tZ a 29 0) (k1 : tR a 38 q 1 = some (37, cq)) (k2 : cq < tN a 37) (k3 : tR a 38 q 2 = some (36, sq)) (k4 : sq < tN a 36) :
    (m24 a i s q cq sq → Ru 24 20 [(0, aR (some (4, j))), (1, aR (some (29, 0))), (2, aR (some (7, i))), (3, aI (Int32.ofNat q))] [] (enc 1 a z) = some (.inl (some (aI 1)), enc 1 a z)) ∧
    (¬ m24 a i s q cq sq → Ru 24 20 [(0, aR (some (4, j))), (1, aR (some (29, 0))), (2, aR (some (7, i))), (3, aI (Int32.ofNat q))] [] (enc 1 a z) = Ru 24 20 [(0, aR (some (4, j))), (1, aR (some (29, 0))), (2, aR (some (7, i))), (3, aI (Int32.ofNat (q + 1)))] [] (enc 1 a z)) := by
  have hF := r_FC hR
  obtain ⟨r1, r2, r3, -⟩ := pay_at hR hq
  have g1 : (Int32.ofNat q).toNatClampNeg = q := o_ix (by omega)
  have g2 : ¬ Int32.ofNat q < 0 := o_lt0 (by omega)
  have g3 : ¬ Int32.ofNat (tZ a 29 0) ≤ Int32.ofNat q := by rw [o_le (by omega) (by omega)]; omega
  have f := aq36 (a := a) (s := sq) (s' := s) k4 hs
  have f7 : 29 = 29 := rfl
  unfold m24
  refine ⟨fun ⟨e1, e2, e3, e4, e5⟩ => ?_, fun hn => ?_⟩
  · subst e4
    rw [lf_24_20]
    simp (config := {decide := true}) only [gfI_enc, gfL_enc, gfR_enc, pfI_enc, pfL_enc, pfR_enc, Option.bind_some, cI_v, cL_v, cF_v, cD_v, cR_v, cV_v, cI_x, cL_x, cR_x, cV_x, gz_0, gz_1, acc_enc, tI_sI, tL_sI, tR_sI, tN_sI, tZ_sI, tC_sI, tc_sI, tz_sI, tI_sL, tL_sL, tR_sL, tN_sL, tZ_sL, tC_sL, tc_sL, tz_sL, tI_sR, tL_sR, tR_sR, tN_sR, tZ_sR, tC_sR, tc_sR, tz_sR, tI_sZ, tL_sZ, tR_sZ, tN_sZ, tZ_sZ, tC_sZ, tc_sZ, tz_sZ, tI_sC, tL_sC, tR_sC, tN_sC, tZ_sC, tC_sC, tc_sC, tz_sC, tI_aC, tL_aC, tR_aC, tN_aC, tZ_aC, tC_aC, tc_aC, tz_aC, tI_rmL, tL_rmL, tR_rmL, tN_rmL, tZ_rmL, tC_rmL, tc_rmL, tz_rmL, tI_mk, tL_mk, tR_mk, tN_mk, tZ_mk, tC_mk, tc_mk, tz_mk, tI_pushL, tL_pushL, tR_pushL, tN_pushL, tZ_pushL, tC_pushL, tc_pushL, tz_pushL, tI_pushB, tL_pushB, tR_pushB, tN_pushB, tZ_pushB, tC_pushB, tc_pushB, tz_pushB, tI_cpL, tL_cpL, tR_cpL, tN_cpL, tZ_cpL, tC_cpL, tc_cpL, tz_cpL, eq_self, true_and, and_true, false_and, and_false, if_true, if_false, reduceIte, ite_true, ite_false, not_true_eq_false, not_false_eq_true, X405, X402, fcN_29 hF, g1, g2, g3, hq, r1, r2, k1, k2, hi, e1, e2, e3, k3, hj, h10, f, e5]
  · rw [lf_24_20]
    by_cases e1 : tI a 37 cq 0 = tI a 7 i 2
    · by_cases e2 : tI a 38 q 4 = tI a 7 i 4
      · by_cases e3 : tI a 38 q 3 = tI a 7 i 5
        · by_cases e4 : sq = s
          · subst e4
            have e5 : ¬ tI a 38 q 5 = tI a 7 i 6 := fun w => hn ⟨e1, e2, e3, rfl, w⟩
            simp (config := {decide := true}) only [gfI_enc, gfL_enc, gfR_enc, pfI_enc, pfL_enc, pfR_enc, Option.bind_some, cI_v, cL_v, cF_v, cD_v, cR_v, cV_v, cI_x, cL_x, cR_x, cV_x, gz_0, gz_1, acc_enc, tI_sI, tL_sI, tR_sI, tN_sI, tZ_sI, tC_sI, tc_sI, tz_sI, tI_sL, tL_sL, tR_sL, tN_sL, tZ_sL, tC_sL, tc_sL, tz_sL, tI_sR, tL_sR, tR_sR, tN_sR, tZ_sR, tC_sR, tc_sR, tz_sR, tI_sZ, tL_sZ, tR_sZ, tN_sZ, tZ_sZ, tC_sZ, tc_sZ, tz_sZ, tI_sC, tL_sC, tR_sC, tN_sC, tZ_sC, tC_sC, tc_sC, tz_sC, tI_aC, tL_aC, tR_aC, tN_aC, tZ_aC, tC_aC, tc_aC, tz_aC, tI_rmL, tL_rmL, tR_rmL, tN_rmL, tZ_rmL, tC_rmL, tc_rmL, tz_rmL, tI_mk, tL_mk, tR_mk, tN_mk, tZ_mk, tC_mk, tc_mk, tz_mk, tI_pushL, tL_pushL, tR_pushL, tN_pushL, tZ_pushL, tC_pushL, tc_pushL, tz_pushL, tI_pushB, tL_pushB, tR_pushB, tN_pushB, tZ_pushB, tC_pushB, tc_pushB, tz_pushB, tI_cpL, tL_cpL, tR_cpL, tN_cpL, tZ_cpL, tC_cpL, tc_cpL, tz_cpL, eq_self, true_and, and_true, false_and, and_false, if_true, if_false, reduceIte, ite_true, ite_false, not_true_eq_false, not_false_eq_true, X405, X402, fcN_29 hF, g1, g2, g3, hq, r1, r2, k1, k2, hi, e1, e2, e3, k3, hj, h10, f, e5, o_s]
          · have e4' : ¬ (some (36, sq) : Option (Nat × Nat)) = some (36, s) := fun w => e4 (congrArg Prod.snd (Option.some.inj w))
            simp (config := {decide := true}) only [gfI_enc, gfL_enc, gfR_enc, pfI_enc, pfL_enc, pfR_enc, Option.bind_some, cI_v, cL_v, cF_v, cD_v, cR_v, cV_v, cI_x, cL_x, cR_x, cV_x, gz_0, gz_1, acc_enc, tI_sI, tL_sI, tR_sI, tN_sI, tZ_sI, tC_sI, tc_sI, tz_sI, tI_sL, tL_sL, tR_sL, tN_sL, tZ_sL, tC_sL, tc_sL, tz_sL, tI_sR, tL_sR, tR_sR, tN_sR, tZ_sR, tC_sR, tc_sR, tz_sR, tI_sZ, tL_sZ, tR_sZ, tN_sZ, tZ_sZ, tC_sZ, tc_sZ, tz_sZ, tI_sC, tL_sC, tR_sC, tN_sC, tZ_sC, tC_sC, tc_sC, tz_sC, tI_aC, tL_aC, tR_aC, tN_aC, tZ_aC, tC_aC, tc_aC, tz_aC, tI_rmL, tL_rmL, tR_rmL, tN_rmL, tZ_rmL, tC_rmL, tc_rmL, tz_rmL, tI_mk, tL_mk, tR_mk, tN_mk, tZ_mk, tC_mk, tc_mk, tz_mk, tI_pushL, tL_pushL, tR_pushL, tN_pushL, tZ_pushL, tC_pushL, tc_pushL, tz_pushL, tI_pushB, tL_pushB, tR_pushB, tN_pushB, tZ_pushB, tC_pushB, tc_pushB, tz_pushB, tI_cpL, tL_cpL, tR_cpL, tN_cpL, tZ_cpL, tC_cpL, tc_cpL, tz_cpL, eq_self, true_and, and_true, false_and, and_false, if_true, if_false, reduceIte, ite_true, ite_false, not_true_eq_false, not_false_eq_true, X405, X402, fcN_29 hF, g1, g2, g3, hq, r1, r2, k1, k2, hi, e1, e2, e3, k3, hj, h10, f, e4', o_s]
        · simp (config := {decide := true}) only [gfI_enc, gfL_enc, gfR_enc, pfI_enc, pfL_enc, pfR_enc, Option.bind_some, cI_v, cL_v, cF_v, cD_v, cR_v, cV_v, cI_x, cL_x, cR_x, cV_x, gz_0, gz_1, acc_enc, tI_sI, tL_sI, tR_sI, tN_sI, tZ_sI, tC_sI, tc_sI, tz_sI, tI_sL, tL_sL, tR_sL, tN_sL, tZ_sL, tC_sL, tc_sL, tz_sL, tI_sR, tL_sR, tR_sR, tN_sR, tZ_sR, tC_sR, tc_sR, tz_sR, tI_sZ, tL_sZ, tR_sZ, tN_sZ, tZ_sZ, tC_sZ, tc_sZ, tz_sZ, tI_sC, tL_sC, tR_sC, tN_sC, tZ_sC, tC_sC, tc_sC, tz_sC, tI_aC, tL_aC, tR_aC, tN_aC, tZ_aC, tC_aC, tc_aC, tz_aC, tI_rmL, tL_rmL, tR_rmL, tN_rmL, tZ_rmL, tC_rmL, tc_rmL, tz_rmL, tI_mk, tL_mk, tR_mk, tN_mk, tZ_mk, tC_mk, tc_mk, tz_mk, tI_pushL, tL_pushL, tR_pushL, tN_pushL, tZ_pushL, tC_pushL, tc_pushL, tz_pushL, tI_pushB, tL_pushB, tR_pushB, tN_pushB, tZ_pushB, tC_pushB, tc_pushB, tz_pushB, tI_cpL, tL_cpL, tR_cpL, tN_cpL, tZ_cpL, tC_cpL, tc_cpL, tz_cpL, eq_self, true_and, and_true, false_and, and_false, if_true, if_false, reduceIte, ite_true, ite_false, not_true_eq_false, not_false_eq_true, X405, X402, fcN_29 hF, g1, g2, g3, hq, r1, r2, k1, k2, hi, e1, e2, e3, o_s]
      · simp (config := {decide := true}) only [gfI_enc, gfL_enc, gfR_enc, pfI_enc, pfL_enc, pfR_enc, Option.bind_some, cI_v, cL_v, cF_v, cD_v, cR_v, cV_v, cI_x, cL_x, cR_x, cV_x, gz_0, gz_1, acc_enc, tI_sI, tL_sI, tR_sI, tN_sI, tZ_sI, tC_sI, tc_sI, tz_sI, tI_sL, tL_sL, tR_sL, tN_sL, tZ_sL, tC_sL, tc_sL, tz_sL, tI_sR, tL_sR, tR_sR, tN_sR, tZ_sR, tC_sR, tc_sR, tz_sR, tI_sZ, tL_sZ, tR_sZ, tN_sZ, tZ_sZ, tC_sZ, tc_sZ, tz_sZ, tI_sC, tL_sC, tR_sC, tN_sC, tZ_sC, tC_sC, tc_sC, tz_sC, tI_aC, tL_aC, tR_aC, tN_aC, tZ_aC, tC_aC, tc_aC, tz_aC, tI_rmL, tL_rmL, tR_rmL, tN_rmL, tZ_rmL, tC_rmL, tc_rmL, tz_rmL, tI_mk, tL_mk, tR_mk, tN_mk, tZ_mk, tC_mk, tc_mk, tz_mk, tI_pushL, tL_pushL, tR_pushL, tN_pushL, tZ_pushL, tC_pushL, tc_pushL, tz_pushL, tI_pushB, tL_pushB, tR_pushB, tN_pushB, tZ_pushB, tC_pushB, tc_pushB, tz_pushB, tI_cpL, tL_cpL, tR_cpL, tN_cpL, tZ_cpL, tC_cpL, tc_cpL, tz_cpL, eq_self, true_and, and_true, false_and, and_false, if_true, if_false, reduceIte, ite_true, ite_false, not_true_eq_false, not_false_eq_true, X405, X402, fcN_29 hF, g1, g2, g3, hq, r1, r2, k1, k2, hi, e1, e2, o_s]
    · simp (config := {decide := true}) only [gfI_enc, gfL_enc, gfR_enc, pfI_enc, pfL_enc, pfR_enc, Option.bind_some, cI_v, cL_v, cF_v, cD_v, cR_v, cV_v, cI_x, cL_x, cR_x, cV_x, gz_0, gz_1, acc_enc, tI_sI, tL_sI, tR_sI, tN_sI, tZ_sI, tC_sI, tc_sI, tz_sI, tI_sL, tL_sL, tR_sL, tN_sL, tZ_sL, tC_sL, tc_sL, tz_sL, tI_sR, tL_sR, tR_sR, tN_sR, tZ_sR, tC_sR, tc_sR, tz_sR, tI_sZ, tL_sZ, tR_sZ, tN_sZ, tZ_sZ, tC_sZ, tc_sZ, tz_sZ, tI_sC, tL_sC, tR_sC, tN_sC, tZ_sC, tC_sC, tc_sC, tz_sC, tI_aC, tL_aC, tR_aC, tN_aC, tZ_aC, tC_aC, tc_aC, tz_aC, tI_rmL, tL_rmL, tR_rmL, tN_rmL, tZ_rmL, tC_rmL, tc_rmL, tz_rmL, tI_mk, tL_mk, tR_mk, tN_mk, tZ_mk, tC_mk, tc_mk, tz_mk, tI_pushL, tL_pushL, tR_pushL, tN_pushL, tZ_pushL, tC_pushL, tc_pushL, tz_pushL, tI_pushB, tL_pushB, tR_pushB, tN_pushB, tZ_pushB, tC_pushB, tc_pushB, tz_pushB, tI_cpL, tL_cpL, tR_cpL, tN_cpL, tZ_cpL, tC_cpL, tc_cpL, tz_cpL, eq_self, true_and, and_true, false_and, and_false, if_true, if_false, reduceIte, ite_true, ite_false, not_true_eq_false, not_false_eq_true, X405, X402, fcN_29 hF, g1, g2, g3, hq, r1, r2, k1, k2, hi, e1, o_s]
/-- a posted number, in both -/
theorem pst_at {a b : TS} {n : Nat} (hR : R0 a b) (hn : n < 1000) (h8 : hI b n 8 ≠ 0) : ∃ j i s p j', tR a 3 0 n = some (4, j) ∧ j < tN a 4 ∧ tR a 4 j 8 = some (7, i) ∧ i < tN a 7 ∧ tR a 4 j 10 = some (36, s) ∧ s < tZ a 27 0 ∧ p < tZ a 29 0 ∧
    (tI a 7 i 2 = tI b 87 0 (10 * p + 1) ∧ tI a 7 i 4 = tI b 87 0 (10 * p + 4) ∧ tI a 7 i 5 = tI b 87 0 (10 * p + 3) ∧ Int32.ofNat s = tI b 87 0 (10 * p + 2) ∧ tI a 7 i 6 = tI b 87 0 (10 * p + 5)) ∧
    tR b 53 0 n = some (61, j') ∧ j' < tN b 61 ∧ (tI b 64 j' 0 = tI b 87 0 (10 * p + 1) ∧ tI b 64 j' 1 = tI b 87 0 (10 * p + 4) ∧ tI b 64 j' 2 = tI b 87 0 (10 * p + 3) ∧ tI b 61 j' 14 = tI b 87 0 (10 * p + 2)) ∧ tI b 61 j' 8 ≠ 0 := by
  have hK : RK a b := hR.2.2.2.2.2.2.2.2.2.2.2.2.2.1
  have hZ : RZ a b := hR.2.2.2.2.2.2.2.2.2.2.2.2.2.2.2.2
  obtain ⟨⟨K1, -, -⟩, ⟨K2, -⟩, K3⟩ := hK
  obtain ⟨-, -, -, -, ⟨b8, kP0, kP⟩⟩ := K3 n hn
  obtain ⟨i, k, t, s, i1, i2, i3, i4, i5, i6, i7, i8, i9, i10, i11, i12, i13⟩ := kP h8
  obtain ⟨p, p1, p2, p3, p4, p5, -, p7⟩ := hZ.2 n hn h8
  have p7 := p7 _ i5
  rcases K1 n hn with hno | ⟨j, j1, hj⟩
  · rw [kR_none hno] at i5
    cases i5
  · rcases K2 n hn with hno | ⟨j', j1', hj'⟩
    · rw [hI_none hno] at h8
      exact absurd rfl h8
    · rw [kR_some hj] at i5 i12
      rw [hI_some hj'] at h8 i13 p5
      rw [hA_at hj'] at i6 i7 i8 p2 p3 p4
      exact ⟨j, i, s, p, j', hj, j1, i5, i1, i12, i4, p1, ⟨i6.trans p2, i7.trans p3, i8.trans p4, i13.symm.trans p5, p7⟩, hj', j1', ⟨p2, p3, p4, p5⟩, h8⟩
theorem x23 {a b : TS} {z : Hp} (hR : R0 a b) : Ex 23 [aR (some (30, 0)), aR (some (29, 0))] (enc 1 a z) = some (.inl (some (aI 1)), enc 1 a z) := by
  have hF := r_FC hR
  obtain ⟨P1, -, P3, P4, P5, -⟩ := r_P' hR
  obtain ⟨-, -, ⟨C3, -⟩, -, C7⟩ := r_C hR
  obtain ⟨S1, -, ⟨S2, -⟩, -, S5⟩ := r_S hR
  have z3 : tZ a 3 0 = 1000 := fcZ_3 hF
  have loop : ∀ k n, n + k = 1000 → Ru 23 2 [(0, aR (some (30, 0))), (1, aR (some (29, 0))), (2, aI (Int32.ofNat n))] [] (enc 1 a z) = some (.inl (some (aI 1)), enc 1 a z) := by
    intro k
    induction k with
    | zero =>
      intro n hn
      have : n = 1000 := by omega
      subst this
      have q : Int32.ofNat 1000 ≤ Int32.ofNat 1000 := Int32.le_refl _
      rw [lf_23_2]
      simp (config := {decide := true}) only [gfI_enc, gfL_enc, gfR_enc, pfI_enc, pfL_enc, pfR_enc, Option.bind_some, cI_v, cL_v, cF_v, cD_v, cR_v, cV_v, cI_x, cL_x, cR_x, cV_x, gz_0, gz_1, acc_enc, tI_sI, tL_sI, tR_sI, tN_sI, tZ_sI, tC_sI, tc_sI, tz_sI, tI_sL, tL_sL, tR_sL, tN_sL, tZ_sL, tC_sL, tc_sL, tz_sL, tI_sR, tL_sR, tR_sR, tN_sR, tZ_sR, tC_sR, tc_sR, tz_sR, tI_sZ, tL_sZ, tR_sZ, tN_sZ, tZ_sZ, tC_sZ, tc_sZ, tz_sZ, tI_sC, tL_sC, tR_sC, tN_sC, tZ_sC, tC_sC, tc_sC, tz_sC, tI_aC, tL_aC, tR_aC, tN_aC, tZ_aC, tC_aC, tc_aC, tz_aC, tI_rmL, tL_rmL, tR_rmL, tN_rmL, tZ_rmL, tC_rmL, tc_rmL, tz_rmL, tI_mk, tL_mk, tR_mk, tN_mk, tZ_mk, tC_mk, tc_mk, tz_mk, tI_pushL, tL_pushL, tR_pushL, tN_pushL, tZ_pushL, tC_pushL, tc_pushL, tz_pushL, tI_pushB, tL_pushB, tR_pushB, tN_pushB, tZ_pushB, tC_pushB, tc_pushB, tz_pushB, tI_cpL, tL_cpL, tR_cpL, tN_cpL, tZ_cpL, tC_cpL, tc_cpL, tz_cpL, eq_self, true_and, and_true, false_and, and_false, if_true, if_false, reduceIte, ite_true, ite_false, not_true_eq_false, not_false_eq_true, fcN_30 hF, fcR_30_2 hF, len_enc, fcN_3 hF, z3, q]
    | succ k ih =>
      intro n hk
      have hn : n < 1000 := by omega
      have q : ¬ Int32.ofNat 1000 ≤ Int32.ofNat n := by rw [o_le (by omega) (by omega)]; omega
      have f17 := fun z => x17 (z := z) hR hn
      have f14 := fun z => x14 (a := a) (z := z) hF hn
      have hi := ih (n + 1) (by omega)
      rw [lf_23_2]
      by_cases e : hI b n 8 = 0
      · simp (config := {decide := true}) only [gfI_enc, gfL_enc, gfR_enc, pfI_enc, pfL_enc, pfR_enc, Option.bind_some, cI_v, cL_v, cF_v, cD_v, cR_v, cV_v, cI_x, cL_x, cR_x, cV_x, gz_0, gz_1, acc_enc, tI_sI, tL_sI, tR_sI, tN_sI, tZ_sI, tC_sI, tc_sI, tz_sI, tI_sL, tL_sL, tR_sL, tN_sL, tZ_sL, tC_sL, tc_sL, tz_sL, tI_sR, tL_sR, tR_sR, tN_sR, tZ_sR, tC_sR, tc_sR, tz_sR, tI_sZ, tL_sZ, tR_sZ, tN_sZ, tZ_sZ, tC_sZ, tc_sZ, tz_sZ, tI_sC, tL_sC, tR_sC, tN_sC, tZ_sC, tC_sC, tc_sC, tz_sC, tI_aC, tL_aC, tR_aC, tN_aC, tZ_aC, tC_aC, tc_aC, tz_aC, tI_rmL, tL_rmL, tR_rmL, tN_rmL, tZ_rmL, tC_rmL, tc_rmL, tz_rmL, tI_mk, tL_mk, tR_mk, tN_mk, tZ_mk, tC_mk, tc_mk, tz_mk, tI_pushL, tL_pushL, tR_pushL, tN_pushL, tZ_pushL, tC_pushL, tc_pushL, tz_pushL, tI_pushB, tL_pushB, tR_pushB, tN_pushB, tZ_pushB, tC_pushB, tc_pushB, tz_pushB, tI_cpL, tL_cpL, tR_cpL, tN_cpL, tZ_cpL, tC_cpL, tc_cpL, tz_cpL, eq_self, true_and, and_true, false_and, and_false, if_true, if_false, reduceIte, ite_true, ite_false, not_true_eq_false, not_false_eq_true, fcN_30 hF, fcR_30_2 hF, len_enc, fcN_3 hF, z3, q, f17, e, o_s]
        exact hi
      · obtain ⟨j, i, s, p, j', hj, j1, h8, i1, h10, s1, p1, ⟨m1, m2, m3, m4, m5⟩, -⟩ := pst_at hR hn e
        have s36 : s < tN a 36 := by omega
        have f24 : ∀ z, Ex 24 [aR (some (4, j)), aR (some (29, 0))] (enc 1 a z) = some (.inl (some (aI 1)), enc 1 a z) := fun z => by
          have l24 : ∀ k q, q + k = p → Ru 24 20 [(0, aR (some (4, j))), (1, aR (some (29, 0))), (2, aR (some (7, i))), (3, aI (Int32.ofNat q))] [] (enc 1 a z) = some (.inl (some (aI 1)), enc 1 a z) := by
            intro k
            induction k with
            | zero =>
              intro q hq
              have : q = p := by omega
              subst this
              obtain ⟨-, -, ⟨cq, c1, c2, c3⟩, ⟨sq, q1, q2, q3⟩, ⟨d3, -⟩, ⟨d4, -⟩, -⟩ := P5 q p1
              obtain ⟨d5, -⟩ := (r_Q hR).1 q p1
              refine (s24 hR j1 i1 h10 s36 p1 c2 (by omega) q2 (by omega)).1 ⟨((C7 cq c1).2.1.trans c3.symm).trans m1.symm, d4.trans m2.symm, d3.trans m3.symm, ?_, d5.trans m5.symm⟩
              exact o_inj (by omega) (by omega) (q3.symm.trans m4.symm)
            | succ k ih' =>
              intro q hq
              have hqn : q < tZ a 29 0 := by omega
              obtain ⟨-, -, ⟨cq, c1, c2, c3⟩, ⟨sq, q1, q2, q3⟩, -⟩ := P5 q hqn
              have st := s24 (z := z) hR j1 i1 h10 s36 hqn c2 (by omega) q2 (by omega)
              by_cases w : m24 a i s q cq sq
              · exact st.1 w
              · exact (st.2 w).trans (ih' (q + 1) (by omega))
          refine (X_st (by decide +kernel) rfl).trans ((lf_24_0 ..).trans ?_)
          simp (config := {decide := true}) only [gfI_enc, gfL_enc, gfR_enc, pfI_enc, pfL_enc, pfR_enc, Option.bind_some, cI_v, cL_v, cF_v, cD_v, cR_v, cV_v, cI_x, cL_x, cR_x, cV_x, gz_0, gz_1, acc_enc, tI_sI, tL_sI, tR_sI, tN_sI, tZ_sI, tC_sI, tc_sI, tz_sI, tI_sL, tL_sL, tR_sL, tN_sL, tZ_sL, tC_sL, tc_sL, tz_sL, tI_sR, tL_sR, tR_sR, tN_sR, tZ_sR, tC_sR, tc_sR, tz_sR, tI_sZ, tL_sZ, tR_sZ, tN_sZ, tZ_sZ, tC_sZ, tc_sZ, tz_sZ, tI_sC, tL_sC, tR_sC, tN_sC, tZ_sC, tC_sC, tc_sC, tz_sC, tI_aC, tL_aC, tR_aC, tN_aC, tZ_aC, tC_aC, tc_aC, tz_aC, tI_rmL, tL_rmL, tR_rmL, tN_rmL, tZ_rmL, tC_rmL, tc_rmL, tz_rmL, tI_mk, tL_mk, tR_mk, tN_mk, tZ_mk, tC_mk, tc_mk, tz_mk, tI_pushL, tL_pushL, tR_pushL, tN_pushL, tZ_pushL, tC_pushL, tc_pushL, tz_pushL, tI_pushB, tL_pushB, tR_pushB, tN_pushB, tZ_pushB, tC_pushB, tc_pushB, tz_pushB, tI_cpL, tL_cpL, tR_cpL, tN_cpL, tZ_cpL, tC_cpL, tc_cpL, tz_cpL, eq_self, true_and, and_true, false_and, and_false, if_true, if_false, reduceIte, ite_true, ite_false, not_true_eq_false, not_false_eq_true, reduceCtorEq, j1, h8]
          exact l24 p 0 (by omega)
        have n10 : ¬ (1 : Int32) = 0 := by decide
        simp (config := {decide := true}) only [gfI_enc, gfL_enc, gfR_enc, pfI_enc, pfL_enc, pfR_enc, Option.bind_some, cI_v, cL_v, cF_v, cD_v, cR_v, cV_v, cI_x, cL_x, cR_x, cV_x, gz_0, gz_1, acc_enc, tI_sI, tL_sI, tR_sI, tN_sI, tZ_sI, tC_sI, tc_sI, tz_sI, tI_sL, tL_sL, tR_sL, tN_sL, tZ_sL, tC_sL, tc_sL, tz_sL, tI_sR, tL_sR, tR_sR, tN_sR, tZ_sR, tC_sR, tc_sR, tz_sR, tI_sZ, tL_sZ, tR_sZ, tN_sZ, tZ_sZ, tC_sZ, tc_sZ, tz_sZ, tI_sC, tL_sC, tR_sC, tN_sC, tZ_sC, tC_sC, tc_sC, tz_sC, tI_aC, tL_aC, tR_aC, tN_aC, tZ_aC, tC_aC, tc_aC, tz_aC, tI_rmL, tL_rmL, tR_rmL, tN_rmL, tZ_rmL, tC_rmL, tc_rmL, tz_rmL, tI_mk, tL_mk, tR_mk, tN_mk, tZ_mk, tC_mk, tc_mk, tz_mk, tI_pushL, tL_pushL, tR_pushL, tN_pushL, tZ_pushL, tC_pushL, tc_pushL, tz_pushL, tI_pushB, tL_pushB, tR_pushB, tN_pushB, tZ_pushB, tC_pushB, tc_pushB, tz_pushB, tI_cpL, tL_cpL, tR_cpL, tN_cpL, tZ_cpL, tC_cpL, tc_cpL, tz_cpL, eq_self, true_and, and_true, false_and, and_false, if_true, if_false, reduceIte, ite_true, ite_false, not_true_eq_false, not_false_eq_true, fcN_30 hF, fcR_30_2 hF, len_enc, fcN_3 hF, z3, q, f17, e, f14, hj, f24, n10, o_s]
        exact hi
  refine (X_in (by decide +kernel) (fcN_30 hF) rfl).trans ((lf_23_0 ..).trans ?_)
  exact loop 1000 0 (by omega)
/-! the reference's -/
def m181 (b : TS) (j q : Nat) : Prop := tI b 87 0 (10 * q + 1) = tI b 64 j 0 ∧ tI b 87 0 (10 * q + 4) = tI b 64 j 1 ∧ tI b 87 0 (10 * q + 3) = tI b 64 j 2 ∧ tI b 87 0 (10 * q + 2) = tI b 61 j 14
theorem s181 {a b : TS} {z : Hp} {C j q e : Nat} (h : Core a b C) (hj : j < tN b 61) (hq : q < tZ a 29 0) :
    (m181 b j q → Ru 181 2 [(0, aR (some (94, 0))), (1, aR (some (61, j))), (2, aI (Int32.ofNat q))] [] (enc 2 (stP b e) z) = some (.inl (some (aI 1)), enc 2 (stP b (e + 1)) z)) ∧
    (¬ m181 b j q → Ru 181 2 [(0, aR (some (94, 0))), (1, aR (some (61, j))), (2, aI (Int32.ofNat q))] [] (enc 2 (stP b e) z) = Ru 181 2 [(0, aR (some (94, 0))), (1, aR (some (61, j))), (2, aI (Int32.ofNat (q + 1)))] [] (enc 2 (stP b (e + 1)) z)) := by
  have hF := r_FR (stP_core h e).1.1
  have hF1 := r_FR (stP_core h (e + 1)).1.1
  obtain ⟨P1, -, P3, P4, P5, -⟩ := r_P' h.1.1
  have hK : RK a b := h.1.1.2.2.2.2.2.2.2.2.2.2.2.2.2.1
  obtain ⟨-, ⟨-, -, ⟨-, -, n64⟩, K4, -⟩, -⟩ := hK
  obtain ⟨-, -, k6, -, -, kz⟩ := K4 j hj
  have g3 : ¬ Int32.ofNat (tZ a 29 0) ≤ Int32.ofNat q := by rw [o_le (by omega) (by omega)]; omega
  have q8 := ((stP_c b e).2.2.2).trans P4
  obtain ⟨R1, Z1, N1, -⟩ := stP_r b (e + 1)
  have I1 := (stP_c b (e + 1)).2.2.1
  have n61 : j < tN (stP b (e + 1)) 61 := by rw [N1]; exact hj
  have n64' : j < tN (stP b (e + 1)) 64 := by rw [N1]; omega
  have k6' : tR (stP b (e + 1)) 61 j 6 = some (64, j) := (R1 ..).trans k6
  have kz' : tZ (stP b (e + 1)) 64 j = 3 := (Z1 ..).trans kz
  have v0 : tI (stP b (e + 1)) 64 j 0 = tI b 64 j 0 := I1 _ _ _ (by decide)
  have v1 : tI (stP b (e + 1)) 64 j 1 = tI b 64 j 1 := I1 _ _ _ (by decide)
  have v2 : tI (stP b (e + 1)) 64 j 2 = tI b 64 j 2 := I1 _ _ _ (by decide)
  have v14 : tI (stP b (e + 1)) 61 j 14 = tI b 61 j 14 := I1 _ _ _ (by decide)
  have f1 : ∀ z, Ex 247 [aR (some (93, 0)), aI (Int32.ofNat q), aI 1] (enc 2 (stP b e) z) = some (.inl (some (aI (tI b 87 0 (10 * q + 1)))), enc 2 (stP b (e + 1)) z) := fun z => y247P h hq (w := 1) (by omega)
  have f4 : ∀ z, Ex 247 [aR (some (93, 0)), aI (Int32.ofNat q), aI 4] (enc 2 (stP b (e + 1)) z) = some (.inl (some (aI (tI b 87 0 (10 * q + 4)))), enc 2 (stP b (e + 1)) z) := fun z => y247S h hq (w := 4) (by omega)
  have f3 : ∀ z, Ex 247 [aR (some (93, 0)), aI (Int32.ofNat q), aI 3] (enc 2 (stP b (e + 1)) z) = some (.inl (some (aI (tI b 87 0 (10 * q + 3)))), enc 2 (stP b (e + 1)) z) := fun z => y247S h hq (w := 3) (by omega)
  have f2 : ∀ z, Ex 247 [aR (some (93, 0)), aI (Int32.ofNat q), aI 2] (enc 2 (stP b (e + 1)) z) = some (.inl (some (aI (tI b 87 0 (10 * q + 2)))), enc 2 (stP b (e + 1)) z) := fun z => y247S h hq (w := 2) (by omega)
  have t0 : (0 : Int32).toNatClampNeg = 0 := rfl
  have t1 : (1 : Int32).toNatClampNeg = 1 := rfl
  have t2 : (2 : Int32).toNatClampNeg = 2 := rfl
  unfold m181
  refine ⟨fun ⟨e1, e2, e3, e4⟩ => ?_, fun hn => ?_⟩
  · rw [lf_181_2]
    simp (config := {decide := true}) only [gfI_enc, gfL_enc, gfR_enc, pfI_enc, pfL_enc, pfR_enc, Option.bind_some, cI_v, cL_v, cF_v, cD_v, cR_v, cV_v, cI_x, cL_x, cR_x, cV_x, gz_0, gz_1, acc_enc, tI_sI, tL_sI, tR_sI, tN_sI, tZ_sI, tC_sI, tc_sI, tz_sI, tI_sL, tL_sL, tR_sL, tN_sL, tZ_sL, tC_sL, tc_sL, tz_sL, tI_sR, tL_sR, tR_sR, tN_sR, tZ_sR, tC_sR, tc_sR, tz_sR, tI_sZ, tL_sZ, tR_sZ, tN_sZ, tZ_sZ, tC_sZ, tc_sZ, tz_sZ, tI_sC, tL_sC, tR_sC, tN_sC, tZ_sC, tC_sC, tc_sC, tz_sC, tI_aC, tL_aC, tR_aC, tN_aC, tZ_aC, tC_aC, tc_aC, tz_aC, tI_rmL, tL_rmL, tR_rmL, tN_rmL, tZ_rmL, tC_rmL, tc_rmL, tz_rmL, tI_mk, tL_mk, tR_mk, tN_mk, tZ_mk, tC_mk, tc_mk, tz_mk, tI_pushL, tL_pushL, tR_pushL, tN_pushL, tZ_pushL, tC_pushL, tc_pushL, tz_pushL, tI_pushB, tL_pushB, tR_pushB, tN_pushB, tZ_pushB, tC_pushB, tc_pushB, tz_pushB, tI_cpL, tL_cpL, tR_cpL, tN_cpL, tZ_cpL, tC_cpL, tc_cpL, tz_cpL, eq_self, true_and, and_true, false_and, and_false, if_true, if_false, reduceIte, ite_true, ite_false, not_true_eq_false, not_false_eq_true, frN_94 hF, frR_94_0 hF, frN_93 hF, q8, g3, f1, n61, k6', gaI_enc, n64', kz', t0, t1, t2, v0, v1, v2, v14, e1, frN_94 hF1, frR_94_0 hF1, f4, e2, f3, e3, f2, e4]
  · rw [lf_181_2]
    by_cases e1 : tI b 87 0 (10 * q + 1) = tI b 64 j 0
    · by_cases e2 : tI b 87 0 (10 * q + 4) = tI b 64 j 1
      · by_cases e3 : tI b 87 0 (10 * q + 3) = tI b 64 j 2
        · have e4 : ¬ tI b 87 0 (10 * q + 2) = tI b 61 j 14 := fun w => hn ⟨e1, e2, e3, w⟩
          simp (config := {decide := true}) only [gfI_enc, gfL_enc, gfR_enc, pfI_enc, pfL_enc, pfR_enc, Option.bind_some, cI_v, cL_v, cF_v, cD_v, cR_v, cV_v, cI_x, cL_x, cR_x, cV_x, gz_0, gz_1, acc_enc, tI_sI, tL_sI, tR_sI, tN_sI, tZ_sI, tC_sI, tc_sI, tz_sI, tI_sL, tL_sL, tR_sL, tN_sL, tZ_sL, tC_sL, tc_sL, tz_sL, tI_sR, tL_sR, tR_sR, tN_sR, tZ_sR, tC_sR, tc_sR, tz_sR, tI_sZ, tL_sZ, tR_sZ, tN_sZ, tZ_sZ, tC_sZ, tc_sZ, tz_sZ, tI_sC, tL_sC, tR_sC, tN_sC, tZ_sC, tC_sC, tc_sC, tz_sC, tI_aC, tL_aC, tR_aC, tN_aC, tZ_aC, tC_aC, tc_aC, tz_aC, tI_rmL, tL_rmL, tR_rmL, tN_rmL, tZ_rmL, tC_rmL, tc_rmL, tz_rmL, tI_mk, tL_mk, tR_mk, tN_mk, tZ_mk, tC_mk, tc_mk, tz_mk, tI_pushL, tL_pushL, tR_pushL, tN_pushL, tZ_pushL, tC_pushL, tc_pushL, tz_pushL, tI_pushB, tL_pushB, tR_pushB, tN_pushB, tZ_pushB, tC_pushB, tc_pushB, tz_pushB, tI_cpL, tL_cpL, tR_cpL, tN_cpL, tZ_cpL, tC_cpL, tc_cpL, tz_cpL, eq_self, true_and, and_true, false_and, and_false, if_true, if_false, reduceIte, ite_true, ite_false, not_true_eq_false, not_false_eq_true, frN_94 hF, frR_94_0 hF, frN_93 hF, q8, g3, f1, n61, k6', gaI_enc, n64', kz', t0, t1, t2, v0, v1, v2, v14, e1, frN_94 hF1, frR_94_0 hF1, f4, e2, f3, e3, f2, e4, o_s]
        · simp (config := {decide := true}) only [gfI_enc, gfL_enc, gfR_enc, pfI_enc, pfL_enc, pfR_enc, Option.bind_some, cI_v, cL_v, cF_v, cD_v, cR_v, cV_v, cI_x, cL_x, cR_x, cV_x, gz_0, gz_1, acc_enc, tI_sI, tL_sI, tR_sI, tN_sI, tZ_sI, tC_sI, tc_sI, tz_sI, tI_sL, tL_sL, tR_sL, tN_sL, tZ_sL, tC_sL, tc_sL, tz_sL, tI_sR, tL_sR, tR_sR, tN_sR, tZ_sR, tC_sR, tc_sR, tz_sR, tI_sZ, tL_sZ, tR_sZ, tN_sZ, tZ_sZ, tC_sZ, tc_sZ, tz_sZ, tI_sC, tL_sC, tR_sC, tN_sC, tZ_sC, tC_sC, tc_sC, tz_sC, tI_aC, tL_aC, tR_aC, tN_aC, tZ_aC, tC_aC, tc_aC, tz_aC, tI_rmL, tL_rmL, tR_rmL, tN_rmL, tZ_rmL, tC_rmL, tc_rmL, tz_rmL, tI_mk, tL_mk, tR_mk, tN_mk, tZ_mk, tC_mk, tc_mk, tz_mk, tI_pushL, tL_pushL, tR_pushL, tN_pushL, tZ_pushL, tC_pushL, tc_pushL, tz_pushL, tI_pushB, tL_pushB, tR_pushB, tN_pushB, tZ_pushB, tC_pushB, tc_pushB, tz_pushB, tI_cpL, tL_cpL, tR_cpL, tN_cpL, tZ_cpL, tC_cpL, tc_cpL, tz_cpL, eq_self, true_and, and_true, false_and, and_false, if_true, if_false, reduceIte, ite_true, ite_false, not_true_eq_false, not_false_eq_true, frN_94 hF, frR_94_0 hF, frN_93 hF, q8, g3, f1, n61, k6', gaI_enc, n64', kz', t0, t1, t2, v0, v1, v2, v14, e1, frN_94 hF1, frR_94_0 hF1, f4, e2, f3, e3, o_s]
      · simp (config := {decide := true}) only [gfI_enc, gfL_enc, gfR_enc, pfI_enc, pfL_enc, pfR_enc, Option.bind_some, cI_v, cL_v, cF_v, cD_v, cR_v, cV_v, cI_x, cL_x, cR_x, cV_x, gz_0, gz_1, acc_enc, tI_sI, tL_sI, tR_sI, tN_sI, tZ_sI, tC_sI, tc_sI, tz_sI, tI_sL, tL_sL, tR_sL, tN_sL, tZ_sL, tC_sL, tc_sL, tz_sL, tI_sR, tL_sR, tR_sR, tN_sR, tZ_sR, tC_sR, tc_sR, tz_sR, tI_sZ, tL_sZ, tR_sZ, tN_sZ, tZ_sZ, tC_sZ, tc_sZ, tz_sZ, tI_sC, tL_sC, tR_sC, tN_sC, tZ_sC, tC_sC, tc_sC, tz_sC, tI_aC, tL_aC, tR_aC, tN_aC, tZ_aC, tC_aC, tc_aC, tz_aC, tI_rmL, tL_rmL, tR_rmL, tN_rmL, tZ_rmL, tC_rmL, tc_rmL, tz_rmL, tI_mk, tL_mk, tR_mk, tN_mk, tZ_mk, tC_mk, tc_mk, tz_mk, tI_pushL, tL_pushL, tR_pushL, tN_pushL, tZ_pushL, tC_pushL, tc_pushL, tz_pushL, tI_pushB, tL_pushB, tR_pushB, tN_pushB, tZ_pushB, tC_pushB, tc_pushB, tz_pushB, tI_cpL, tL_cpL, tR_cpL, tN_cpL, tZ_cpL, tC_cpL, tc_cpL, tz_cpL, eq_self, true_and, and_true, false_and, and_false, if_true, if_false, reduceIte, ite_true, ite_false, not_true_eq_false, not_false_eq_true, frN_94 hF, frR_94_0 hF, frN_93 hF, q8, g3, f1, n61, k6', gaI_enc, n64', kz', t0, t1, t2, v0, v1, v2, v14, e1, frN_94 hF1, frR_94_0 hF1, f4, e2, o_s]
    · simp (config := {decide := true}) only [gfI_enc, gfL_enc, gfR_enc, pfI_enc, pfL_enc, pfR_enc, Option.bind_some, cI_v, cL_v, cF_v, cD_v, cR_v, cV_v, cI_x, cL_x, cR_x, cV_x, gz_0, gz_1, acc_enc, tI_sI, tL_sI, tR_sI, tN_sI, tZ_sI, tC_sI, tc_sI, tz_sI, tI_sL, tL_sL, tR_sL, tN_sL, tZ_sL, tC_sL, tc_sL, tz_sL, tI_sR, tL_sR, tR_sR, tN_sR, tZ_sR, tC_sR, tc_sR, tz_sR, tI_sZ, tL_sZ, tR_sZ, tN_sZ, tZ_sZ, tC_sZ, tc_sZ, tz_sZ, tI_sC, tL_sC, tR_sC, tN_sC, tZ_sC, tC_sC, tc_sC, tz_sC, tI_aC, tL_aC, tR_aC, tN_aC, tZ_aC, tC_aC, tc_aC, tz_aC, tI_rmL, tL_rmL, tR_rmL, tN_rmL, tZ_rmL, tC_rmL, tc_rmL, tz_rmL, tI_mk, tL_mk, tR_mk, tN_mk, tZ_mk, tC_mk, tc_mk, tz_mk, tI_pushL, tL_pushL, tR_pushL, tN_pushL, tZ_pushL, tC_pushL, tc_pushL, tz_pushL, tI_pushB, tL_pushB, tR_pushB, tN_pushB, tZ_pushB, tC_pushB, tc_pushB, tz_pushB, tI_cpL, tL_cpL, tR_cpL, tN_cpL, tZ_cpL, tC_cpL, tc_cpL, tz_cpL, eq_self, true_and, and_true, false_and, and_false, if_true, if_false, reduceIte, ite_true, ite_false, not_true_eq_false, not_false_eq_true, frN_94 hF, frR_94_0 hF, frN_93 hF, q8, g3, f1, n61, k6', gaI_enc, n64', kz', t0, t1, t2, v0, v1, v2, v14, e1, o_s]
theorem y180 {a b : TS} {C : Nat} (h : Core a b C) (e : Nat) : ∃ e', ∀ z, Ex 180 [aR (some (94, 0))] (enc 2 (stP b e) z) = some (.inl (some (aI 1)), enc 2 (stP b e') z) := by
  have hR := h.1.1
  obtain ⟨P1, -⟩ := r_P' hR
  have n10 : ¬ (1 : Int32) = 0 := by decide
  have hK : RK a b := hR.2.2.2.2.2.2.2.2.2.2.2.2.2.1
  obtain ⟨-, ⟨K2, -⟩, -⟩ := hK
  have loop : ∀ k n e, n + k = 1000 → ∃ e', ∀ z, Ru 180 2 [(0, aR (some (94, 0))), (1, aI (Int32.ofNat n))] [] (enc 2 (stP b e) z) = some (.inl (some (aI 1)), enc 2 (stP b e') z) := by
    intro k
    induction k with
    | zero =>
      intro n e hn
      have : n = 1000 := by omega
      subst this
      have q : (1000 : Int32) ≤ Int32.ofNat 1000 := by decide
      exact ⟨e, fun z => by rw [lf_180_2, if_pos q]⟩
    | succ k ih =>
      intro n e hk
      have hn : n < 1000 := by omega
      have hF := r_FR (stP_core h e).1.1
      have q : ¬ (1000 : Int32) ≤ Int32.ofNat n := by
        rw [show (1000 : Int32) = Int32.ofNat 1000 from rfl, o_le (by omega) (by omega)]
        omega
      have g1 : (Int32.ofNat n).toNatClampNeg = n := o_ix (by omega)
      have g2 : ¬ Int32.ofNat n < 0 := o_lt0 (by omega)
      obtain ⟨R0', Z0, N0, -⟩ := stP_r b e
      by_cases e8 : hI b n 8 = 0
      · obtain ⟨e', hi⟩ := ih (n + 1) e (by omega)
        refine ⟨e', fun z => ?_⟩
        rw [lf_180_2]
        rcases K2 n hn with hno | ⟨j, j1, hj⟩
        · have hno' := (R0' 53 0 n).trans hno
          simp (config := {decide := true}) only [gfI_enc, gfL_enc, gfR_enc, pfI_enc, pfL_enc, pfR_enc, Option.bind_some, cI_v, cL_v, cF_v, cD_v, cR_v, cV_v, cI_x, cL_x, cR_x, cV_x, gz_0, gz_1, acc_enc, tI_sI, tL_sI, tR_sI, tN_sI, tZ_sI, tC_sI, tc_sI, tz_sI, tI_sL, tL_sL, tR_sL, tN_sL, tZ_sL, tC_sL, tc_sL, tz_sL, tI_sR, tL_sR, tR_sR, tN_sR, tZ_sR, tC_sR, tc_sR, tz_sR, tI_sZ, tL_sZ, tR_sZ, tN_sZ, tZ_sZ, tC_sZ, tc_sZ, tz_sZ, tI_sC, tL_sC, tR_sC, tN_sC, tZ_sC, tC_sC, tc_sC, tz_sC, tI_aC, tL_aC, tR_aC, tN_aC, tZ_aC, tC_aC, tc_aC, tz_aC, tI_rmL, tL_rmL, tR_rmL, tN_rmL, tZ_rmL, tC_rmL, tc_rmL, tz_rmL, tI_mk, tL_mk, tR_mk, tN_mk, tZ_mk, tC_mk, tc_mk, tz_mk, tI_pushL, tL_pushL, tR_pushL, tN_pushL, tZ_pushL, tC_pushL, tc_pushL, tz_pushL, tI_pushB, tL_pushB, tR_pushB, tN_pushB, tZ_pushB, tC_pushB, tc_pushB, tz_pushB, tI_cpL, tL_cpL, tR_cpL, tN_cpL, tZ_cpL, tC_cpL, tc_cpL, tz_cpL, eq_self, true_and, and_true, false_and, and_false, if_true, if_false, reduceIte, ite_true, ite_false, not_true_eq_false, not_false_eq_true, q, frN_94 hF, frR_94_2 hF, frN_53 hF, frZ_53 hF, gaR_enc, g1, g2, hn, hno', o_s]
          exact hi z
        · have hj' := (R0' 53 0 n).trans hj
          have j1' : j < tN (stP b e) 61 := by rw [N0]; exact j1
          have v8 : tI (stP b e) 61 j 8 = 0 := by rw [(stP_c b e).2.2.1 _ _ _ (by decide), ← hI_some hj]; exact e8
          simp (config := {decide := true}) only [gfI_enc, gfL_enc, gfR_enc, pfI_enc, pfL_enc, pfR_enc, Option.bind_some, cI_v, cL_v, cF_v, cD_v, cR_v, cV_v, cI_x, cL_x, cR_x, cV_x, gz_0, gz_1, acc_enc, tI_sI, tL_sI, tR_sI, tN_sI, tZ_sI, tC_sI, tc_sI, tz_sI, tI_sL, tL_sL, tR_sL, tN_sL, tZ_sL, tC_sL, tc_sL, tz_sL, tI_sR, tL_sR, tR_sR, tN_sR, tZ_sR, tC_sR, tc_sR, tz_sR, tI_sZ, tL_sZ, tR_sZ, tN_sZ, tZ_sZ, tC_sZ, tc_sZ, tz_sZ, tI_sC, tL_sC, tR_sC, tN_sC, tZ_sC, tC_sC, tc_sC, tz_sC, tI_aC, tL_aC, tR_aC, tN_aC, tZ_aC, tC_aC, tc_aC, tz_aC, tI_rmL, tL_rmL, tR_rmL, tN_rmL, tZ_rmL, tC_rmL, tc_rmL, tz_rmL, tI_mk, tL_mk, tR_mk, tN_mk, tZ_mk, tC_mk, tc_mk, tz_mk, tI_pushL, tL_pushL, tR_pushL, tN_pushL, tZ_pushL, tC_pushL, tc_pushL, tz_pushL, tI_pushB, tL_pushB, tR_pushB, tN_pushB, tZ_pushB, tC_pushB, tc_pushB, tz_pushB, tI_cpL, tL_cpL, tR_cpL, tN_cpL, tZ_cpL, tC_cpL, tc_cpL, tz_cpL, eq_self, true_and, and_true, false_and, and_false, if_true, if_false, reduceIte, ite_true, ite_false, not_true_eq_false, not_false_eq_true, q, frN_94 hF, frR_94_2 hF, frN_53 hF, frZ_53 hF, gaR_enc, g1, g2, hn, hj', reduceCtorEq, j1', v8, o_s]
          exact hi z
      · obtain ⟨-, -, -, p, j, -, -, -, -, -, -, p1, -, hj, j1, ⟨m1, m2, m3, m4⟩, m8⟩ := pst_at hR hn e8
        have l181 : ∀ k q e, q + k = p → ∃ e', ∀ z, Ru 181 2 [(0, aR (some (94, 0))), (1, aR (some (61, j))), (2, aI (Int32.ofNat q))] [] (enc 2 (stP b e) z) = some (.inl (some (aI 1)), enc 2 (stP b e') z) := by
          intro k
          induction k with
          | zero =>
            intro q e hq
            have : q = p := by omega
            subst this
            exact ⟨e + 1, fun z => (s181 h j1 p1).1 ⟨m1.symm, m2.symm, m3.symm, m4.symm⟩⟩
          | succ k ih' =>
            intro q e hq
            by_cases w : m181 b j q
            · exact ⟨e + 1, fun z => (s181 h j1 (by omega)).1 w⟩
            · obtain ⟨e', hi⟩ := ih' (q + 1) (e + 1) (by omega)
              exact ⟨e', fun z => ((s181 h j1 (by omega)).2 w).trans (hi z)⟩
        obtain ⟨e1, f181⟩ := l181 p 0 e (by omega)
        obtain ⟨e', hi⟩ := ih (n + 1) e1 (by omega)
        refine ⟨e', fun z => ?_⟩
        have g181 : ∀ z, Ex 181 [aR (some (94, 0)), aR (some (61, j))] (enc 2 (stP b e) z) = some (.inl (some (aI 1)), enc 2 (stP b e1) z) := fun z => by
          refine (X_in (by decide +kernel) (frN_94 hF) rfl).trans ((lf_181_0 ..).trans ?_)
          exact f181 z
        have hj' := (R0' 53 0 n).trans hj
        have j1' : j < tN (stP b e) 61 := by rw [N0]; exact j1
        have v8 : ¬ tI (stP b e) 61 j 8 = 0 := by rw [(stP_c b e).2.2.1 _ _ _ (by decide)]; exact m8
        rw [lf_180_2]
        simp (config := {decide := true}) only [gfI_enc, gfL_enc, gfR_enc, pfI_enc, pfL_enc, pfR_enc, Option.bind_some, cI_v, cL_v, cF_v, cD_v, cR_v, cV_v, cI_x, cL_x, cR_x, cV_x, gz_0, gz_1, acc_enc, tI_sI, tL_sI, tR_sI, tN_sI, tZ_sI, tC_sI, tc_sI, tz_sI, tI_sL, tL_sL, tR_sL, tN_sL, tZ_sL, tC_sL, tc_sL, tz_sL, tI_sR, tL_sR, tR_sR, tN_sR, tZ_sR, tC_sR, tc_sR, tz_sR, tI_sZ, tL_sZ, tR_sZ, tN_sZ, tZ_sZ, tC_sZ, tc_sZ, tz_sZ, tI_sC, tL_sC, tR_sC, tN_sC, tZ_sC, tC_sC, tc_sC, tz_sC, tI_aC, tL_aC, tR_aC, tN_aC, tZ_aC, tC_aC, tc_aC, tz_aC, tI_rmL, tL_rmL, tR_rmL, tN_rmL, tZ_rmL, tC_rmL, tc_rmL, tz_rmL, tI_mk, tL_mk, tR_mk, tN_mk, tZ_mk, tC_mk, tc_mk, tz_mk, tI_pushL, tL_pushL, tR_pushL, tN_pushL, tZ_pushL, tC_pushL, tc_pushL, tz_pushL, tI_pushB, tL_pushB, tR_pushB, tN_pushB, tZ_pushB, tC_pushB, tc_pushB, tz_pushB, tI_cpL, tL_cpL, tR_cpL, tN_cpL, tZ_cpL, tC_cpL, tc_cpL, tz_cpL, eq_self, true_and, and_true, false_and, and_false, if_true, if_false, reduceIte, ite_true, ite_false, not_true_eq_false, not_false_eq_true, q, frN_94 hF, frR_94_2 hF, frN_53 hF, frZ_53 hF, gaR_enc, g1, g2, hn, hj', reduceCtorEq, j1', v8, g181, n10, o_s]
        exact hi z
  obtain ⟨e', he⟩ := loop 1000 0 e (by omega)
  refine ⟨e', fun z => ?_⟩
  refine (X_in (by decide +kernel) (frN_94 (r_FR (stP_core h e).1.1)) rfl).trans ((lf_180_0 ..).trans ?_)
  exact he z
