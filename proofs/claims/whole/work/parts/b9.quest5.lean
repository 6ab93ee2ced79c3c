/-! ===== questions that run over all payments ===== -/
theorem stP_ss (b : TS) (j : Nat) : stP b (j + 1 + 1) = stP b (j + 1) := by
  unfold stP
  rw [if_neg (Nat.succ_ne_zero _), if_neg (Nat.succ_ne_zero _)]
theorem y247S {a b : TS} {z : Hp} {C p w j : Nat} (h : Core a b C) (hp : p < tZ a 29 0) (hw : w ≤ 8) : Ex 247 [aR (some (93, 0)), aI (Int32.ofNat p), aI (Int32.ofNat w)] (enc 2 (stP b (j + 1)) z) = some (.inl (some (aI (tI b 87 0 (10 * p + w)))), enc 2 (stP b (j + 1)) z) := by
  rw [y247P h hp hw, stP_ss]
/-- is a payment paid or granted, in the reference -/
theorem y287P {a b : TS} {z : Hp} {C p j : Nat} (h : Core a b C) (hp : p < tZ a 29 0) : Ex 287 [aR (some (97, 0)), aI (Int32.ofNat p)] (enc 2 (stP b j) z) = some (.inl (some (aI (if tI b 87 0 (10 * p) = 0 ∨ tI b 87 0 (10 * p) = 2 then 1 else 0))), enc 2 (stP b (j + 1)) z) := by
  have hF := r_FR (stP_core h j).1.1
  have f247 : ∀ z, Ex 247 [aR (some (93, 0)), aI (Int32.ofNat p), aI 0] (enc 2 (stP b j) z) = some (.inl (some (aI (tI b 87 0 (10 * p)))), enc 2 (stP b (j + 1)) z) := fun z => y247P h hp (w := 0) (by omega)
  refine (X_in (by decide +kernel) (frN_97 hF) rfl).trans ((lf_287_0 ..).trans ?_)
  by_cases e0 : tI b 87 0 (10 * p) = 0
  · simp (config := {decide := true}) only [gfI_enc, gfL_enc, gfR_enc, pfI_enc, pfL_enc, pfR_enc, Option.bind_some, cI_v, cL_v, cF_v, cD_v, cR_v, cV_v, cI_x, cL_x, cR_x, cV_x, gz_0, gz_1, acc_enc, tI_sI, tL_sI, tR_sI, tN_sI, tZ_sI, tC_sI, tc_sI, tz_sI, tI_sL, tL_sL, tR_sL, tN_sL, tZ_sL, tC_sL, tc_sL, tz_sL, tI_sR, tL_sR, tR_sR, tN_sR, tZ_sR, tC_sR, tc_sR, tz_sR, tI_sZ, tL_sZ, tR_sZ, tN_sZ, tZ_sZ, tC_sZ, tc_sZ, tz_sZ, tI_sC, tL_sC, tR_sC, tN_sC, tZ_sC, tC_sC, tc_sC, tz_sC, tI_aC, tL_aC, tR_aC, tN_aC, tZ_aC, tC_aC, tc_aC, tz_aC, tI_rmL, tL_rmL, tR_rmL, tN_rmL, tZ_rmL, tC_rmL, tc_rmL, tz_rmL, tI_mk, tL_mk, tR_mk, tN_mk, tZ_mk, tC_mk, tc_mk, tz_mk, tI_pushL, tL_pushL, tR_pushL, tN_pushL, tZ_pushL, tC_pushL, tc_pushL, tz_pushL, tI_pushB, tL_pushB, tR_pushB, tN_pushB, tZ_pushB, tC_pushB, tc_pushB, tz_pushB, tI_cpL, tL_cpL, tR_cpL, tN_cpL, tZ_cpL, tC_cpL, tc_cpL, tz_cpL, eq_self, true_and, and_true, false_and, and_false, if_true, if_false, reduceIte, ite_true, ite_false, not_true_eq_false, not_false_eq_true, frN_97 hF, frR_97_2 hF, f247, e0, true_or]
  · by_cases e2 : tI b 87 0 (10 * p) = 2
    · simp (config := {decide := true}) only [gfI_enc, gfL_enc, gfR_enc, pfI_enc, pfL_enc, pfR_enc, Option.bind_some, cI_v, cL_v, cF_v, cD_v, cR_v, cV_v, cI_x, cL_x, cR_x, cV_x, gz_0, gz_1, acc_enc, tI_sI, tL_sI, tR_sI, tN_sI, tZ_sI, tC_sI, tc_sI, tz_sI, tI_sL, tL_sL, tR_sL, tN_sL, tZ_sL, tC_sL, tc_sL, tz_sL, tI_sR, tL_sR, tR_sR, tN_sR, tZ_sR, tC_sR, tc_sR, tz_sR, tI_sZ, tL_sZ, tR_sZ, tN_sZ, tZ_sZ, tC_sZ, tc_sZ, tz_sZ, tI_sC, tL_sC, tR_sC, tN_sC, tZ_sC, tC_sC, tc_sC, tz_sC, tI_aC, tL_aC, tR_aC, tN_aC, tZ_aC, tC_aC, tc_aC, tz_aC, tI_rmL, tL_rmL, tR_rmL, tN_rmL, tZ_rmL, tC_rmL, tc_rmL, tz_rmL, tI_mk, tL_mk, tR_mk, tN_mk, tZ_mk, tC_mk, tc_mk, tz_mk, tI_pushL, tL_pushL, tR_pushL, tN_pushL, tZ_pushL, tC_pushL, tc_pushL, tz_pushL, tI_pushB, tL_pushB, tR_pushB, tN_pushB, tZ_pushB, tC_pushB, tc_pushB, tz_pushB, tI_cpL, tL_cpL, tR_cpL, tN_cpL, tZ_cpL, tC_cpL, tc_cpL, tz_cpL, eq_self, true_and, and_true, false_and, and_false, if_true, if_false, reduceIte, ite_true, ite_false, not_true_eq_false, not_false_eq_true, frN_97 hF, frR_97_2 hF, f247, e0, e2, or_true]
    · simp (config := {decide := true}) only [gfI_enc, gfL_enc, gfR_enc, pfI_enc, pfL_enc, pfR_enc, Option.bind_some, cI_v, cL_v, cF_v, cD_v, cR_v, cV_v, cI_x, cL_x, cR_x, cV_x, gz_0, gz_1, acc_enc, tI_sI, tL_sI, tR_sI, tN_sI, tZ_sI, tC_sI, tc_sI, tz_sI, tI_sL, tL_sL, tR_sL, tN_sL, tZ_sL, tC_sL, tc_sL, tz_sL, tI_sR, tL_sR, tR_sR, tN_sR, tZ_sR, tC_sR, tc_sR, tz_sR, tI_sZ, tL_sZ, tR_sZ, tN_sZ, tZ_sZ, tC_sZ, tc_sZ, tz_sZ, tI_sC, tL_sC, tR_sC, tN_sC, tZ_sC, tC_sC, tc_sC, tz_sC, tI_aC, tL_aC, tR_aC, tN_aC, tZ_aC, tC_aC, tc_aC, tz_aC, tI_rmL, tL_rmL, tR_rmL, tN_rmL, tZ_rmL, tC_rmL, tc_rmL, tz_rmL, tI_mk, tL_mk, tR_mk, tN_mk, tZ_mk, tC_mk, tc_mk, tz_mk, tI_pushL, tL_pushL, tR_pushL, tN_pushL, tZ_pushL, tC_pushL, tc_pushL, tz_pushL, tI_pushB, tL_pushB, tR_pushB, tN_pushB, tZ_pushB, tC_pushB, tc_pushB, tz_pushB, tI_cpL, tL_cpL, tR_cpL, tN_cpL, tZ_cpL, tC_cpL, tc_cpL, tz_cpL, eq_self, true_and, and_true, false_and, and_false, if_true, if_false, reduceIte, ite_true, ite_false, not_true_eq_false, not_false_eq_true, frN_97 hF, frR_97_2 hF, f247, e0, e2, or_self]
/-- a payment, as the class's loops read it -/
theorem pay_at {a b : TS} (hR : R0 a b) {p : Nat} (hp : p < tZ a 29 0) : tR a 29 0 p = some (38, p) ∧ p < tN a 38 ∧ tZ a 29 0 ≤ 200 ∧ tI a 38 p 7 = tI b 87 0 (10 * p) ∧ tI a 38 p 3 = tI b 87 0 (10 * p + 3) ∧ tI a 38 p 4 = tI b 87 0 (10 * p + 4) ∧ ∃ s, s < tZ a 27 0 ∧ s < tN a 36 ∧ tR a 38 p 2 = some (36, s) ∧ tI a 36 s 0 = Int32.ofNat s ∧ tI b 87 0 (10 * p + 2) = Int32.ofNat s := by
  obtain ⟨P1, -, P3, P4, P5, -⟩ := r_P' hR
  obtain ⟨r1, -, -, ⟨s, s1, s2, s3⟩, ⟨d3, -⟩, ⟨d4, -⟩, -⟩ := P5 p hp
  obtain ⟨-, d0, -⟩ := (r_Q hR).1 p hp
  obtain ⟨-, -, ⟨S2, -⟩, -, S5⟩ := r_S hR
  exact ⟨r1, by omega, P1, d0, d3, d4, s, s1, by omega, s2, (S5 s s1).2.1, s3⟩
/-- the sum and the number of the paid and granted payments of a shop, of the first j -/
def mSC (b : TS) (s : Nat) : Nat → Int64 × Nat
  | 0 => (0, 0)
  | j + 1 => if tI b 87 0 (10 * j + 2) = Int32.ofNat s then (if tI b 87 0 (10 * j) = 0 ∨ tI b 87 0 (10 * j) = 2 then ((mSC b s j).1 + (tI b 87 0 (10 * j + 3)).toInt64, (mSC b s j).2 + 1) else mSC b s j) else mSC b s j
theorem mSC_le (b : TS) (s : Nat) : ∀ j, (mSC b s j).2 ≤ j
  | 0 => Nat.le_refl _
  | j + 1 => by
    have := mSC_le b s j
    unfold mSC
    split
    · split
      · exact Nat.succ_le_succ this
      · omega
    · omega
noncomputable def mVal (b : TS) (s j : Nat) : UInt64 := if (mSC b s j).2 = 0 then 0 else FP.ddiv (FP.l2d (mSC b s j).1) (FP.i2d (Int32.ofNat (mSC b s j).2))
theorem x132 {a b : TS} {z : Hp} {C s : Nat} (h : Core a b C) (hs : s < tZ a 27 0) : Ex 132 [aR (some (96, 0)), aI (Int32.ofNat s)] (enc 1 a z) = some (.inl (some (aD (mVal b s (tZ a 29 0)))), enc 1 a z) := by
  have hR := h.1.1
  have hF := r_FC hR
  have P1 := (r_P' hR).1
  have S1 := (r_S hR).1
  have loop : ∀ k j, j + k = tZ a 29 0 → Ru 132 22 [(0, aR (some (96, 0))), (1, aI (Int32.ofNat s)), (2, aL (mSC b s j).1), (4, aI (Int32.ofNat (mSC b s j).2)), (5, aI (Int32.ofNat j))] [] (enc 1 a z) = some (.inl (some (aD (mVal b s (tZ a 29 0)))), enc 1 a z) := by
    intro k
    induction k with
    | zero =>
      intro j hj
      have e : j = tZ a 29 0 := by omega
      subst e
      have q : Int32.ofNat (tZ a 29 0) ≤ Int32.ofNat (tZ a 29 0) := Int32.le_refl _
      have hle := mSC_le b s (tZ a 29 0)
      rw [lf_132_22]
      unfold mVal
      by_cases c0 : (mSC b s (tZ a 29 0)).2 = 0
      · have c1 : Int32.ofNat (mSC b s (tZ a 29 0)).2 = 0 := by rw [c0]; rfl
        simp (config := {decide := true}) only [gfI_enc, gfL_enc, gfR_enc, pfI_enc, pfL_enc, pfR_enc, Option.bind_some, cI_v, cL_v, cF_v, cD_v, cR_v, cV_v, cI_x, cL_x, cR_x, cV_x, gz_0, gz_1, acc_enc, tI_sI, tL_sI, tR_sI, tN_sI, tZ_sI, tC_sI, tc_sI, tz_sI, tI_sL, tL_sL, tR_sL, tN_sL, tZ_sL, tC_sL, tc_sL, tz_sL, tI_sR, tL_sR, tR_sR, tN_sR, tZ_sR, tC_sR, tc_sR, tz_sR, tI_sZ, tL_sZ, tR_sZ, tN_sZ, tZ_sZ, tC_sZ, tc_sZ, tz_sZ, tI_sC, tL_sC, tR_sC, tN_sC, tZ_sC, tC_sC, tc_sC, tz_sC, tI_aC, tL_aC, tR_aC, tN_aC, tZ_aC, tC_aC, tc_aC, tz_aC, tI_rmL, tL_rmL, tR_rmL, tN_rmL, tZ_rmL, tC_rmL, tc_rmL, tz_rmL, tI_mk, tL_mk, tR_mk, tN_mk, tZ_mk, tC_mk, tc_mk, tz_mk, tI_pushL, tL_pushL, tR_pushL, tN_pushL, tZ_pushL, tC_pushL, tc_pushL, tz_pushL, tI_pushB, tL_pushB, tR_pushB, tN_pushB, tZ_pushB, tC_pushB, tc_pushB, tz_pushB, tI_cpL, tL_cpL, tR_cpL, tN_cpL, tZ_cpL, tC_cpL, tc_cpL, tz_cpL, eq_self, true_and, and_true, false_and, and_false, if_true, if_false, reduceIte, ite_true, ite_false, not_true_eq_false, not_false_eq_true, fcN_96 hF, fcR_96_5 hF, X405, fcN_29 hF, q, c0, c1]
      · have c1 : ¬ Int32.ofNat (mSC b s (tZ a 29 0)).2 = 0 := fun w => c0 (o_inj (by omega) (by omega) (show Int32.ofNat (mSC b s (tZ a 29 0)).2 = Int32.ofNat 0 from w))
        have c2 := fp_ddiv (mSC b s (tZ a 29 0)).1 (n := (mSC b s (tZ a 29 0)).2) (by omega) (by omega)
        simp (config := {decide := true}) only [gfI_enc, gfL_enc, gfR_enc, pfI_enc, pfL_enc, pfR_enc, Option.bind_some, cI_v, cL_v, cF_v, cD_v, cR_v, cV_v, cI_x, cL_x, cR_x, cV_x, gz_0, gz_1, acc_enc, tI_sI, tL_sI, tR_sI, tN_sI, tZ_sI, tC_sI, tc_sI, tz_sI, tI_sL, tL_sL, tR_sL, tN_sL, tZ_sL, tC_sL, tc_sL, tz_sL, tI_sR, tL_sR, tR_sR, tN_sR, tZ_sR, tC_sR, tc_sR, tz_sR, tI_sZ, tL_sZ, tR_sZ, tN_sZ, tZ_sZ, tC_sZ, tc_sZ, tz_sZ, tI_sC, tL_sC, tR_sC, tN_sC, tZ_sC, tC_sC, tc_sC, tz_sC, tI_aC, tL_aC, tR_aC, tN_aC, tZ_aC, tC_aC, tc_aC, tz_aC, tI_rmL, tL_rmL, tR_rmL, tN_rmL, tZ_rmL, tC_rmL, tc_rmL, tz_rmL, tI_mk, tL_mk, tR_mk, tN_mk, tZ_mk, tC_mk, tc_mk, tz_mk, tI_pushL, tL_pushL, tR_pushL, tN_pushL, tZ_pushL, tC_pushL, tc_pushL, tz_pushL, tI_pushB, tL_pushB, tR_pushB, tN_pushB, tZ_pushB, tC_pushB, tc_pushB, tz_pushB, tI_cpL, tL_cpL, tR_cpL, tN_cpL, tZ_cpL, tC_cpL, tc_cpL, tz_cpL, eq_self, true_and, and_true, false_and, and_false, if_true, if_false, reduceIte, ite_true, ite_false, not_true_eq_false, not_false_eq_true, fcN_96 hF, fcR_96_5 hF, X405, fcN_29 hF, q, c0, c1, c2]
    | succ k ih =>
      intro j hj
      have hjn : j < tZ a 29 0 := by omega
      have q : ¬ Int32.ofNat (tZ a 29 0) ≤ Int32.ofNat j := by rw [o_le (by omega) (by omega)]; omega
      have g1 : (Int32.ofNat j).toNatClampNeg = j := o_ix (by omega)
      have g2 : ¬ Int32.ofNat j < 0 := o_lt0 (by omega)
      obtain ⟨r1, r2, -, d7, d3, d4, s', s1, s2, s3, s4, s5⟩ := pay_at hR hjn
      have f45 := fun z => x45 (a := a) (z := z) r2
      rw [d7] at f45
      have hi := ih (j + 1) (by omega)
      rw [lf_132_22]
      unfold mSC at hi
      rw [s5] at hi
      by_cases e : Int32.ofNat s' = Int32.ofNat s
      · rw [if_pos e] at hi
        by_cases eg : tI b 87 0 (10 * j) = 0 ∨ tI b 87 0 (10 * j) = 2
        · rw [if_pos eg] at hi
          have n10 : ¬ (1 : Int32) = 0 := by decide
          simp only [if_pos eg] at f45
          simp (config := {decide := true}) only [gfI_enc, gfL_enc, gfR_enc, pfI_enc, pfL_enc, pfR_enc, Option.bind_some, cI_v, cL_v, cF_v, cD_v, cR_v, cV_v, cI_x, cL_x, cR_x, cV_x, gz_0, gz_1, acc_enc, tI_sI, tL_sI, tR_sI, tN_sI, tZ_sI, tC_sI, tc_sI, tz_sI, tI_sL, tL_sL, tR_sL, tN_sL, tZ_sL, tC_sL, tc_sL, tz_sL, tI_sR, tL_sR, tR_sR, tN_sR, tZ_sR, tC_sR, tc_sR, tz_sR, tI_sZ, tL_sZ, tR_sZ, tN_sZ, tZ_sZ, tC_sZ, tc_sZ, tz_sZ, tI_sC, tL_sC, tR_sC, tN_sC, tZ_sC, tC_sC, tc_sC, tz_sC, tI_aC, tL_aC, tR_aC, tN_aC, tZ_aC, tC_aC, tc_aC, tz_aC, tI_rmL, tL_rmL, tR_rmL, tN_rmL, tZ_rmL, tC_rmL, tc_rmL, tz_rmL, tI_mk, tL_mk, tR_mk, tN_mk, tZ_mk, tC_mk, tc_mk, tz_mk, tI_pushL, tL_pushL, tR_pushL, tN_pushL, tZ_pushL, tC_pushL, tc_pushL, tz_pushL, tI_pushB, tL_pushB, tR_pushB, tN_pushB, tZ_pushB, tC_pushB, tc_pushB, tz_pushB, tI_cpL, tL_cpL, tR_cpL, tN_cpL, tZ_cpL, tC_cpL, tc_cpL, tz_cpL, eq_self, true_and, and_true, false_and, and_false, if_true, if_false, reduceIte, ite_true, ite_false, not_true_eq_false, not_false_eq_true, fcN_96 hF, fcR_96_5 hF, X405, X402, fcN_29 hF, q, g1, g2, hjn, r1, r2, s3, s2, s4, e, f45, n10, d3, o_s]
          exact hi
        · rw [if_neg eg] at hi
          simp only [if_neg eg] at f45
          simp (config := {decide := true}) only [gfI_enc, gfL_enc, gfR_enc, pfI_enc, pfL_enc, pfR_enc, Option.bind_some, cI_v, cL_v, cF_v, cD_v, cR_v, cV_v, cI_x, cL_x, cR_x, cV_x, gz_0, gz_1, acc_enc, tI_sI, tL_sI, tR_sI, tN_sI, tZ_sI, tC_sI, tc_sI, tz_sI, tI_sL, tL_sL, tR_sL, tN_sL, tZ_sL, tC_sL, tc_sL, tz_sL, tI_sR, tL_sR, tR_sR, tN_sR, tZ_sR, tC_sR, tc_sR, tz_sR, tI_sZ, tL_sZ, tR_sZ, tN_sZ, tZ_sZ, tC_sZ, tc_sZ, tz_sZ, tI_sC, tL_sC, tR_sC, tN_sC, tZ_sC, tC_sC, tc_sC, tz_sC, tI_aC, tL_aC, tR_aC, tN_aC, tZ_aC, tC_aC, tc_aC, tz_aC, tI_rmL, tL_rmL, tR_rmL, tN_rmL, tZ_rmL, tC_rmL, tc_rmL, tz_rmL, tI_mk, tL_mk, tR_mk, tN_mk, tZ_mk, tC_mk, tc_mk, tz_mk, tI_pushL, tL_pushL, tR_pushL, tN_pushL, tZ_pushL, tC_pushL, tc_pushL, tz_pushL, tI_pushB, tL_pushB, tR_pushB, tN_pushB, tZ_pushB, tC_pushB, tc_pushB, tz_pushB, tI_cpL, tL_cpL, tR_cpL, tN_cpL, tZ_cpL, tC_cpL, tc_cpL, tz_cpL, eq_self, true_and, and_true, false_and, and_false, if_true, if_false, reduceIte, ite_true, ite_false, not_true_eq_false, not_false_eq_true, fcN_96 hF, fcR_96_5 hF, X405, X402, fcN_29 hF, q, g1, g2, hjn, r1, r2, s3, s2, s4, e, f45, o_s]
          exact hi
      · rw [if_neg e] at hi
        simp (config := {decide := true}) only [gfI_enc, gfL_enc, gfR_enc, pfI_enc, pfL_enc, pfR_enc, Option.bind_some, cI_v, cL_v, cF_v, cD_v, cR_v, cV_v, cI_x, cL_x, cR_x, cV_x, gz_0, gz_1, acc_enc, tI_sI, tL_sI, tR_sI, tN_sI, tZ_sI, tC_sI, tc_sI, tz_sI, tI_sL, tL_sL, tR_sL, tN_sL, tZ_sL, tC_sL, tc_sL, tz_sL, tI_sR, tL_sR, tR_sR, tN_sR, tZ_sR, tC_sR, tc_sR, tz_sR, tI_sZ, tL_sZ, tR_sZ, tN_sZ, tZ_sZ, tC_sZ, tc_sZ, tz_sZ, tI_sC, tL_sC, tR_sC, tN_sC, tZ_sC, tC_sC, tc_sC, tz_sC, tI_aC, tL_aC, tR_aC, tN_aC, tZ_aC, tC_aC, tc_aC, tz_aC, tI_rmL, tL_rmL, tR_rmL, tN_rmL, tZ_rmL, tC_rmL, tc_rmL, tz_rmL, tI_mk, tL_mk, tR_mk, tN_mk, tZ_mk, tC_mk, tc_mk, tz_mk, tI_pushL, tL_pushL, tR_pushL, tN_pushL, tZ_pushL, tC_pushL, tc_pushL, tz_pushL, tI_pushB, tL_pushB, tR_pushB, tN_pushB, tZ_pushB, tC_pushB, tc_pushB, tz_pushB, tI_cpL, tL_cpL, tR_cpL, tN_cpL, tZ_cpL, tC_cpL, tc_cpL, tz_cpL, eq_self, true_and, and_true, false_and, and_false, if_true, if_false, reduceIte, ite_true, ite_false, not_true_eq_false, not_false_eq_true, fcN_96 hF, fcR_96_5 hF, X405, X402, fcN_29 hF, q, g1, g2, hjn, r1, r2, s3, s2, s4, e, o_s]
        exact hi
  have x0 := x140_1 (inR_mk (k := s) (n := tZ a 27 0) hs (by omega))
  refine (X_in (by decide +kernel) (fcN_96 hF) rfl).trans ((lf_132_0 ..).trans ?_)
  simp (config := {decide := true}) only [gfI_enc, gfL_enc, gfR_enc, pfI_enc, pfL_enc, pfR_enc, Option.bind_some, cI_v, cL_v, cF_v, cD_v, cR_v, cV_v, cI_x, cL_x, cR_x, cV_x, gz_0, gz_1, acc_enc, tI_sI, tL_sI, tR_sI, tN_sI, tZ_sI, tC_sI, tc_sI, tz_sI, tI_sL, tL_sL, tR_sL, tN_sL, tZ_sL, tC_sL, tc_sL, tz_sL, tI_sR, tL_sR, tR_sR, tN_sR, tZ_sR, tC_sR, tc_sR, tz_sR, tI_sZ, tL_sZ, tR_sZ, tN_sZ, tZ_sZ, tC_sZ, tc_sZ, tz_sZ, tI_sC, tL_sC, tR_sC, tN_sC, tZ_sC, tC_sC, tc_sC, tz_sC, tI_aC, tL_aC, tR_aC, tN_aC, tZ_aC, tC_aC, tc_aC, tz_aC, tI_rmL, tL_rmL, tR_rmL, tN_rmL, tZ_rmL, tC_rmL, tc_rmL, tz_rmL, tI_mk, tL_mk, tR_mk, tN_mk, tZ_mk, tC_mk, tc_mk, tz_mk, tI_pushL, tL_pushL, tR_pushL, tN_pushL, tZ_pushL, tC_pushL, tc_pushL, tz_pushL, tI_pushB, tL_pushB, tR_pushB, tN_pushB, tZ_pushB, tC_pushB, tc_pushB, tz_pushB, tI_cpL, tL_cpL, tR_cpL, tN_cpL, tZ_cpL, tC_cpL, tc_cpL, tz_cpL, eq_self, true_and, and_true, false_and, and_false, if_true, if_false, reduceIte, ite_true, ite_false, not_true_eq_false, not_false_eq_true, fcN_96 hF, fcR_96_3 hF, X405, fcN_27 hF, x0, x142_0]
  exact loop (tZ a 29 0) 0 (by omega)
theorem y288 {a b : TS} {z : Hp} {C s : Nat} (h : Core a b C) (hs : s < tZ a 27 0) : Ex 288 [aR (some (97, 0)), aI (Int32.ofNat s)] (enc 2 b z) = some (.inl (some (aD (mVal b s (tZ a 29 0)))), enc 2 (stP (sI b 97 0 8 0) (tZ a 29 0)) z) := by
  have hR := h.1.1
  have hFR := r_FR hR
  have h1 : Core a (sI b 97 0 8 0) C := Core_th h th_c th_w
  obtain ⟨P1, -, P3, P4, P5, -⟩ := r_P' h1.1.1
  have S1 := (r_S hR).1
  have i87 : ∀ k, tI (sI b 97 0 8 0) 87 0 k = tI b 87 0 k := fun k => by rw [tI_sI, if_neg (fun q => absurd q.1 (by decide))]
  have loop : ∀ k j, j + k = tZ a 29 0 → Ru 288 25 [(0, aR (some (97, 0))), (1, aI (Int32.ofNat s)), (2, aL (mSC b s j).1), (4, aI (Int32.ofNat (mSC b s j).2)), (5, aI (Int32.ofNat j))] [] (enc 2 (stP (sI b 97 0 8 0) j) z) = some (.inl (some (aD (mVal b s (tZ a 29 0)))), enc 2 (stP (sI b 97 0 8 0) (tZ a 29 0)) z) := by
    intro k
    induction k with
    | zero =>
      intro j hj
      have e : j = tZ a 29 0 := by omega
      subst e
      have hF := r_FR (stP_core h1 (tZ a 29 0)).1.1
      have q : Int32.ofNat (tZ a 29 0) ≤ Int32.ofNat (tZ a 29 0) := Int32.le_refl _
      have q8 := ((stP_c (sI b 97 0 8 0) (tZ a 29 0)).2.2.2).trans P4
      have q97 := ((stP_c (sI b 97 0 8 0) (tZ a 29 0)).2.2.1 97 0 8 (by decide)).trans th_v
      have hle := mSC_le b s (tZ a 29 0)
      rw [lf_288_25]
      unfold mVal
      by_cases c0 : (mSC b s (tZ a 29 0)).2 = 0
      · have c1 : Int32.ofNat (mSC b s (tZ a 29 0)).2 = 0 := by rw [c0]; rfl
        simp (config := {decide := true}) only [gfI_enc, gfL_enc, gfR_enc, pfI_enc, pfL_enc, pfR_enc, Option.bind_some, cI_v, cL_v, cF_v, cD_v, cR_v, cV_v, cI_x, cL_x, cR_x, cV_x, gz_0, gz_1, acc_enc, tI_sI, tL_sI, tR_sI, tN_sI, tZ_sI, tC_sI, tc_sI, tz_sI, tI_sL, tL_sL, tR_sL, tN_sL, tZ_sL, tC_sL, tc_sL, tz_sL, tI_sR, tL_sR, tR_sR, tN_sR, tZ_sR, tC_sR, tc_sR, tz_sR, tI_sZ, tL_sZ, tR_sZ, tN_sZ, tZ_sZ, tC_sZ, tc_sZ, tz_sZ, tI_sC, tL_sC, tR_sC, tN_sC, tZ_sC, tC_sC, tc_sC, tz_sC, tI_aC, tL_aC, tR_aC, tN_aC, tZ_aC, tC_aC, tc_aC, tz_aC, tI_rmL, tL_rmL, tR_rmL, tN_rmL, tZ_rmL, tC_rmL, tc_rmL, tz_rmL, tI_mk, tL_mk, tR_mk, tN_mk, tZ_mk, tC_mk, tc_mk, tz_mk, tI_pushL, tL_pushL, tR_pushL, tN_pushL, tZ_pushL, tC_pushL, tc_pushL, tz_pushL, tI_pushB, tL_pushB, tR_pushB, tN_pushB, tZ_pushB, tC_pushB, tc_pushB, tz_pushB, tI_cpL, tL_cpL, tR_cpL, tN_cpL, tZ_cpL, tC_cpL, tc_cpL, tz_cpL, eq_self, true_and, and_true, false_and, and_false, if_true, if_false, reduceIte, ite_true, ite_false, not_true_eq_false, not_false_eq_true, frN_97 hF, q97, frR_97_2 hF, frN_93 hF, q8, q, c0, c1]
      · have c1 : ¬ Int32.ofNat (mSC b s (tZ a 29 0)).2 = 0 := fun w => c0 (o_inj (by omega) (by omega) (show Int32.ofNat (mSC b s (tZ a 29 0)).2 = Int32.ofNat 0 from w))
        have c2 := fp_ddiv (mSC b s (tZ a 29 0)).1 (n := (mSC b s (tZ a 29 0)).2) (by omega) (by omega)
        simp (config := {decide := true}) only [gfI_enc, gfL_enc, gfR_enc, pfI_enc, pfL_enc, pfR_enc, Option.bind_some, cI_v, cL_v, cF_v, cD_v, cR_v, cV_v, cI_x, cL_x, cR_x, cV_x, gz_0, gz_1, acc_enc, tI_sI, tL_sI, tR_sI, tN_sI, tZ_sI, tC_sI, tc_sI, tz_sI, tI_sL, tL_sL, tR_sL, tN_sL, tZ_sL, tC_sL, tc_sL, tz_sL, tI_sR, tL_sR, tR_sR, tN_sR, tZ_sR, tC_sR, tc_sR, tz_sR, tI_sZ, tL_sZ, tR_sZ, tN_sZ, tZ_sZ, tC_sZ, tc_sZ, tz_sZ, tI_sC, tL_sC, tR_sC, tN_sC, tZ_sC, tC_sC, tc_sC, tz_sC, tI_aC, tL_aC, tR_aC, tN_aC, tZ_aC, tC_aC, tc_aC, tz_aC, tI_rmL, tL_rmL, tR_rmL, tN_rmL, tZ_rmL, tC_rmL, tc_rmL, tz_rmL, tI_mk, tL_mk, tR_mk, tN_mk, tZ_mk, tC_mk, tc_mk, tz_mk, tI_pushL, tL_pushL, tR_pushL, tN_pushL, tZ_pushL, tC_pushL, tc_pushL, tz_pushL, tI_pushB, tL_pushB, tR_pushB, tN_pushB, tZ_pushB, tC_pushB, tc_pushB, tz_pushB, tI_cpL, tL_cpL, tR_cpL, tN_cpL, tZ_cpL, tC_cpL, tc_cpL, tz_cpL, eq_self, true_and, and_true, false_and, and_false, if_true, if_false, reduceIte, ite_true, ite_false, not_true_eq_false, not_false_eq_true, frN_97 hF, q97, frR_97_2 hF, frN_93 hF, q8, q, c0, c1, c2]
    | succ k ih =>
      intro j hj
      have hjn : j < tZ a 29 0 := by omega
      have hF := r_FR (stP_core h1 j).1.1
      have hF1 := r_FR (stP_core h1 (j + 1)).1.1
      have q : ¬ Int32.ofNat (tZ a 29 0) ≤ Int32.ofNat j := by rw [o_le (by omega) (by omega)]; omega
      have q8 := ((stP_c (sI b 97 0 8 0) j).2.2.2).trans P4
      have q97 := ((stP_c (sI b 97 0 8 0) j).2.2.1 97 0 8 (by decide)).trans th_v
      have f2 : ∀ z, Ex 247 [aR (some (93, 0)), aI (Int32.ofNat j), aI 2] (enc 2 (stP (sI b 97 0 8 0) j) z) = some (.inl (some (aI (tI b 87 0 (10 * j + 2)))), enc 2 (stP (sI b 97 0 8 0) (j + 1)) z) := fun z => by
        have := y247P (z := z) h1 hjn (w := 2) (j := j) (by omega)
        rw [i87] at this
        exact this
      have f3 : ∀ z, Ex 247 [aR (some (93, 0)), aI (Int32.ofNat j), aI 3] (enc 2 (stP (sI b 97 0 8 0) (j + 1)) z) = some (.inl (some (aI (tI b 87 0 (10 * j + 3)))), enc 2 (stP (sI b 97 0 8 0) (j + 1)) z) := fun z => by
        have := y247S (z := z) h1 hjn (w := 3) (j := j) (by omega)
        rw [i87] at this
        exact this
      have f287 : ∀ z, Ex 287 [aR (some (97, 0)), aI (Int32.ofNat j)] (enc 2 (stP (sI b 97 0 8 0) (j + 1)) z) = some (.inl (some (aI (if tI b 87 0 (10 * j) = 0 ∨ tI b 87 0 (10 * j) = 2 then 1 else 0))), enc 2 (stP (sI b 97 0 8 0) (j + 1)) z) := fun z => by
        have := y287P (z := z) h1 hjn (j := j + 1)
        rw [i87, stP_ss] at this
        exact this
      have hi := ih (j + 1) (by omega)
      rw [lf_288_25]
      unfold mSC at hi
      by_cases e : tI b 87 0 (10 * j + 2) = Int32.ofNat s
      · rw [if_pos e] at hi
        by_cases eg : tI b 87 0 (10 * j) = 0 ∨ tI b 87 0 (10 * j) = 2
        · rw [if_pos eg] at hi
          have n10 : ¬ (1 : Int32) = 0 := by decide
          simp only [if_pos eg] at f287
          simp (config := {decide := true}) only [gfI_enc, gfL_enc, gfR_enc, pfI_enc, pfL_enc, pfR_enc, Option.bind_some, cI_v, cL_v, cF_v, cD_v, cR_v, cV_v, cI_x, cL_x, cR_x, cV_x, gz_0, gz_1, acc_enc, tI_sI, tL_sI, tR_sI, tN_sI, tZ_sI, tC_sI, tc_sI, tz_sI, tI_sL, tL_sL, tR_sL, tN_sL, tZ_sL, tC_sL, tc_sL, tz_sL, tI_sR, tL_sR, tR_sR, tN_sR, tZ_sR, tC_sR, tc_sR, tz_sR, tI_sZ, tL_sZ, tR_sZ, tN_sZ, tZ_sZ, tC_sZ, tc_sZ, tz_sZ, tI_sC, tL_sC, tR_sC, tN_sC, tZ_sC, tC_sC, tc_sC, tz_sC, tI_aC, tL_aC, tR_aC, tN_aC, tZ_aC, tC_aC, tc_aC, tz_aC, tI_rmL, tL_rmL, tR_rmL, tN_rmL, tZ_rmL, tC_rmL, tc_rmL, tz_rmL, tI_mk, tL_mk, tR_mk, tN_mk, tZ_mk, tC_mk, tc_mk, tz_mk, tI_pushL, tL_pushL, tR_pushL, tN_pushL, tZ_pushL, tC_pushL, tc_pushL, tz_pushL, tI_pushB, tL_pushB, tR_pushB, tN_pushB, tZ_pushB, tC_pushB, tc_pushB, tz_pushB, tI_cpL, tL_cpL, tR_cpL, tN_cpL, tZ_cpL, tC_cpL, tc_cpL, tz_cpL, eq_self, true_and, and_true, false_and, and_false, if_true, if_false, reduceIte, ite_true, ite_false, not_true_eq_false, not_false_eq_true, frN_97 hF, q97, frR_97_2 hF, frN_93 hF, q8, q, f2, e, f287, n10, frN_97 hF1, frR_97_2 hF1, f3, o_s]
          exact hi
        · rw [if_neg eg] at hi
          simp only [if_neg eg] at f287
          simp (config := {decide := true}) only [gfI_enc, gfL_enc, gfR_enc, pfI_enc, pfL_enc, pfR_enc, Option.bind_some, cI_v, cL_v, cF_v, cD_v, cR_v, cV_v, cI_x, cL_x, cR_x, cV_x, gz_0, gz_1, acc_enc, tI_sI, tL_sI, tR_sI, tN_sI, tZ_sI, tC_sI, tc_sI, tz_sI, tI_sL, tL_sL, tR_sL, tN_sL, tZ_sL, tC_sL, tc_sL, tz_sL, tI_sR, tL_sR, tR_sR, tN_sR, tZ_sR, tC_sR, tc_sR, tz_sR, tI_sZ, tL_sZ, tR_sZ, tN_sZ, tZ_sZ, tC_sZ, tc_sZ, tz_sZ, tI_sC, tL_sC, tR_sC, tN_sC, tZ_sC, tC_sC, tc_sC, tz_sC, tI_aC, tL_aC, tR_aC, tN_aC, tZ_aC, tC_aC, tc_aC, tz_aC, tI_rmL, tL_rmL, tR_rmL, tN_rmL, tZ_rmL, tC_rmL, tc_rmL, tz_rmL, tI_mk, tL_mk, tR_mk, tN_mk, tZ_mk, tC_mk, tc_mk, tz_mk, tI_pushL, tL_pushL, tR_pushL, tN_pushL, tZ_pushL, tC_pushL, tc_pushL, tz_pushL, tI_pushB, tL_pushB, tR_pushB, tN_pushB, tZ_pushB, tC_pushB, tc_pushB, tz_pushB, tI_cpL, tL_cpL, tR_cpL, tN_cpL, tZ_cpL, tC_cpL, tc_cpL, tz_cpL, eq_self, true_and, and_true, false_and, and_false, if_true, if_false, reduceIte, ite_true, ite_false, not_true_eq_false, not_false_eq_true, frN_97 hF, q97, frR_97_2 hF, frN_93 hF, q8, q, f2, e, f287, o_s]
          exact hi
      · rw [if_neg e] at hi
        simp (config := {decide := true}) only [gfI_enc, gfL_enc, gfR_enc, pfI_enc, pfL_enc, pfR_enc, Option.bind_some, cI_v, cL_v, cF_v, cD_v, cR_v, cV_v, cI_x, cL_x, cR_x, cV_x, gz_0, gz_1, acc_enc, tI_sI, tL_sI, tR_sI, tN_sI, tZ_sI, tC_sI, tc_sI, tz_sI, tI_sL, tL_sL, tR_sL, tN_sL, tZ_sL, tC_sL, tc_sL, tz_sL, tI_sR, tL_sR, tR_sR, tN_sR, tZ_sR, tC_sR, tc_sR, tz_sR, tI_sZ, tL_sZ, tR_sZ, tN_sZ, tZ_sZ, tC_sZ, tc_sZ, tz_sZ, tI_sC, tL_sC, tR_sC, tN_sC, tZ_sC, tC_sC, tc_sC, tz_sC, tI_aC, tL_aC, tR_aC, tN_aC, tZ_aC, tC_aC, tc_aC, tz_aC, tI_rmL, tL_rmL, tR_rmL, tN_rmL, tZ_rmL, tC_rmL, tc_rmL, tz_rmL, tI_mk, tL_mk, tR_mk, tN_mk, tZ_mk, tC_mk, tc_mk, tz_mk, tI_pushL, tL_pushL, tR_pushL, tN_pushL, tZ_pushL, tC_pushL, tc_pushL, tz_pushL, tI_pushB, tL_pushB, tR_pushB, tN_pushB, tZ_pushB, tC_pushB, tc_pushB, tz_pushB, tI_cpL, tL_cpL, tR_cpL, tN_cpL, tZ_cpL, tC_cpL, tc_cpL, tz_cpL, eq_self, true_and, and_true, false_and, and_false, if_true, if_false, reduceIte, ite_true, ite_false, not_true_eq_false, not_false_eq_true, frN_97 hF, q97, frR_97_2 hF, frN_93 hF, q8, q, f2, e, o_s]
        exact hi
  have y254' : ∀ z, Ex 254 [aR (some (97, 0)), aI (Int32.ofNat s)] (enc 2 b z) = some (.inl (some (aI 1)), enc 2 b z) := fun z => by rw [y254 hR, y250_1 (inR_mk (k := s) (n := tZ a 27 0) hs (by omega)), cI_v, gz_1]
  have n10 : ¬ (1 : Int32) = 0 := by decide
  refine (X_in (by decide +kernel) (frN_97 hFR) rfl).trans ((lf_288_0 ..).trans ?_)
  simp (config := {decide := true}) only [gfI_enc, gfL_enc, gfR_enc, pfI_enc, pfL_enc, pfR_enc, Option.bind_some, cI_v, cL_v, cF_v, cD_v, cR_v, cV_v, cI_x, cL_x, cR_x, cV_x, gz_0, gz_1, acc_enc, tI_sI, tL_sI, tR_sI, tN_sI, tZ_sI, tC_sI, tc_sI, tz_sI, tI_sL, tL_sL, tR_sL, tN_sL, tZ_sL, tC_sL, tc_sL, tz_sL, tI_sR, tL_sR, tR_sR, tN_sR, tZ_sR, tC_sR, tc_sR, tz_sR, tI_sZ, tL_sZ, tR_sZ, tN_sZ, tZ_sZ, tC_sZ, tc_sZ, tz_sZ, tI_sC, tL_sC, tR_sC, tN_sC, tZ_sC, tC_sC, tc_sC, tz_sC, tI_aC, tL_aC, tR_aC, tN_aC, tZ_aC, tC_aC, tc_aC, tz_aC, tI_rmL, tL_rmL, tR_rmL, tN_rmL, tZ_rmL, tC_rmL, tc_rmL, tz_rmL, tI_mk, tL_mk, tR_mk, tN_mk, tZ_mk, tC_mk, tc_mk, tz_mk, tI_pushL, tL_pushL, tR_pushL, tN_pushL, tZ_pushL, tC_pushL, tc_pushL, tz_pushL, tI_pushB, tL_pushB, tR_pushB, tN_pushB, tZ_pushB, tC_pushB, tc_pushB, tz_pushB, tI_cpL, tL_cpL, tR_cpL, tN_cpL, tZ_cpL, tC_cpL, tc_cpL, tz_cpL, eq_self, true_and, and_true, false_and, and_false, if_true, if_false, reduceIte, ite_true, ite_false, not_true_eq_false, not_false_eq_true, y254', n10, frN_97 hFR]
  exact loop (tZ a 29 0) 0 (by omega)
theorem q_mean {a b : TS} {C : Nat} (h : Core a b C) (p : Int32) : PubR aD 132 [aR (some (96, 0)), aI p] 288 [aR (some (97, 0)), aI p] k1 a b C C := by
  have hR := h.1.1
  have hF := r_FC hR
  have hFR := r_FR hR
  have S1 := (r_S hR).1
  have n10 : ¬ (1 : Int32) = 0 := by decide
  by_cases e0 : inR p 0 (Int32.ofNat (tZ a 27 0) - 1)
  · obtain ⟨s, hs, e⟩ := inR_ex e0 (by omega)
    subst e
    obtain ⟨u1, u2, u3, -⟩ := stP_c (sI b 97 0 8 0) (tZ a 29 0)
    exact q_ok h (mVal b s (tZ a 29 0)) (fun z => x132 h hs) (fun z => y288 h hs) (chF_t th_c u1) (th_w.t u2) ((u3 97 0 8 (by decide)).trans th_v)
  · have y254' : ∀ z, Ex 254 [aR (some (97, 0)), aI p] (enc 2 b z) = some (.inl (some (aI 0)), enc 2 b z) := fun z => by rw [y254 hR, y250_0 e0, cI_v, gz_0]
    have x0 := x140_0 e0
    have f142 : ∀ z, Ex 142 [aI 1] (enc 1 a z) = some (.inr (exN 1), enc 1 (aC a 1 6) z) := fun z => x142_r (w := 1) (a := a) (z := z) (r := 1) (by omega) (by omega)
    refine q_bad (b' := sI b 97 0 8 1) h 1 (by omega) (by omega) 0 (fun z => ?_) (fun z => ?_) th_c th_w th_v
    · refine (X_in (by decide +kernel) (fcN_96 hF) rfl).trans ((lf_132_0 ..).trans ?_)
      simp (config := {decide := true}) only [gfI_enc, gfL_enc, gfR_enc, pfI_enc, pfL_enc, pfR_enc, Option.bind_some, cI_v, cL_v, cF_v, cD_v, cR_v, cV_v, cI_x, cL_x, cR_x, cV_x, gz_0, gz_1, acc_enc, tI_sI, tL_sI, tR_sI, tN_sI, tZ_sI, tC_sI, tc_sI, tz_sI, tI_sL, tL_sL, tR_sL, tN_sL, tZ_sL, tC_sL, tc_sL, tz_sL, tI_sR, tL_sR, tR_sR, tN_sR, tZ_sR, tC_sR, tc_sR, tz_sR, tI_sZ, tL_sZ, tR_sZ, tN_sZ, tZ_sZ, tC_sZ, tc_sZ, tz_sZ, tI_sC, tL_sC, tR_sC, tN_sC, tZ_sC, tC_sC, tc_sC, tz_sC, tI_aC, tL_aC, tR_aC, tN_aC, tZ_aC, tC_aC, tc_aC, tz_aC, tI_rmL, tL_rmL, tR_rmL, tN_rmL, tZ_rmL, tC_rmL, tc_rmL, tz_rmL, tI_mk, tL_mk, tR_mk, tN_mk, tZ_mk, tC_mk, tc_mk, tz_mk, tI_pushL, tL_pushL, tR_pushL, tN_pushL, tZ_pushL, tC_pushL, tc_pushL, tz_pushL, tI_pushB, tL_pushB, tR_pushB, tN_pushB, tZ_pushB, tC_pushB, tc_pushB, tz_pushB, tI_cpL, tL_cpL, tR_cpL, tN_cpL, tZ_cpL, tC_cpL, tc_cpL, tz_cpL, eq_self, true_and, and_true, false_and, and_false, if_true, if_false, reduceIte, ite_true, ite_false, not_true_eq_false, not_false_eq_true, fcN_96 hF, fcR_96_3 hF, X405, fcN_27 hF, x0, f142, xT_v]
    · have hF1 : FxR (sI b 97 0 8 1) := FxR_s hFR th_w (th_c (b := b) (v := 1)) (by decide)
      refine (X_in (by decide +kernel) (frN_97 hFR) rfl).trans ((lf_288_0 ..).trans ?_)
      simp (config := {decide := true}) only [gfI_enc, gfL_enc, gfR_enc, pfI_enc, pfL_enc, pfR_enc, Option.bind_some, cI_v, cL_v, cF_v, cD_v, cR_v, cV_v, cI_x, cL_x, cR_x, cV_x, gz_0, gz_1, acc_enc, tI_sI, tL_sI, tR_sI, tN_sI, tZ_sI, tC_sI, tc_sI, tz_sI, tI_sL, tL_sL, tR_sL, tN_sL, tZ_sL, tC_sL, tc_sL, tz_sL, tI_sR, tL_sR, tR_sR, tN_sR, tZ_sR, tC_sR, tc_sR, tz_sR, tI_sZ, tL_sZ, tR_sZ, tN_sZ, tZ_sZ, tC_sZ, tc_sZ, tz_sZ, tI_sC, tL_sC, tR_sC, tN_sC, tZ_sC, tC_sC, tc_sC, tz_sC, tI_aC, tL_aC, tR_aC, tN_aC, tZ_aC, tC_aC, tc_aC, tz_aC, tI_rmL, tL_rmL, tR_rmL, tN_rmL, tZ_rmL, tC_rmL, tc_rmL, tz_rmL, tI_mk, tL_mk, tR_mk, tN_mk, tZ_mk, tC_mk, tc_mk, tz_mk, tI_pushL, tL_pushL, tR_pushL, tN_pushL, tZ_pushL, tC_pushL, tc_pushL, tz_pushL, tI_pushB, tL_pushB, tR_pushB, tN_pushB, tZ_pushB, tC_pushB, tc_pushB, tz_pushB, tI_cpL, tL_cpL, tR_cpL, tN_cpL, tZ_cpL, tC_cpL, tc_cpL, tz_cpL, eq_self, true_and, and_true, false_and, and_false, if_true, if_false, reduceIte, ite_true, ite_false, not_true_eq_false, not_false_eq_true, y254', n10, frN_97 hFR]
      rw [lf_288_25]
      simp (config := {decide := true}) only [gfI_enc, gfL_enc, gfR_enc, pfI_enc, pfL_enc, pfR_enc, Option.bind_some, cI_v, cL_v, cF_v, cD_v, cR_v, cV_v, cI_x, cL_x, cR_x, cV_x, gz_0, gz_1, acc_enc, tI_sI, tL_sI, tR_sI, tN_sI, tZ_sI, tC_sI, tc_sI, tz_sI, tI_sL, tL_sL, tR_sL, tN_sL, tZ_sL, tC_sL, tc_sL, tz_sL, tI_sR, tL_sR, tR_sR, tN_sR, tZ_sR, tC_sR, tc_sR, tz_sR, tI_sZ, tL_sZ, tR_sZ, tN_sZ, tZ_sZ, tC_sZ, tc_sZ, tz_sZ, tI_sC, tL_sC, tR_sC, tN_sC, tZ_sC, tC_sC, tc_sC, tz_sC, tI_aC, tL_aC, tR_aC, tN_aC, tZ_aC, tC_aC, tc_aC, tz_aC, tI_rmL, tL_rmL, tR_rmL, tN_rmL, tZ_rmL, tC_rmL, tc_rmL, tz_rmL, tI_mk, tL_mk, tR_mk, tN_mk, tZ_mk, tC_mk, tc_mk, tz_mk, tI_pushL, tL_pushL, tR_pushL, tN_pushL, tZ_pushL, tC_pushL, tc_pushL, tz_pushL, tI_pushB, tL_pushB, tR_pushB, tN_pushB, tZ_pushB, tC_pushB, tc_pushB, tz_pushB, tI_cpL, tL_cpL, tR_cpL, tN_cpL, tZ_cpL, tC_cpL, tc_cpL, tz_cpL, eq_self, true_and, and_true, false_and, and_false, if_true, if_false, reduceIte, ite_true, ite_false, not_true_eq_false, not_false_eq_true, frN_97 hFR, n10]
