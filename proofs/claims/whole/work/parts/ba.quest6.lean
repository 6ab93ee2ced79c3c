/-! ===== questions: the share of the granted, the checksum ===== -/
def gN (b : TS) : Nat → Nat
  | 0 => 0
  | j + 1 => if tI b 87 0 (10 * j) = 0 ∨ tI b 87 0 (10 * j) = 2 then gN b j + 1 else gN b j
theorem gN_le (b : TS) : ∀ j, gN b j ≤ j
  | 0 => Nat.le_refl _
  | j + 1 => by
    have := gN_le b j
    unfold gN
    split <;> omega
noncomputable def sVal (b : TS) (n : Nat) : UInt32 := if n = 0 then 0 else FP.fdiv (FP.i2f (Int32.ofNat (gN b n))) (FP.i2f (Int32.ofNat n))
theorem x133 {a b : TS} {z : Hp} {C : Nat} (h : Core a b C) : Ex 133 [aR (some (96, 0))] (enc 1 a z) = some (.inl (some (aF (sVal b (tZ a 29 0)))), enc 1 a z) := by
  have hR := h.1.1
  have hF := r_FC hR
  have P1 := (r_P' hR).1
  have loop : ∀ k j, j + k = tZ a 29 0 → Ru 133 4 [(0, aR (some (96, 0))), (1, aI (Int32.ofNat (gN b j))), (2, aI (Int32.ofNat j))] [] (enc 1 a z) = some (.inl (some (aF (sVal b (tZ a 29 0)))), enc 1 a z) := by
    intro k
    induction k with
    | zero =>
      intro j hj
      have e : j = tZ a 29 0 := by omega
      subst e
      have q : Int32.ofNat (tZ a 29 0) ≤ Int32.ofNat (tZ a 29 0) := Int32.le_refl _
      have n10 : ¬ (1 : Int32) = 0 := by decide
      rw [lf_133_4]
      unfold sVal
      by_cases c0 : tZ a 29 0 = 0
      · have i1 : (if tZ a 29 0 = 0 then (1 : Int32) else 0) = 1 := if_pos c0
        have f406 : ∀ z, Ex 406 [aR (some (29, 0))] (enc 1 a z) = some (.inl (some (aI 1)), enc 1 a z) := fun z => by rw [X406 (by decide +kernel) (fcN_29 hF), i1]
        rw [if_pos c0]
        simp (config := {decide := true}) only [gfI_enc, gfL_enc, gfR_enc, pfI_enc, pfL_enc, pfR_enc, Option.bind_some, cI_v, cL_v, cF_v, cD_v, cR_v, cV_v, cI_x, cL_x, cR_x, cV_x, gz_0, gz_1, acc_enc, tI_sI, tL_sI, tR_sI, tN_sI, tZ_sI, tC_sI, tc_sI, tz_sI, tI_sL, tL_sL, tR_sL, tN_sL, tZ_sL, tC_sL, tc_sL, tz_sL, tI_sR, tL_sR, tR_sR, tN_sR, tZ_sR, tC_sR, tc_sR, tz_sR, tI_sZ, tL_sZ, tR_sZ, tN_sZ, tZ_sZ, tC_sZ, tc_sZ, tz_sZ, tI_sC, tL_sC, tR_sC, tN_sC, tZ_sC, tC_sC, tc_sC, tz_sC, tI_aC, tL_aC, tR_aC, tN_aC, tZ_aC, tC_aC, tc_aC, tz_aC, tI_rmL, tL_rmL, tR_rmL, tN_rmL, tZ_rmL, tC_rmL, tc_rmL, tz_rmL, tI_mk, tL_mk, tR_mk, tN_mk, tZ_mk, tC_mk, tc_mk, tz_mk, tI_pushL, tL_pushL, tR_pushL, tN_pushL, tZ_pushL, tC_pushL, tc_pushL, tz_pushL, tI_pushB, tL_pushB, tR_pushB, tN_pushB, tZ_pushB, tC_pushB, tc_pushB, tz_pushB, tI_cpL, tL_cpL, tR_cpL, tN_cpL, tZ_cpL, tC_cpL, tc_cpL, tz_cpL, eq_self, true_and, and_true, false_and, and_false, if_true, if_false, reduceIte, ite_true, ite_false, not_true_eq_false, not_false_eq_true, fcN_96 hF, fcR_96_5 hF, X405, fcN_29 hF, q, f406, n10]
      · have i1 : (if tZ a 29 0 = 0 then (1 : Int32) else 0) = 0 := if_neg c0
        have f406 : ∀ z, Ex 406 [aR (some (29, 0))] (enc 1 a z) = some (.inl (some (aI 0)), enc 1 a z) := fun z => by rw [X406 (by decide +kernel) (fcN_29 hF), i1]
        have c2 := fp_fdiv (Int32.ofNat (gN b (tZ a 29 0))) (n := tZ a 29 0) (by omega) P1
        rw [if_neg c0]
        simp (config := {decide := true}) only [gfI_enc, gfL_enc, gfR_enc, pfI_enc, pfL_enc, pfR_enc, Option.bind_some, cI_v, cL_v, cF_v, cD_v, cR_v, cV_v, cI_x, cL_x, cR_x, cV_x, gz_0, gz_1, acc_enc, tI_sI, tL_sI, tR_sI, tN_sI, tZ_sI, tC_sI, tc_sI, tz_sI, tI_sL, tL_sL, tR_sL, tN_sL, tZ_sL, tC_sL, tc_sL, tz_sL, tI_sR, tL_sR, tR_sR, tN_sR, tZ_sR, tC_sR, tc_sR, tz_sR, tI_sZ, tL_sZ, tR_sZ, tN_sZ, tZ_sZ, tC_sZ, tc_sZ, tz_sZ, tI_sC, tL_sC, tR_sC, tN_sC, tZ_sC, tC_sC, tc_sC, tz_sC, tI_aC, tL_aC, tR_aC, tN_aC, tZ_aC, tC_aC, tc_aC, tz_aC, tI_rmL, tL_rmL, tR_rmL, tN_rmL, tZ_rmL, tC_rmL, tc_rmL, tz_rmL, tI_mk, tL_mk, tR_mk, tN_mk, tZ_mk, tC_mk, tc_mk, tz_mk, tI_pushL, tL_pushL, tR_pushL, tN_pushL, tZ_pushL, tC_pushL, tc_pushL, tz_pushL, tI_pushB, tL_pushB, tR_pushB, tN_pushB, tZ_pushB, tC_pushB, tc_pushB, tz_pushB, tI_cpL, tL_cpL, tR_cpL, tN_cpL, tZ_cpL, tC_cpL, tc_cpL, tz_cpL, eq_self, true_and, and_true, false_and, and_false, if_true, if_false, reduceIte, ite_true, ite_false, not_true_eq_false, not_false_eq_true, fcN_96 hF, fcR_96_5 hF, X405, fcN_29 hF, q, f406, c2]
    | succ k ih =>
      intro j hj
      have hjn : j < tZ a 29 0 := by omega
      have q : ¬ Int32.ofNat (tZ a 29 0) ≤ Int32.ofNat j := by rw [o_le (by omega) (by omega)]; omega
      have g1 : (Int32.ofNat j).toNatClampNeg = j := o_ix (by omega)
      have g2 : ¬ Int32.ofNat j < 0 := o_lt0 (by omega)
      obtain ⟨r1, r2, -, d7, -⟩ := pay_at hR hjn
      have f45 := fun z => x45 (a := a) (z := z) r2
      rw [d7] at f45
      have hi := ih (j + 1) (by omega)
      rw [lf_133_4]
      unfold gN at hi
      by_cases eg : tI b 87 0 (10 * j) = 0 ∨ tI b 87 0 (10 * j) = 2
      · rw [if_pos eg] at hi
        have n10 : ¬ (1 : Int32) = 0 := by decide
        simp only [if_pos eg] at f45
        simp (config := {decide := true}) only [gfI_enc, gfL_enc, gfR_enc, pfI_enc, pfL_enc, pfR_enc, Option.bind_some, cI_v, cL_v, cF_v, cD_v, cR_v, cV_v, cI_x, cL_x, cR_x, cV_x, gz_0, gz_1, acc_enc, tI_sI, tL_sI, tR_sI, tN_sI, tZ_sI, tC_sI, tc_sI, tz_sI, tI_sL, tL_sL, tR_sL, tN_sL, tZ_sL, tC_sL, tc_sL, tz_sL, tI_sR, tL_sR, tR_sR, tN_sR, tZ_sR, tC_sR, tc_sR, tz_sR, tI_sZ, tL_sZ, tR_sZ, tN_sZ, tZ_sZ, tC_sZ, tc_sZ, tz_sZ, tI_sC, tL_sC, tR_sC, tN_sC, tZ_sC, tC_sC, tc_sC, tz_sC, tI_aC, tL_aC, tR_aC, tN_aC, tZ_aC, tC_aC, tc_aC, tz_aC, tI_rmL, tL_rmL, tR_rmL, tN_rmL, tZ_rmL, tC_rmL, tc_rmL, tz_rmL, tI_mk, tL_mk, tR_mk, tN_mk, tZ_mk, tC_mk, tc_mk, tz_mk, tI_pushL, tL_pushL, tR_pushL, tN_pushL, tZ_pushL, tC_pushL, tc_pushL, tz_pushL, tI_pushB, tL_pushB, tR_pushB, tN_pushB, tZ_pushB, tC_pushB, tc_pushB, tz_pushB, tI_cpL, tL_cpL, tR_cpL, tN_cpL, tZ_cpL, tC_cpL, tc_cpL, tz_cpL, eq_self, true_and, and_true, false_and, and_false, if_true, if_false, reduceIte, ite_true, ite_false, not_true_eq_false, not_false_eq_true, fcN_96 hF, fcR_96_5 hF, X405, X402, fcN_29 hF, q, g1, g2, hjn, r1, r2, f45, n10, o_s]
        exact hi
      · rw [if_neg eg] at hi
        simp only [if_neg eg] at f45
        simp (config := {decide := true}) only [gfI_enc, gfL_enc, gfR_enc, pfI_enc, pfL_enc, pfR_enc, Option.bind_some, cI_v, cL_v, cF_v, cD_v, cR_v, cV_v, cI_x, cL_x, cR_x, cV_x, gz_0, gz_1, acc_enc, tI_sI, tL_sI, tR_sI, tN_sI, tZ_sI, tC_sI, tc_sI, tz_sI, tI_sL, tL_sL, tR_sL, tN_sL, tZ_sL, tC_sL, tc_sL, tz_sL, tI_sR, tL_sR, tR_sR, tN_sR, tZ_sR, tC_sR, tc_sR, tz_sR, tI_sZ, tL_sZ, tR_sZ, tN_sZ, tZ_sZ, tC_sZ, tc_sZ, tz_sZ, tI_sC, tL_sC, tR_sC, tN_sC, tZ_sC, tC_sC, tc_sC, tz_sC, tI_aC, tL_aC, tR_aC, tN_aC, tZ_aC, tC_aC, tc_aC, tz_aC, tI_rmL, tL_rmL, tR_rmL, tN_rmL, tZ_rmL, tC_rmL, tc_rmL, tz_rmL, tI_mk, tL_mk, tR_mk, tN_mk, tZ_mk, tC_mk, tc_mk, tz_mk, tI_pushL, tL_pushL, tR_pushL, tN_pushL, tZ_pushL, tC_pushL, tc_pushL, tz_pushL, tI_pushB, tL_pushB, tR_pushB, tN_pushB, tZ_pushB, tC_pushB, tc_pushB, tz_pushB, tI_cpL, tL_cpL, tR_cpL, tN_cpL, tZ_cpL, tC_cpL, tc_cpL, tz_cpL, eq_self, true_and, and_true, false_and, and_false, if_true, if_false, reduceIte, ite_true, ite_false, not_true_eq_false, not_false_eq_true, fcN_96 hF, fcR_96_5 hF, X405, X402, fcN_29 hF, q, g1, g2, hjn, r1, r2, f45, o_s, Int32.add_zero]
        exact hi
  refine (X_in (by decide +kernel) (fcN_96 hF) rfl).trans ((lf_133_0 ..).trans ?_)
  exact loop (tZ a 29 0) 0 (by omega)
theorem y289 {a b : TS} {z : Hp} {C : Nat} (h : Core a b C) : Ex 289 [aR (some (97, 0))] (enc 2 b z) = some (.inl (some (aF (sVal b (tZ a 29 0)))), enc 2 (stP (sI b 97 0 8 0) (tZ a 29 0)) z) := by
  have hR := h.1.1
  have hFR := r_FR hR
  have h1 : Core a (sI b 97 0 8 0) C := Core_th h th_c th_w
  obtain ⟨P1, -, P3, P4, P5, -⟩ := r_P' h1.1.1
  have i87 : ∀ k, tI (sI b 97 0 8 0) 87 0 k = tI b 87 0 k := fun k => by rw [tI_sI, if_neg (fun q => absurd q.1 (by decide))]
  have loop : ∀ k j, j + k = tZ a 29 0 → Ru 289 9 [(0, aR (some (97, 0))), (1, aI (Int32.ofNat (gN b j))), (2, aI (Int32.ofNat j))] [] (enc 2 (stP (sI b 97 0 8 0) j) z) = some (.inl (some (aF (sVal b (tZ a 29 0)))), enc 2 (stP (sI b 97 0 8 0) (tZ a 29 0)) z) := by
    intro k
    induction k with
    | zero =>
      intro j hj
      have e : j = tZ a 29 0 := by omega
      subst e
      have hF := r_FR (stP_core h1 (tZ a 29 0)).1.1
      have q : Int32.ofNat (tZ a 29 0) ≤ Int32.ofNat (tZ a 29 0) := Int32.le_refl _
      have q8 := ((stP_c (sI b 97 0 8 0) (tZ a 29 0)).2.2.2).trans P4
      rw [lf_289_9]
      unfold sVal
      by_cases c0 : tZ a 29 0 = 0
      · have c1 : Int32.ofNat (tZ a 29 0) = 0 := by rw [c0]; rfl
        rw [if_pos c0]
        rw [c1] at q8 q
        simp (config := {decide := true}) only [gfI_enc, gfL_enc, gfR_enc, pfI_enc, pfL_enc, pfR_enc, Option.bind_some, cI_v, cL_v, cF_v, cD_v, cR_v, cV_v, cI_x, cL_x, cR_x, cV_x, gz_0, gz_1, acc_enc, tI_sI, tL_sI, tR_sI, tN_sI, tZ_sI, tC_sI, tc_sI, tz_sI, tI_sL, tL_sL, tR_sL, tN_sL, tZ_sL, tC_sL, tc_sL, tz_sL, tI_sR, tL_sR, tR_sR, tN_sR, tZ_sR, tC_sR, tc_sR, tz_sR, tI_sZ, tL_sZ, tR_sZ, tN_sZ, tZ_sZ, tC_sZ, tc_sZ, tz_sZ, tI_sC, tL_sC, tR_sC, tN_sC, tZ_sC, tC_sC, tc_sC, tz_sC, tI_aC, tL_aC, tR_aC, tN_aC, tZ_aC, tC_aC, tc_aC, tz_aC, tI_rmL, tL_rmL, tR_rmL, tN_rmL, tZ_rmL, tC_rmL, tc_rmL, tz_rmL, tI_mk, tL_mk, tR_mk, tN_mk, tZ_mk, tC_mk, tc_mk, tz_mk, tI_pushL, tL_pushL, tR_pushL, tN_pushL, tZ_pushL, tC_pushL, tc_pushL, tz_pushL, tI_pushB, tL_pushB, tR_pushB, tN_pushB, tZ_pushB, tC_pushB, tc_pushB, tz_pushB, tI_cpL, tL_cpL, tR_cpL, tN_cpL, tZ_cpL, tC_cpL, tc_cpL, tz_cpL, eq_self, true_and, and_true, false_and, and_false, if_true, if_false, reduceIte, ite_true, ite_false, not_true_eq_false, not_false_eq_true, frN_97 hF, frR_97_2 hF, frN_93 hF, q8, q, c1]
      · have c1 : ¬ Int32.ofNat (tZ a 29 0) = 0 := fun w => c0 (o_inj (by omega) (by omega) (show Int32.ofNat (tZ a 29 0) = Int32.ofNat 0 from w))
        have c2 := fp_fdiv (Int32.ofNat (gN b (tZ a 29 0))) (n := tZ a 29 0) (by omega) P1
        rw [if_neg c0]
        simp (config := {decide := true}) only [gfI_enc, gfL_enc, gfR_enc, pfI_enc, pfL_enc, pfR_enc, Option.bind_some, cI_v, cL_v, cF_v, cD_v, cR_v, cV_v, cI_x, cL_x, cR_x, cV_x, gz_0, gz_1, acc_enc, tI_sI, tL_sI, tR_sI, tN_sI, tZ_sI, tC_sI, tc_sI, tz_sI, tI_sL, tL_sL, tR_sL, tN_sL, tZ_sL, tC_sL, tc_sL, tz_sL, tI_sR, tL_sR, tR_sR, tN_sR, tZ_sR, tC_sR, tc_sR, tz_sR, tI_sZ, tL_sZ, tR_sZ, tN_sZ, tZ_sZ, tC_sZ, tc_sZ, tz_sZ, tI_sC, tL_sC, tR_sC, tN_sC, tZ_sC, tC_sC, tc_sC, tz_sC, tI_aC, tL_aC, tR_aC, tN_aC, tZ_aC, tC_aC, tc_aC, tz_aC, tI_rmL, tL_rmL, tR_rmL, tN_rmL, tZ_rmL, tC_rmL, tc_rmL, tz_rmL, tI_mk, tL_mk, tR_mk, tN_mk, tZ_mk, tC_mk, tc_mk, tz_mk, tI_pushL, tL_pushL, tR_pushL, tN_pushL, tZ_pushL, tC_pushL, tc_pushL, tz_pushL, tI_pushB, tL_pushB, tR_pushB, tN_pushB, tZ_pushB, tC_pushB, tc_pushB, tz_pushB, tI_cpL, tL_cpL, tR_cpL, tN_cpL, tZ_cpL, tC_cpL, tc_cpL, tz_cpL, eq_self, true_and, and_true, false_and, and_false, if_true, if_false, reduceIte, ite_true, ite_false, not_true_eq_false, not_false_eq_true, frN_97 hF, frR_97_2 hF, frN_93 hF, q8, q, c1, c2]
    | succ k ih =>
      intro j hj
      have hjn : j < tZ a 29 0 := by omega
      have hF := r_FR (stP_core h1 j).1.1
      have q : ¬ Int32.ofNat (tZ a 29 0) ≤ Int32.ofNat j := by rw [o_le (by omega) (by omega)]; omega
      have q8 := ((stP_c (sI b 97 0 8 0) j).2.2.2).trans P4
      have f287 : ∀ z, Ex 287 [aR (some (97, 0)), aI (Int32.ofNat j)] (enc 2 (stP (sI b 97 0 8 0) j) z) = some (.inl (some (aI (if tI b 87 0 (10 * j) = 0 ∨ tI b 87 0 (10 * j) = 2 then 1 else 0))), enc 2 (stP (sI b 97 0 8 0) (j + 1)) z) := fun z => by
        have := y287P (z := z) h1 hjn (j := j)
        rw [i87] at this
        exact this
      have hi := ih (j + 1) (by omega)
      rw [lf_289_9]
      unfold gN at hi
      by_cases eg : tI b 87 0 (10 * j) = 0 ∨ tI b 87 0 (10 * j) = 2
      · rw [if_pos eg] at hi
        have n10 : ¬ (1 : Int32) = 0 := by decide
        simp only [if_pos eg] at f287
        simp (config := {decide := true}) only [gfI_enc, gfL_enc, gfR_enc, pfI_enc, pfL_enc, pfR_enc, Option.bind_some, cI_v, cL_v, cF_v, cD_v, cR_v, cV_v, cI_x, cL_x, cR_x, cV_x, gz_0, gz_1, acc_enc, tI_sI, tL_sI, tR_sI, tN_sI, tZ_sI, tC_sI, tc_sI, tz_sI, tI_sL, tL_sL, tR_sL, tN_sL, tZ_sL, tC_sL, tc_sL, tz_sL, tI_sR, tL_sR, tR_sR, tN_sR, tZ_sR, tC_sR, tc_sR, tz_sR, tI_sZ, tL_sZ, tR_sZ, tN_sZ, tZ_sZ, tC_sZ, tc_sZ, tz_sZ, tI_sC, tL_sC, tR_sC, tN_sC, tZ_sC, tC_sC, tc_sC, tz_sC, tI_aC, tL_aC, tR_aC, tN_aC, tZ_aC, tC_aC, tc_aC, tz_aC, tI_rmL, tL_rmL, tR_rmL, tN_rmL, tZ_rmL, tC_rmL, tc_rmL, tz_rmL, tI_mk, tL_mk, tR_mk, tN_mk, tZ_mk, tC_mk, tc_mk, tz_mk, tI_pushL, tL_pushL, tR_pushL, tN_pushL, tZ_pushL, tC_pushL, tc_pushL, tz_pushL, tI_pushB, tL_pushB, tR_pushB, tN_pushB, tZ_pushB, tC_pushB, tc_pushB, tz_pushB, tI_cpL, tL_cpL, tR_cpL, tN_cpL, tZ_cpL, tC_cpL, tc_cpL, tz_cpL, eq_self, true_and, and_true, false_and, and_false, if_true, if_false, reduceIte, ite_true, ite_false, not_true_eq_false, not_false_eq_true, frN_97 hF, frR_97_2 hF, frN_93 hF, q8, q, f287, n10, o_s]
        exact hi
      · rw [if_neg eg] at hi
        simp only [if_neg eg] at f287
        simp (config := {decide := true}) only [gfI_enc, gfL_enc, gfR_enc, pfI_enc, pfL_enc, pfR_enc, Option.bind_some, cI_v, cL_v, cF_v, cD_v, cR_v, cV_v, cI_x, cL_x, cR_x, cV_x, gz_0, gz_1, acc_enc, tI_sI, tL_sI, tR_sI, tN_sI, tZ_sI, tC_sI, tc_sI, tz_sI, tI_sL, tL_sL, tR_sL, tN_sL, tZ_sL, tC_sL, tc_sL, tz_sL, tI_sR, tL_sR, tR_sR, tN_sR, tZ_sR, tC_sR, tc_sR, tz_sR, tI_sZ, tL_sZ, tR_sZ, tN_sZ, tZ_sZ, tC_sZ, tc_sZ, tz_sZ, tI_sC, tL_sC, tR_sC, tN_sC, tZ_sC, tC_sC, tc_sC, tz_sC, tI_aC, tL_aC, tR_aC, tN_aC, tZ_aC, tC_aC, tc_aC, tz_aC, tI_rmL, tL_rmL, tR_rmL, tN_rmL, tZ_rmL, tC_rmL, tc_rmL, tz_rmL, tI_mk, tL_mk, tR_mk, tN_mk, tZ_mk, tC_mk, tc_mk, tz_mk, tI_pushL, tL_pushL, tR_pushL, tN_pushL, tZ_pushL, tC_pushL, tc_pushL, tz_pushL, tI_pushB, tL_pushB, tR_pushB, tN_pushB, tZ_pushB, tC_pushB, tc_pushB, tz_pushB, tI_cpL, tL_cpL, tR_cpL, tN_cpL, tZ_cpL, tC_cpL, tc_cpL, tz_cpL, eq_self, true_and, and_true, false_and, and_false, if_true, if_false, reduceIte, ite_true, ite_false, not_true_eq_false, not_false_eq_true, frN_97 hF, frR_97_2 hF, frN_93 hF, q8, q, f287, o_s, Int32.add_zero]
        exact hi
  refine (X_in (by decide +kernel) (frN_97 hFR) rfl).trans ((lf_289_0 ..).trans ?_)
  simp (config := {decide := true}) only [gfI_enc, gfL_enc, gfR_enc, pfI_enc, pfL_enc, pfR_enc, Option.bind_some, cI_v, cL_v, cF_v, cD_v, cR_v, cV_v, cI_x, cL_x, cR_x, cV_x, gz_0, gz_1, acc_enc, tI_sI, tL_sI, tR_sI, tN_sI, tZ_sI, tC_sI, tc_sI, tz_sI, tI_sL, tL_sL, tR_sL, tN_sL, tZ_sL, tC_sL, tc_sL, tz_sL, tI_sR, tL_sR, tR_sR, tN_sR, tZ_sR, tC_sR, tc_sR, tz_sR, tI_sZ, tL_sZ, tR_sZ, tN_sZ, tZ_sZ, tC_sZ, tc_sZ, tz_sZ, tI_sC, tL_sC, tR_sC, tN_sC, tZ_sC, tC_sC, tc_sC, tz_sC, tI_aC, tL_aC, tR_aC, tN_aC, tZ_aC, tC_aC, tc_aC, tz_aC, tI_rmL, tL_rmL, tR_rmL, tN_rmL, tZ_rmL, tC_rmL, tc_rmL, tz_rmL, tI_mk, tL_mk, tR_mk, tN_mk, tZ_mk, tC_mk, tc_mk, tz_mk, tI_pushL, tL_pushL, tR_pushL, tN_pushL, tZ_pushL, tC_pushL, tc_pushL, tz_pushL, tI_pushB, tL_pushB, tR_pushB, tN_pushB, tZ_pushB, tC_pushB, tc_pushB, tz_pushB, tI_cpL, tL_cpL, tR_cpL, tN_cpL, tZ_cpL, tC_cpL, tc_cpL, tz_cpL, eq_self, true_and, and_true, false_and, and_false, if_true, if_false, reduceIte, ite_true, ite_false, not_true_eq_false, not_false_eq_true, frN_97 hFR]
  exact loop (tZ a 29 0) 0 (by omega)
theorem q_share {a b : TS} {C : Nat} (h : Core a b C) : PubR aF 133 [aR (some (96, 0))] 289 [aR (some (97, 0))] k0 a b C C := by
  obtain ⟨u1, u2, u3, -⟩ := stP_c (sI b 97 0 8 0) (tZ a 29 0)
  exact q_ok h (sVal b (tZ a 29 0)) (fun z => x133 h) (fun z => y289 h) (chF_t th_c u1) (th_w.t u2) ((u3 97 0 8 (by decide)).trans th_v)
/-! is a number posted -/
theorem x17 {a b : TS} {z : Hp} {n : Nat} (hR : R0 a b) (hn : n < 1000) : Ex 17 [aR (some (30, 0)), aI (Int32.ofNat n)] (enc 1 a z) = some (.inl (some (aI (hI b n 8))), enc 1 a z) := by
  have hF := r_FC hR
  have hK : RK a b := hR.2.2.2.2.2.2.2.2.2.2.2.2.2.1
  obtain ⟨⟨K1, -, -⟩, -, K3⟩ := hK
  obtain ⟨-, -, -, -, ⟨b8, kP0, kP⟩⟩ := K3 n hn
  have f14 := fun z => x14 (a := a) (z := z) hF hn
  have n10 : ¬ (1 : Int32) = 0 := by decide
  refine (X_in (by decide +kernel) (fcN_30 hF) rfl).trans ((lf_17_0 ..).trans ?_)
  rcases K1 n hn with hno | ⟨j, j1, hj⟩
  · have z8 : hI b n 8 = 0 := Classical.byContradiction (fun q => by
      obtain ⟨i, k, t, s, -, -, -, -, h1, -⟩ := kP q
      rw [kR_none hno] at h1
      cases h1)
    simp (config := {decide := true}) only [gfI_enc, gfL_enc, gfR_enc, pfI_enc, pfL_enc, pfR_enc, Option.bind_some, cI_v, cL_v, cF_v, cD_v, cR_v, cV_v, cI_x, cL_x, cR_x, cV_x, gz_0, gz_1, acc_enc, tI_sI, tL_sI, tR_sI, tN_sI, tZ_sI, tC_sI, tc_sI, tz_sI, tI_sL, tL_sL, tR_sL, tN_sL, tZ_sL, tC_sL, tc_sL, tz_sL, tI_sR, tL_sR, tR_sR, tN_sR, tZ_sR, tC_sR, tc_sR, tz_sR, tI_sZ, tL_sZ, tR_sZ, tN_sZ, tZ_sZ, tC_sZ, tc_sZ, tz_sZ, tI_sC, tL_sC, tR_sC, tN_sC, tZ_sC, tC_sC, tc_sC, tz_sC, tI_aC, tL_aC, tR_aC, tN_aC, tZ_aC, tC_aC, tc_aC, tz_aC, tI_rmL, tL_rmL, tR_rmL, tN_rmL, tZ_rmL, tC_rmL, tc_rmL, tz_rmL, tI_mk, tL_mk, tR_mk, tN_mk, tZ_mk, tC_mk, tc_mk, tz_mk, tI_pushL, tL_pushL, tR_pushL, tN_pushL, tZ_pushL, tC_pushL, tc_pushL, tz_pushL, tI_pushB, tL_pushB, tR_pushB, tN_pushB, tZ_pushB, tC_pushB, tc_pushB, tz_pushB, tI_cpL, tL_cpL, tR_cpL, tN_cpL, tZ_cpL, tC_cpL, tc_cpL, tz_cpL, eq_self, true_and, and_true, false_and, and_false, if_true, if_false, reduceIte, ite_true, ite_false, not_true_eq_false, not_false_eq_true, f14, hno, z8]
  · have f29 := fun z => x29 (a := a) (z := z) j1
    rw [kR_some hj] at kP0
    rcases bit01 b8 with q | q
    · simp (config := {decide := true}) only [gfI_enc, gfL_enc, gfR_enc, pfI_enc, pfL_enc, pfR_enc, Option.bind_some, cI_v, cL_v, cF_v, cD_v, cR_v, cV_v, cI_x, cL_x, cR_x, cV_x, gz_0, gz_1, acc_enc, tI_sI, tL_sI, tR_sI, tN_sI, tZ_sI, tC_sI, tc_sI, tz_sI, tI_sL, tL_sL, tR_sL, tN_sL, tZ_sL, tC_sL, tc_sL, tz_sL, tI_sR, tL_sR, tR_sR, tN_sR, tZ_sR, tC_sR, tc_sR, tz_sR, tI_sZ, tL_sZ, tR_sZ, tN_sZ, tZ_sZ, tC_sZ, tc_sZ, tz_sZ, tI_sC, tL_sC, tR_sC, tN_sC, tZ_sC, tC_sC, tc_sC, tz_sC, tI_aC, tL_aC, tR_aC, tN_aC, tZ_aC, tC_aC, tc_aC, tz_aC, tI_rmL, tL_rmL, tR_rmL, tN_rmL, tZ_rmL, tC_rmL, tc_rmL, tz_rmL, tI_mk, tL_mk, tR_mk, tN_mk, tZ_mk, tC_mk, tc_mk, tz_mk, tI_pushL, tL_pushL, tR_pushL, tN_pushL, tZ_pushL, tC_pushL, tc_pushL, tz_pushL, tI_pushB, tL_pushB, tR_pushB, tN_pushB, tZ_pushB, tC_pushB, tc_pushB, tz_pushB, tI_cpL, tL_cpL, tR_cpL, tN_cpL, tZ_cpL, tC_cpL, tc_cpL, tz_cpL, eq_self, true_and, and_true, false_and, and_false, if_true, if_false, reduceIte, ite_true, ite_false, not_true_eq_false, not_false_eq_true, f14, hj, reduceCtorEq, f29, kP0 q, q]
    · obtain ⟨i, k, t, s, -, -, -, -, h1, -⟩ := kP (by rw [q]; decide)
      rw [kR_some hj] at h1
      simp (config := {decide := true}) only [gfI_enc, gfL_enc, gfR_enc, pfI_enc, pfL_enc, pfR_enc, Option.bind_some, cI_v, cL_v, cF_v, cD_v, cR_v, cV_v, cI_x, cL_x, cR_x, cV_x, gz_0, gz_1, acc_enc, tI_sI, tL_sI, tR_sI, tN_sI, tZ_sI, tC_sI, tc_sI, tz_sI, tI_sL, tL_sL, tR_sL, tN_sL, tZ_sL, tC_sL, tc_sL, tz_sL, tI_sR, tL_sR, tR_sR, tN_sR, tZ_sR, tC_sR, tc_sR, tz_sR, tI_sZ, tL_sZ, tR_sZ, tN_sZ, tZ_sZ, tC_sZ, tc_sZ, tz_sZ, tI_sC, tL_sC, tR_sC, tN_sC, tZ_sC, tC_sC, tc_sC, tz_sC, tI_aC, tL_aC, tR_aC, tN_aC, tZ_aC, tC_aC, tc_aC, tz_aC, tI_rmL, tL_rmL, tR_rmL, tN_rmL, tZ_rmL, tC_rmL, tc_rmL, tz_rmL, tI_mk, tL_mk, tR_mk, tN_mk, tZ_mk, tC_mk, tc_mk, tz_mk, tI_pushL, tL_pushL, tR_pushL, tN_pushL, tZ_pushL, tC_pushL, tc_pushL, tz_pushL, tI_pushB, tL_pushB, tR_pushB, tN_pushB, tZ_pushB, tC_pushB, tc_pushB, tz_pushB, tI_cpL, tL_cpL, tR_cpL, tN_cpL, tZ_cpL, tC_cpL, tc_cpL, tz_cpL, eq_self, true_and, and_true, false_and, and_false, if_true, if_false, reduceIte, ite_true, ite_false, not_true_eq_false, not_false_eq_true, f14, hj, reduceCtorEq, f29, h1, q, n10]
theorem y179 {a b : TS} {z : Hp} {n : Nat} (hR : R0 a b) (hn : n < 1000) : Ex 179 [aR (some (94, 0)), aI (Int32.ofNat n)] (enc 2 b z) = some (.inl (some (aI (hI b n 8))), enc 2 b z) := by
  have hF := r_FR hR
  have hK : RK a b := hR.2.2.2.2.2.2.2.2.2.2.2.2.2.1
  obtain ⟨-, ⟨K1, -⟩, K3⟩ := hK
  obtain ⟨-, -, -, -, ⟨b8, -⟩⟩ := K3 n hn
  have g1 : (Int32.ofNat n).toNatClampNeg = n := o_ix (by omega)
  have g2 : ¬ Int32.ofNat n < 0 := o_lt0 (by omega)
  have n10 : ¬ (1 : Int32) = 0 := by decide
  refine (X_in (by decide +kernel) (frN_94 hF) rfl).trans ((lf_179_0 ..).trans ?_)
  rcases K1 n hn with hno | ⟨j, j1, hj⟩
  · have z8 : hI b n 8 = 0 := by rw [hI_none hno]; rfl
    simp (config := {decide := true}) only [gfI_enc, gfL_enc, gfR_enc, pfI_enc, pfL_enc, pfR_enc, Option.bind_some, cI_v, cL_v, cF_v, cD_v, cR_v, cV_v, cI_x, cL_x, cR_x, cV_x, gz_0, gz_1, acc_enc, tI_sI, tL_sI, tR_sI, tN_sI, tZ_sI, tC_sI, tc_sI, tz_sI, tI_sL, tL_sL, tR_sL, tN_sL, tZ_sL, tC_sL, tc_sL, tz_sL, tI_sR, tL_sR, tR_sR, tN_sR, tZ_sR, tC_sR, tc_sR, tz_sR, tI_sZ, tL_sZ, tR_sZ, tN_sZ, tZ_sZ, tC_sZ, tc_sZ, tz_sZ, tI_sC, tL_sC, tR_sC, tN_sC, tZ_sC, tC_sC, tc_sC, tz_sC, tI_aC, tL_aC, tR_aC, tN_aC, tZ_aC, tC_aC, tc_aC, tz_aC, tI_rmL, tL_rmL, tR_rmL, tN_rmL, tZ_rmL, tC_rmL, tc_rmL, tz_rmL, tI_mk, tL_mk, tR_mk, tN_mk, tZ_mk, tC_mk, tc_mk, tz_mk, tI_pushL, tL_pushL, tR_pushL, tN_pushL, tZ_pushL, tC_pushL, tc_pushL, tz_pushL, tI_pushB, tL_pushB, tR_pushB, tN_pushB, tZ_pushB, tC_pushB, tc_pushB, tz_pushB, tI_cpL, tL_cpL, tR_cpL, tN_cpL, tZ_cpL, tC_cpL, tc_cpL, tz_cpL, eq_self, true_and, and_true, false_and, and_false, if_true, if_false, reduceIte, ite_true, ite_false, not_true_eq_false, not_false_eq_true, g1, g2, frN_94 hF, frR_94_2 hF, frN_53 hF, frZ_53 hF, gaR_enc, hn, hno, z8]
  · rw [hI_some hj] at b8 ⊢
    rcases bit01 b8 with q | q
    · simp (config := {decide := true}) only [gfI_enc, gfL_enc, gfR_enc, pfI_enc, pfL_enc, pfR_enc, Option.bind_some, cI_v, cL_v, cF_v, cD_v, cR_v, cV_v, cI_x, cL_x, cR_x, cV_x, gz_0, gz_1, acc_enc, tI_sI, tL_sI, tR_sI, tN_sI, tZ_sI, tC_sI, tc_sI, tz_sI, tI_sL, tL_sL, tR_sL, tN_sL, tZ_sL, tC_sL, tc_sL, tz_sL, tI_sR, tL_sR, tR_sR, tN_sR, tZ_sR, tC_sR, tc_sR, tz_sR, tI_sZ, tL_sZ, tR_sZ, tN_sZ, tZ_sZ, tC_sZ, tc_sZ, tz_sZ, tI_sC, tL_sC, tR_sC, tN_sC, tZ_sC, tC_sC, tc_sC, tz_sC, tI_aC, tL_aC, tR_aC, tN_aC, tZ_aC, tC_aC, tc_aC, tz_aC, tI_rmL, tL_rmL, tR_rmL, tN_rmL, tZ_rmL, tC_rmL, tc_rmL, tz_rmL, tI_mk, tL_mk, tR_mk, tN_mk, tZ_mk, tC_mk, tc_mk, tz_mk, tI_pushL, tL_pushL, tR_pushL, tN_pushL, tZ_pushL, tC_pushL, tc_pushL, tz_pushL, tI_pushB, tL_pushB, tR_pushB, tN_pushB, tZ_pushB, tC_pushB, tc_pushB, tz_pushB, tI_cpL, tL_cpL, tR_cpL, tN_cpL, tZ_cpL, tC_cpL, tc_cpL, tz_cpL, eq_self, true_and, and_true, false_and, and_false, if_true, if_false, reduceIte, ite_true, ite_false, not_true_eq_false, not_false_eq_true, g1, g2, frN_94 hF, frR_94_2 hF, frN_53 hF, frZ_53 hF, gaR_enc, hn, hj, reduceCtorEq, j1, q]
    · simp (config := {decide := true}) only [gfI_enc, gfL_enc, gfR_enc, pfI_enc, pfL_enc, pfR_enc, Option.bind_some, cI_v, cL_v, cF_v, cD_v, cR_v, cV_v, cI_x, cL_x, cR_x, cV_x, gz_0, gz_1, acc_enc, tI_sI, tL_sI, tR_sI, tN_sI, tZ_sI, tC_sI, tc_sI, tz_sI, tI_sL, tL_sL, tR_sL, tN_sL, tZ_sL, tC_sL, tc_sL, tz_sL, tI_sR, tL_sR, tR_sR, tN_sR, tZ_sR, tC_sR, tc_sR, tz_sR, tI_sZ, tL_sZ, tR_sZ, tN_sZ, tZ_sZ, tC_sZ, tc_sZ, tz_sZ, tI_sC, tL_sC, tR_sC, tN_sC, tZ_sC, tC_sC, tc_sC, tz_sC, tI_aC, tL_aC, tR_aC, tN_aC, tZ_aC, tC_aC, tc_aC, tz_aC, tI_rmL, tL_rmL, tR_rmL, tN_rmL, tZ_rmL, tC_rmL, tc_rmL, tz_rmL, tI_mk, tL_mk, tR_mk, tN_mk, tZ_mk, tC_mk, tc_mk, tz_mk, tI_pushL, tL_pushL, tR_pushL, tN_pushL, tZ_pushL, tC_pushL, tc_pushL, tz_pushL, tI_pushB, tL_pushB, tR_pushB, tN_pushB, tZ_pushB, tC_pushB, tc_pushB, tz_pushB, tI_cpL, tL_cpL, tR_cpL, tN_cpL, tZ_cpL, tC_cpL, tc_cpL, tz_cpL, eq_self, true_and, and_true, false_and, and_false, if_true, if_false, reduceIte, ite_true, ite_false, not_true_eq_false, not_false_eq_true, g1, g2, frN_94 hF, frR_94_2 hF, frN_53 hF, frZ_53 hF, gaR_enc, hn, hj, reduceCtorEq, j1, q, n10]
/-- the checksum of the first j payments -/
def ckV (b : TS) : Nat → Int64
  | 0 => 0
  | j + 1 => ((((31 : Int64) * ckV b j + (tI b 87 0 (10 * j)).toInt64) + ((7 : Int64) * (tI b 87 0 (10 * j + 3)).toInt64)) + ((3 : Int64) * (tI b 87 0 (10 * j + 4)).toInt64)) + (if hI b j 8 = 0 then 0 else 1000)
theorem ckV_s (b : TS) (j : Nat) : ckV b (j + 1) = ((((31 : Int64) * ckV b j + (tI b 87 0 (10 * j)).toInt64) + ((7 : Int64) * (tI b 87 0 (10 * j + 3)).toInt64)) + ((3 : Int64) * (tI b 87 0 (10 * j + 4)).toInt64)) + (if hI b j 8 = 0 then 0 else 1000) := rfl
theorem x134 {a b : TS} {z : Hp} {C : Nat} (h : Core a b C) : Ex 134 [aR (some (96, 0))] (enc 1 a z) = some (.inl (some (aL (ckV b (tZ a 29 0)))), enc 1 a z) := by
  have hR := h.1.1
  have hF := r_FC hR
  have P1 := (r_P' hR).1
  have loop : ∀ k j, j + k = tZ a 29 0 → Ru 134 4 [(0, aR (some (96, 0))), (1, aL (ckV b j)), (3, aI (Int32.ofNat j))] [] (enc 1 a z) = some (.inl (some (aL (ckV b (tZ a 29 0)))), enc 1 a z) := by
    intro k
    induction k with
    | zero =>
      intro j hj
      have e : j = tZ a 29 0 := by omega
      subst e
      have q : Int32.ofNat (tZ a 29 0) ≤ Int32.ofNat (tZ a 29 0) := Int32.le_refl _
      rw [lf_134_4]
      simp (config := {decide := true}) only [gfI_enc, gfL_enc, gfR_enc, pfI_enc, pfL_enc, pfR_enc, Option.bind_some, cI_v, cL_v, cF_v, cD_v, cR_v, cV_v, cI_x, cL_x, cR_x, cV_x, gz_0, gz_1, acc_enc, tI_sI, tL_sI, tR_sI, tN_sI, tZ_sI, tC_sI, tc_sI, tz_sI, tI_sL, tL_sL, tR_sL, tN_sL, tZ_sL, tC_sL, tc_sL, tz_sL, tI_sR, tL_sR, tR_sR, tN_sR, tZ_sR, tC_sR, tc_sR, tz_sR, tI_sZ, tL_sZ, tR_sZ, tN_sZ, tZ_sZ, tC_sZ, tc_sZ, tz_sZ, tI_sC, tL_sC, tR_sC, tN_sC, tZ_sC, tC_sC, tc_sC, tz_sC, tI_aC, tL_aC, tR_aC, tN_aC, tZ_aC, tC_aC, tc_aC, tz_aC, tI_rmL, tL_rmL, tR_rmL, tN_rmL, tZ_rmL, tC_rmL, tc_rmL, tz_rmL, tI_mk, tL_mk, tR_mk, tN_mk, tZ_mk, tC_mk, tc_mk, tz_mk, tI_pushL, tL_pushL, tR_pushL, tN_pushL, tZ_pushL, tC_pushL, tc_pushL, tz_pushL, tI_pushB, tL_pushB, tR_pushB, tN_pushB, tZ_pushB, tC_pushB, tc_pushB, tz_pushB, tI_cpL, tL_cpL, tR_cpL, tN_cpL, tZ_cpL, tC_cpL, tc_cpL, tz_cpL, eq_self, true_and, and_true, false_and, and_false, if_true, if_false, reduceIte, ite_true, ite_false, not_true_eq_false, not_false_eq_true, fcN_96 hF, fcR_96_5 hF, X405, fcN_29 hF, q]
    | succ k ih =>
      intro j hj
      have hjn : j < tZ a 29 0 := by omega
      have q : ¬ Int32.ofNat (tZ a 29 0) ≤ Int32.ofNat j := by rw [o_le (by omega) (by omega)]; omega
      have g1 : (Int32.ofNat j).toNatClampNeg = j := o_ix (by omega)
      have g2 : ¬ Int32.ofNat j < 0 := o_lt0 (by omega)
      obtain ⟨r1, r2, -, d7, d3, d4, -⟩ := pay_at hR hjn
      have f17 := fun z => x17 (z := z) hR (n := j) (by omega)
      have hi := ih (j + 1) (by omega)
      rw [lf_134_4]
      rw [ckV_s b j] at hi
      by_cases e : hI b j 8 = 0
      · rw [if_pos e] at hi
        simp (config := {decide := true}) only [gfI_enc, gfL_enc, gfR_enc, pfI_enc, pfL_enc, pfR_enc, Option.bind_some, cI_v, cL_v, cF_v, cD_v, cR_v, cV_v, cI_x, cL_x, cR_x, cV_x, gz_0, gz_1, acc_enc, tI_sI, tL_sI, tR_sI, tN_sI, tZ_sI, tC_sI, tc_sI, tz_sI, tI_sL, tL_sL, tR_sL, tN_sL, tZ_sL, tC_sL, tc_sL, tz_sL, tI_sR, tL_sR, tR_sR, tN_sR, tZ_sR, tC_sR, tc_sR, tz_sR, tI_sZ, tL_sZ, tR_sZ, tN_sZ, tZ_sZ, tC_sZ, tc_sZ, tz_sZ, tI_sC, tL_sC, tR_sC, tN_sC, tZ_sC, tC_sC, tc_sC, tz_sC, tI_aC, tL_aC, tR_aC, tN_aC, tZ_aC, tC_aC, tc_aC, tz_aC, tI_rmL, tL_rmL, tR_rmL, tN_rmL, tZ_rmL, tC_rmL, tc_rmL, tz_rmL, tI_mk, tL_mk, tR_mk, tN_mk, tZ_mk, tC_mk, tc_mk, tz_mk, tI_pushL, tL_pushL, tR_pushL, tN_pushL, tZ_pushL, tC_pushL, tc_pushL, tz_pushL, tI_pushB, tL_pushB, tR_pushB, tN_pushB, tZ_pushB, tC_pushB, tc_pushB, tz_pushB, tI_cpL, tL_cpL, tR_cpL, tN_cpL, tZ_cpL, tC_cpL, tc_cpL, tz_cpL, eq_self, true_and, and_true, false_and, and_false, if_true, if_false, reduceIte, ite_true, ite_false, not_true_eq_false, not_false_eq_true, fcN_96 hF, fcR_96_5 hF, fcR_96_6 hF, X405, X402, fcN_29 hF, q, g1, g2, hjn, r1, r2, d7, d3, d4, f17, e, o_s]
        exact hi
      · rw [if_neg e] at hi
        simp (config := {decide := true}) only [gfI_enc, gfL_enc, gfR_enc, pfI_enc, pfL_enc, pfR_enc, Option.bind_some, cI_v, cL_v, cF_v, cD_v, cR_v, cV_v, cI_x, cL_x, cR_x, cV_x, gz_0, gz_1, acc_enc, tI_sI, tL_sI, tR_sI, tN_sI, tZ_sI, tC_sI, tc_sI, tz_sI, tI_sL, tL_sL, tR_sL, tN_sL, tZ_sL, tC_sL, tc_sL, tz_sL, tI_sR, tL_sR, tR_sR, tN_sR, tZ_sR, tC_sR, tc_sR, tz_sR, tI_sZ, tL_sZ, tR_sZ, tN_sZ, tZ_sZ, tC_sZ, tc_sZ, tz_sZ, tI_sC, tL_sC, tR_sC, tN_sC, tZ_sC, tC_sC, tc_sC, tz_sC, tI_aC, tL_aC, tR_aC, tN_aC, tZ_aC, tC_aC, tc_aC, tz_aC, tI_rmL, tL_rmL, tR_rmL, tN_rmL, tZ_rmL, tC_rmL, tc_rmL, tz_rmL, tI_mk, tL_mk, tR_mk, tN_mk, tZ_mk, tC_mk, tc_mk, tz_mk, tI_pushL, tL_pushL, tR_pushL, tN_pushL, tZ_pushL, tC_pushL, tc_pushL, tz_pushL, tI_pushB, tL_pushB, tR_pushB, tN_pushB, tZ_pushB, tC_pushB, tc_pushB, tz_pushB, tI_cpL, tL_cpL, tR_cpL, tN_cpL, tZ_cpL, tC_cpL, tc_cpL, tz_cpL, eq_self, true_and, and_true, false_and, and_false, if_true, if_false, reduceIte, ite_true, ite_false, not_true_eq_false, not_false_eq_true, fcN_96 hF, fcR_96_5 hF, fcR_96_6 hF, X405, X402, fcN_29 hF, q, g1, g2, hjn, r1, r2, d7, d3, d4, f17, e, o_s]
        exact hi
  refine (X_in (by decide +kernel) (fcN_96 hF) rfl).trans ((lf_134_0 ..).trans ?_)
  exact loop (tZ a 29 0) 0 (by omega)
theorem hI_P (b : TS) (j n f : Nat) : hI (stP b j) n f = hI b n f := by
  unfold stP
  split
  · rfl
  · unfold hI
    rw [tR_sI]
    split
    · rw [tI_sI, if_neg (fun q => absurd q.1 (by decide))]
    · rfl
theorem y290 {a b : TS} {z : Hp} {C : Nat} (h : Core a b C) : Ex 290 [aR (some (97, 0))] (enc 2 b z) = some (.inl (some (aL (ckV b (tZ a 29 0)))), enc 2 (stP (sI b 97 0 8 0) (tZ a 29 0)) z) := by
  have hR := h.1.1
  have hFR := r_FR hR
  have h1 : Core a (sI b 97 0 8 0) C := Core_th h th_c th_w
  obtain ⟨P1, -, P3, P4, P5, -⟩ := r_P' h1.1.1
  have i87 : ∀ k, tI (sI b 97 0 8 0) 87 0 k = tI b 87 0 k := fun k => by rw [tI_sI, if_neg (fun q => absurd q.1 (by decide))]
  have ihI : ∀ j n, hI (stP (sI b 97 0 8 0) j) n 8 = hI b n 8 := fun j n => by
    rw [hI_P]
    unfold hI
    rw [tR_sI]
    split
    · rw [tI_sI, if_neg (fun q => absurd q.1 (by decide))]
    · rfl
  have loop : ∀ k j, j + k = tZ a 29 0 → Ru 290 9 [(0, aR (some (97, 0))), (1, aL (ckV b j)), (3, aI (Int32.ofNat j))] [] (enc 2 (stP (sI b 97 0 8 0) j) z) = some (.inl (some (aL (ckV b (tZ a 29 0)))), enc 2 (stP (sI b 97 0 8 0) (tZ a 29 0)) z) := by
    intro k
    induction k with
    | zero =>
      intro j hj
      have e : j = tZ a 29 0 := by omega
      subst e
      have hF := r_FR (stP_core h1 (tZ a 29 0)).1.1
      have q : Int32.ofNat (tZ a 29 0) ≤ Int32.ofNat (tZ a 29 0) := Int32.le_refl _
      have q8 := ((stP_c (sI b 97 0 8 0) (tZ a 29 0)).2.2.2).trans P4
      rw [lf_290_9]
      simp (config := {decide := true}) only [gfI_enc, gfL_enc, gfR_enc, pfI_enc, pfL_enc, pfR_enc, Option.bind_some, cI_v, cL_v, cF_v, cD_v, cR_v, cV_v, cI_x, cL_x, cR_x, cV_x, gz_0, gz_1, acc_enc, tI_sI, tL_sI, tR_sI, tN_sI, tZ_sI, tC_sI, tc_sI, tz_sI, tI_sL, tL_sL, tR_sL, tN_sL, tZ_sL, tC_sL, tc_sL, tz_sL, tI_sR, tL_sR, tR_sR, tN_sR, tZ_sR, tC_sR, tc_sR, tz_sR, tI_sZ, tL_sZ, tR_sZ, tN_sZ, tZ_sZ, tC_sZ, tc_sZ, tz_sZ, tI_sC, tL_sC, tR_sC, tN_sC, tZ_sC, tC_sC, tc_sC, tz_sC, tI_aC, tL_aC, tR_aC, tN_aC, tZ_aC, tC_aC, tc_aC, tz_aC, tI_rmL, tL_rmL, tR_rmL, tN_rmL, tZ_rmL, tC_rmL, tc_rmL, tz_rmL, tI_mk, tL_mk, tR_mk, tN_mk, tZ_mk, tC_mk, tc_mk, tz_mk, tI_pushL, tL_pushL, tR_pushL, tN_pushL, tZ_pushL, tC_pushL, tc_pushL, tz_pushL, tI_pushB, tL_pushB, tR_pushB, tN_pushB, tZ_pushB, tC_pushB, tc_pushB, tz_pushB, tI_cpL, tL_cpL, tR_cpL, tN_cpL, tZ_cpL, tC_cpL, tc_cpL, tz_cpL, eq_self, true_and, and_true, false_and, and_false, if_true, if_false, reduceIte, ite_true, ite_false, not_true_eq_false, not_false_eq_true, frN_97 hF, frR_97_2 hF, frN_93 hF, q8, q]
    | succ k ih =>
      intro j hj
      have hjn : j < tZ a 29 0 := by omega
      have hF := r_FR (stP_core h1 j).1.1
      have hF1 := r_FR (stP_core h1 (j + 1)).1.1
      have q : ¬ Int32.ofNat (tZ a 29 0) ≤ Int32.ofNat j := by rw [o_le (by omega) (by omega)]; omega
      have q8 := ((stP_c (sI b 97 0 8 0) j).2.2.2).trans P4
      have f0 : ∀ z, Ex 247 [aR (some (93, 0)), aI (Int32.ofNat j), aI 0] (enc 2 (stP (sI b 97 0 8 0) j) z) = some (.inl (some (aI (tI b 87 0 (10 * j)))), enc 2 (stP (sI b 97 0 8 0) (j + 1)) z) := fun z => by
        have := y247P (z := z) h1 hjn (w := 0) (j := j) (by omega)
        rw [i87] at this
        exact this
      have f3 : ∀ z, Ex 247 [aR (some (93, 0)), aI (Int32.ofNat j), aI 3] (enc 2 (stP (sI b 97 0 8 0) (j + 1)) z) = some (.inl (some (aI (tI b 87 0 (10 * j + 3)))), enc 2 (stP (sI b 97 0 8 0) (j + 1)) z) := fun z => by
        have := y247S (z := z) h1 hjn (w := 3) (j := j) (by omega)
        rw [i87] at this
        exact this
      have f4 : ∀ z, Ex 247 [aR (some (93, 0)), aI (Int32.ofNat j), aI 4] (enc 2 (stP (sI b 97 0 8 0) (j + 1)) z) = some (.inl (some (aI (tI b 87 0 (10 * j + 4)))), enc 2 (stP (sI b 97 0 8 0) (j + 1)) z) := fun z => by
        have := y247S (z := z) h1 hjn (w := 4) (j := j) (by omega)
        rw [i87] at this
        exact this
      have f179 : ∀ z, Ex 179 [aR (some (94, 0)), aI (Int32.ofNat j)] (enc 2 (stP (sI b 97 0 8 0) (j + 1)) z) = some (.inl (some (aI (hI b j 8))), enc 2 (stP (sI b 97 0 8 0) (j + 1)) z) := fun z => by
        have := y179 (z := z) (stP_core h1 (j + 1)).1.1 (n := j) (by omega)
        rw [ihI] at this
        exact this
      have hi := ih (j + 1) (by omega)
      rw [lf_290_9]
      rw [ckV_s b j] at hi
      by_cases e : hI b j 8 = 0
      · rw [if_pos e] at hi
        simp (config := {decide := true}) only [gfI_enc, gfL_enc, gfR_enc, pfI_enc, pfL_enc, pfR_enc, Option.bind_some, cI_v, cL_v, cF_v, cD_v, cR_v, cV_v, cI_x, cL_x, cR_x, cV_x, gz_0, gz_1, acc_enc, tI_sI, tL_sI, tR_sI, tN_sI, tZ_sI, tC_sI, tc_sI, tz_sI, tI_sL, tL_sL, tR_sL, tN_sL, tZ_sL, tC_sL, tc_sL, tz_sL, tI_sR, tL_sR, tR_sR, tN_sR, tZ_sR, tC_sR, tc_sR, tz_sR, tI_sZ, tL_sZ, tR_sZ, tN_sZ, tZ_sZ, tC_sZ, tc_sZ, tz_sZ, tI_sC, tL_sC, tR_sC, tN_sC, tZ_sC, tC_sC, tc_sC, tz_sC, tI_aC, tL_aC, tR_aC, tN_aC, tZ_aC, tC_aC, tc_aC, tz_aC, tI_rmL, tL_rmL, tR_rmL, tN_rmL, tZ_rmL, tC_rmL, tc_rmL, tz_rmL, tI_mk, tL_mk, tR_mk, tN_mk, tZ_mk, tC_mk, tc_mk, tz_mk, tI_pushL, tL_pushL, tR_pushL, tN_pushL, tZ_pushL, tC_pushL, tc_pushL, tz_pushL, tI_pushB, tL_pushB, tR_pushB, tN_pushB, tZ_pushB, tC_pushB, tc_pushB, tz_pushB, tI_cpL, tL_cpL, tR_cpL, tN_cpL, tZ_cpL, tC_cpL, tc_cpL, tz_cpL, eq_self, true_and, and_true, false_and, and_false, if_true, if_false, reduceIte, ite_true, ite_false, not_true_eq_false, not_false_eq_true, frN_97 hF, frR_97_2 hF, frN_93 hF, q8, q, f0, frN_97 hF1, frR_97_2 hF1, frR_97_3 hF1, f3, f4, f179, e, o_s]
        exact hi
      · rw [if_neg e] at hi
        simp (config := {decide := true}) only [gfI_enc, gfL_enc, gfR_enc, pfI_enc, pfL_enc, pfR_enc, Option.bind_some, cI_v, cL_v, cF_v, cD_v, cR_v, cV_v, cI_x, cL_x, cR_x, cV_x, gz_0, gz_1, acc_enc, tI_sI, tL_sI, tR_sI, tN_sI, tZ_sI, tC_sI, tc_sI, tz_sI, tI_sL, tL_sL, tR_sL, tN_sL, tZ_sL, tC_sL, tc_sL, tz_sL, tI_sR, tL_sR, tR_sR, tN_sR, tZ_sR, tC_sR, tc_sR, tz_sR, tI_sZ, tL_sZ, tR_sZ, tN_sZ, tZ_sZ, tC_sZ, tc_sZ, tz_sZ, tI_sC, tL_sC, tR_sC, tN_sC, tZ_sC, tC_sC, tc_sC, tz_sC, tI_aC, tL_aC, tR_aC, tN_aC, tZ_aC, tC_aC, tc_aC, tz_aC, tI_rmL, tL_rmL, tR_rmL, tN_rmL, tZ_rmL, tC_rmL, tc_rmL, tz_rmL, tI_mk, tL_mk, tR_mk, tN_mk, tZ_mk, tC_mk, tc_mk, tz_mk, tI_pushL, tL_pushL, tR_pushL, tN_pushL, tZ_pushL, tC_pushL, tc_pushL, tz_pushL, tI_pushB, tL_pushB, tR_pushB, tN_pushB, tZ_pushB, tC_pushB, tc_pushB, tz_pushB, tI_cpL, tL_cpL, tR_cpL, tN_cpL, tZ_cpL, tC_cpL, tc_cpL, tz_cpL, eq_self, true_and, and_true, false_and, and_false, if_true, if_false, reduceIte, ite_true, ite_false, not_true_eq_false, not_false_eq_true, frN_97 hF, frR_97_2 hF, frN_93 hF, q8, q, f0, frN_97 hF1, frR_97_2 hF1, frR_97_3 hF1, f3, f4, f179, e, o_s]
        exact hi
  refine (X_in (by decide +kernel) (frN_97 hFR) rfl).trans ((lf_290_0 ..).trans ?_)
  simp (config := {decide := true}) only [gfI_enc, gfL_enc, gfR_enc, pfI_enc, pfL_enc, pfR_enc, Option.bind_some, cI_v, cL_v, cF_v, cD_v, cR_v, cV_v, cI_x, cL_x, cR_x, cV_x, gz_0, gz_1, acc_enc, tI_sI, tL_sI, tR_sI, tN_sI, tZ_sI, tC_sI, tc_sI, tz_sI, tI_sL, tL_sL, tR_sL, tN_sL, tZ_sL, tC_sL, tc_sL, tz_sL, tI_sR, tL_sR, tR_sR, tN_sR, tZ_sR, tC_sR, tc_sR, tz_sR, tI_sZ, tL_sZ, tR_sZ, tN_sZ, tZ_sZ, tC_sZ, tc_sZ, tz_sZ, tI_sC, tL_sC, tR_sC, tN_sC, tZ_sC, tC_sC, tc_sC, tz_sC, tI_aC, tL_aC, tR_aC, tN_aC, tZ_aC, tC_aC, tc_aC, tz_aC, tI_rmL, tL_rmL, tR_rmL, tN_rmL, tZ_rmL, tC_rmL, tc_rmL, tz_rmL, tI_mk, tL_mk, tR_mk, tN_mk, tZ_mk, tC_mk, tc_mk, tz_mk, tI_pushL, tL_pushL, tR_pushL, tN_pushL, tZ_pushL, tC_pushL, tc_pushL, tz_pushL, tI_pushB, tL_pushB, tR_pushB, tN_pushB, tZ_pushB, tC_pushB, tc_pushB, tz_pushB, tI_cpL, tL_cpL, tR_cpL, tN_cpL, tZ_cpL, tC_cpL, tc_cpL, tz_cpL, eq_self, true_and, and_true, false_and, and_false, if_true, if_false, reduceIte, ite_true, ite_false, not_true_eq_false, not_false_eq_true, frN_97 hFR]
  exact loop (tZ a 29 0) 0 (by omega)
theorem q_checksum {a b : TS} {C : Nat} (h : Core a b C) : PubR aL 134 [aR (some (96, 0))] 290 [aR (some (97, 0))] k0 a b C C := by
  obtain ⟨u1, u2, u3, -⟩ := stP_c (sI b 97 0 8 0) (tZ a 29 0)
  exact q_ok h (ckV b (tZ a 29 0)) (fun z => x134 h) (fun z => y290 h) (chF_t th_c u1) (th_w.t u2) ((u3 97 0 8 (by decide)).trans th_v)
