/-! ===== errors (class alone): states, holds, money; all of them ===== -/
/-! ===== errors: no payment that is posted is ungranted ===== -/
noncomputable def bdP (b : TS) (p : Nat) : Bool := decide (hI b p 8 ≠ 0 ∧ ¬ (tI b 87 0 (10 * p) = 0 ∨ tI b 87 0 (10 * p) = 2))
noncomputable def bdF (b : TS) : Nat → Nat → Bool
  | _, 0 => false
  | j, k + 1 => bdP b j || bdF b (j + 1) k
theorem x136 {a b : TS} {z : Hp} (hR : R0 a b) : Ex 136 [aR (some (96, 0))] (enc 1 a z) = some (.inl (some (aI (if bdF b 0 (tZ a 29 0) = true then 0 else 1))), enc 1 a z) := by
  have hF := r_FC hR
  have P1 := (r_P' hR).1
  have n10 : ¬ (1 : Int32) = 0 := by decide
  have loop : ∀ k j, j + k = tZ a 29 0 → Ru 136 2 [(0, aR (some (96, 0))), (1, aI (Int32.ofNat j))] [] (enc 1 a z) = some (.inl (some (aI (if bdF b j k = true then 0 else 1))), enc 1 a z) := by
    intro k
    induction k with
    | zero =>
      intro j hj
      have e : j = tZ a 29 0 := by omega
      subst e
      have q : Int32.ofNat (tZ a 29 0) ≤ Int32.ofNat (tZ a 29 0) := Int32.le_refl _
      have e0 : bdF b (tZ a 29 0) 0 = false := rfl
      rw [lf_136_2, e0]
      simp (config := {decide := true}) only [gfI_enc, gfL_enc, gfR_enc, pfI_enc, pfL_enc, pfR_enc, Option.bind_some, cI_v, cL_v, cF_v, cD_v, cR_v, cV_v, cI_x, cL_x, cR_x, cV_x, gz_0, gz_1, acc_enc, tI_sI, tL_sI, tR_sI, tN_sI, tZ_sI, tC_sI, tc_sI, tz_sI, tI_sL, tL_sL, tR_sL, tN_sL, tZ_sL, tC_sL, tc_sL, tz_sL, tI_sR, tL_sR, tR_sR, tN_sR, tZ_sR, tC_sR, tc_sR, tz_sR, tI_sZ, tL_sZ, tR_sZ, tN_sZ, tZ_sZ, tC_sZ, tc_sZ, tz_sZ, tI_sC, tL_sC, tR_sC, tN_sC, tZ_sC, tC_sC, tc_sC, tz_sC, tI_aC, tL_aC, tR_aC, tN_aC, tZ_aC, tC_aC, tc_aC, tz_aC, tI_rmL, tL_rmL, tR_rmL, tN_rmL, tZ_rmL, tC_rmL, tc_rmL, tz_rmL, tI_mk, tL_mk, tR_mk, tN_mk, tZ_mk, tC_mk, tc_mk, tz_mk, tI_pushL, tL_pushL, tR_pushL, tN_pushL, tZ_pushL, tC_pushL, tc_pushL, tz_pushL, tI_pushB, tL_pushB, tR_pushB, tN_pushB, tZ_pushB, tC_pushB, tc_pushB, tz_pushB, tI_cpL, tL_cpL, tR_cpL, tN_cpL, tZ_cpL, tC_cpL, tc_cpL, tz_cpL, eq_self, true_and, and_true, false_and, and_false, if_true, if_false, reduceIte, ite_true, ite_false, not_true_eq_false, not_false_eq_true, fcN_96 hF, fcR_96_5 hF, X405, fcN_29 hF, q, Bool.false_eq_true]
    | succ k ih =>
      intro j hj
      have hjn : j < tZ a 29 0 := by omega
      have q : ¬ Int32.ofNat (tZ a 29 0) ≤ Int32.ofNat j := by rw [o_le (by omega) (by omega)]; omega
      have g1 : (Int32.ofNat j).toNatClampNeg = j := o_ix (by omega)
      have g2 : ¬ Int32.ofNat j < 0 := o_lt0 (by omega)
      obtain ⟨r1, r2, -, d7, -⟩ := pay_at hR hjn
      have f45 := fun z => x45 (a := a) (z := z) r2
      rw [d7] at f45
      have f17 := fun z => x17 (z := z) hR (n := j) (by omega)
      have hi := ih (j + 1) (by omega)
      have es : bdF b j (k + 1) = (bdP b j || bdF b (j + 1) k) := rfl
      rw [lf_136_2, es]
      by_cases e : hI b j 8 = 0
      · have ep : bdP b j = false := decide_eq_false (fun w => w.1 e)
        rw [ep, Bool.false_or]
        simp (config := {decide := true}) only [gfI_enc, gfL_enc, gfR_enc, pfI_enc, pfL_enc, pfR_enc, Option.bind_some, cI_v, cL_v, cF_v, cD_v, cR_v, cV_v, cI_x, cL_x, cR_x, cV_x, gz_0, gz_1, acc_enc, tI_sI, tL_sI, tR_sI, tN_sI, tZ_sI, tC_sI, tc_sI, tz_sI, tI_sL, tL_sL, tR_sL, tN_sL, tZ_sL, tC_sL, tc_sL, tz_sL, tI_sR, tL_sR, tR_sR, tN_sR, tZ_sR, tC_sR, tc_sR, tz_sR, tI_sZ, tL_sZ, tR_sZ, tN_sZ, tZ_sZ, tC_sZ, tc_sZ, tz_sZ, tI_sC, tL_sC, tR_sC, tN_sC, tZ_sC, tC_sC, tc_sC, tz_sC, tI_aC, tL_aC, tR_aC, tN_aC, tZ_aC, tC_aC, tc_aC, tz_aC, tI_rmL, tL_rmL, tR_rmL, tN_rmL, tZ_rmL, tC_rmL, tc_rmL, tz_rmL, tI_mk, tL_mk, tR_mk, tN_mk, tZ_mk, tC_mk, tc_mk, tz_mk, tI_pushL, tL_pushL, tR_pushL, tN_pushL, tZ_pushL, tC_pushL, tc_pushL, tz_pushL, tI_pushB, tL_pushB, tR_pushB, tN_pushB, tZ_pushB, tC_pushB, tc_pushB, tz_pushB, tI_cpL, tL_cpL, tR_cpL, tN_cpL, tZ_cpL, tC_cpL, tc_cpL, tz_cpL, eq_self, true_and, and_true, false_and, and_false, if_true, if_false, reduceIte, ite_true, ite_false, not_true_eq_false, not_false_eq_true, fcN_96 hF, fcR_96_5 hF, fcR_96_6 hF, X405, fcN_29 hF, q, f17, e, o_s]
        exact hi
      · by_cases eg : tI b 87 0 (10 * j) = 0 ∨ tI b 87 0 (10 * j) = 2
        · have ep : bdP b j = false := decide_eq_false (fun w => w.2 eg)
          simp only [if_pos eg] at f45
          rw [ep, Bool.false_or]
          simp (config := {decide := true}) only [gfI_enc, gfL_enc, gfR_enc, pfI_enc, pfL_enc, pfR_enc, Option.bind_some, cI_v, cL_v, cF_v, cD_v, cR_v, cV_v, cI_x, cL_x, cR_x, cV_x, gz_0, gz_1, acc_enc, tI_sI, tL_sI, tR_sI, tN_sI, tZ_sI, tC_sI, tc_sI, tz_sI, tI_sL, tL_sL, tR_sL, tN_sL, tZ_sL, tC_sL, tc_sL, tz_sL, tI_sR, tL_sR, tR_sR, tN_sR, tZ_sR, tC_sR, tc_sR, tz_sR, tI_sZ, tL_sZ, tR_sZ, tN_sZ, tZ_sZ, tC_sZ, tc_sZ, tz_sZ, tI_sC, tL_sC, tR_sC, tN_sC, tZ_sC, tC_sC, tc_sC, tz_sC, tI_aC, tL_aC, tR_aC, tN_aC, tZ_aC, tC_aC, tc_aC, tz_aC, tI_rmL, tL_rmL, tR_rmL, tN_rmL, tZ_rmL, tC_rmL, tc_rmL, tz_rmL, tI_mk, tL_mk, tR_mk, tN_mk, tZ_mk, tC_mk, tc_mk, tz_mk, tI_pushL, tL_pushL, tR_pushL, tN_pushL, tZ_pushL, tC_pushL, tc_pushL, tz_pushL, tI_pushB, tL_pushB, tR_pushB, tN_pushB, tZ_pushB, tC_pushB, tc_pushB, tz_pushB, tI_cpL, tL_cpL, tR_cpL, tN_cpL, tZ_cpL, tC_cpL, tc_cpL, tz_cpL, eq_self, true_and, and_true, false_and, and_false, if_true, if_false, reduceIte, ite_true, ite_false, not_true_eq_false, not_false_eq_true, fcN_96 hF, fcR_96_5 hF, fcR_96_6 hF, X405, X402, fcN_29 hF, q, g1, g2, hjn, r1, r2, f17, e, f45, n10, o_s]
          exact hi
        · have ep : bdP b j = true := decide_eq_true ⟨e, eg⟩
          simp only [if_neg eg] at f45
          rw [ep, Bool.true_or]
          simp (config := {decide := true}) only [gfI_enc, gfL_enc, gfR_enc, pfI_enc, pfL_enc, pfR_enc, Option.bind_some, cI_v, cL_v, cF_v, cD_v, cR_v, cV_v, cI_x, cL_x, cR_x, cV_x, gz_0, gz_1, acc_enc, tI_sI, tL_sI, tR_sI, tN_sI, tZ_sI, tC_sI, tc_sI, tz_sI, tI_sL, tL_sL, tR_sL, tN_sL, tZ_sL, tC_sL, tc_sL, tz_sL, tI_sR, tL_sR, tR_sR, tN_sR, tZ_sR, tC_sR, tc_sR, tz_sR, tI_sZ, tL_sZ, tR_sZ, tN_sZ, tZ_sZ, tC_sZ, tc_sZ, tz_sZ, tI_sC, tL_sC, tR_sC, tN_sC, tZ_sC, tC_sC, tc_sC, tz_sC, tI_aC, tL_aC, tR_aC, tN_aC, tZ_aC, tC_aC, tc_aC, tz_aC, tI_rmL, tL_rmL, tR_rmL, tN_rmL, tZ_rmL, tC_rmL, tc_rmL, tz_rmL, tI_mk, tL_mk, tR_mk, tN_mk, tZ_mk, tC_mk, tc_mk, tz_mk, tI_pushL, tL_pushL, tR_pushL, tN_pushL, tZ_pushL, tC_pushL, tc_pushL, tz_pushL, tI_pushB, tL_pushB, tR_pushB, tN_pushB, tZ_pushB, tC_pushB, tc_pushB, tz_pushB, tI_cpL, tL_cpL, tR_cpL, tN_cpL, tZ_cpL, tC_cpL, tc_cpL, tz_cpL, eq_self, true_and, and_true, false_and, and_false, if_true, if_false, reduceIte, ite_true, ite_false, not_true_eq_false, not_false_eq_true, fcN_96 hF, fcR_96_5 hF, fcR_96_6 hF, X405, X402, fcN_29 hF, q, g1, g2, hjn, r1, r2, f17, e, f45]
  refine (X_in (by decide +kernel) (fcN_96 hF) rfl).trans ((lf_136_0 ..).trans ?_)
  exact loop (tZ a 29 0) 0 (by omega)
theorem aq35 {a : TS} {t : Nat} {x : Option (Nat × Nat)} (h : t < tN a 35) (hx : x = none ∨ ∃ t', x = some (35, t') ∧ t' < tN a 35) (z : Hp) (r : Res) : aq (enc 1 a z) x (some (35, t)) r = r :=
  aq_enc (fun q hq => by
    rcases hx with e | ⟨t', e, e2⟩
    · rw [e] at hq; cases hq
    · rw [e] at hq; cases hq; exact ⟨show ow 35 = 1 from by decide +kernel, show kd 35 < 24 from by decide +kernel, e2⟩) (fun q hq => by cases hq; exact ⟨show ow 35 = 1 from by decide +kernel, show kd 35 < 24 from by decide +kernel, h⟩)
def sV (b : TS) (t : Nat) : Nat → Int64
  | 0 => 0
  | n + 1 => if hI b n 12 = 0 then sV b t n else if hI b n 13 = Int32.ofNat t then sV b t n + (hI b n 12).toInt64 else sV b t n
theorem sV_s (b : TS) (t n : Nat) : sV b t (n + 1) = if hI b n 12 = 0 then sV b t n else if hI b n 13 = Int32.ofNat t then sV b t n + (hI b n 12).toInt64 else sV b t n := rfl
def hdB (b : TS) : Nat → Nat → Bool
  | _, 0 => true
  | t, k + 1 => decide (lg_cmp (sV b t 1000) (tL b 44 0 t) = 0) && hdB b (t + 1) k
theorem hdB_s (b : TS) (t k : Nat) : hdB b t (k + 1) = (decide (lg_cmp (sV b t 1000) (tL b 44 0 t) = 0) && hdB b (t + 1) k) := rfl
theorem x27 {a b : TS} {z : Hp} {t : Nat} (hR : R0 a b) (ht : t < tZ a 26 0) : Ex 27 [aR (some (30, 0)), aR (some (35, t))] (enc 1 a z) = some (.inl (some (aL (sV b t 1000))), enc 1 a z) := by
  have hF := r_FC hR
  have hK : RK a b := hR.2.2.2.2.2.2.2.2.2.2.2.2.2.1
  obtain ⟨⟨K1, -, -⟩, -, K3⟩ := hK
  obtain ⟨B1, -, B3, -⟩ := r_B hR
  have z3 : tZ a 3 0 = 1000 := fcZ_3 hF
  have loop : ∀ k n, n + k = 1000 → Ru 27 5 [(0, aR (some (30, 0))), (1, aR (some (35, t))), (2, aL (sV b t n)), (4, aI (Int32.ofNat n))] [] (enc 1 a z) = some (.inl (some (aL (sV b t 1000))), enc 1 a z) := by
    intro k
    induction k with
    | zero =>
      intro n hn
      have : n = 1000 := by omega
      subst this
      have q : Int32.ofNat 1000 ≤ Int32.ofNat 1000 := Int32.le_refl _
      rw [lf_27_5]
      simp (config := {decide := true}) only [gfI_enc, gfL_enc, gfR_enc, pfI_enc, pfL_enc, pfR_enc, Option.bind_some, cI_v, cL_v, cF_v, cD_v, cR_v, cV_v, cI_x, cL_x, cR_x, cV_x, gz_0, gz_1, acc_enc, tI_sI, tL_sI, tR_sI, tN_sI, tZ_sI, tC_sI, tc_sI, tz_sI, tI_sL, tL_sL, tR_sL, tN_sL, tZ_sL, tC_sL, tc_sL, tz_sL, tI_sR, tL_sR, tR_sR, tN_sR, tZ_sR, tC_sR, tc_sR, tz_sR, tI_sZ, tL_sZ, tR_sZ, tN_sZ, tZ_sZ, tC_sZ, tc_sZ, tz_sZ, tI_sC, tL_sC, tR_sC, tN_sC, tZ_sC, tC_sC, tc_sC, tz_sC, tI_aC, tL_aC, tR_aC, tN_aC, tZ_aC, tC_aC, tc_aC, tz_aC, tI_rmL, tL_rmL, tR_rmL, tN_rmL, tZ_rmL, tC_rmL, tc_rmL, tz_rmL, tI_mk, tL_mk, tR_mk, tN_mk, tZ_mk, tC_mk, tc_mk, tz_mk, tI_pushL, tL_pushL, tR_pushL, tN_pushL, tZ_pushL, tC_pushL, tc_pushL, tz_pushL, tI_pushB, tL_pushB, tR_pushB, tN_pushB, tZ_pushB, tC_pushB, tc_pushB, tz_pushB, tI_cpL, tL_cpL, tR_cpL, tN_cpL, tZ_cpL, tC_cpL, tc_cpL, tz_cpL, eq_self, true_and, and_true, false_and, and_false, if_true, if_false, reduceIte, ite_true, ite_false, not_true_eq_false, not_false_eq_true, fcN_30 hF, fcR_30_2 hF, len_enc, fcN_3 hF, z3, q]
    | succ k ih =>
      intro n hk
      have hn : n < 1000 := by omega
      have q : ¬ Int32.ofNat 1000 ≤ Int32.ofNat n := by rw [o_le (by omega) (by omega)]; omega
      have g1 : (Int32.ofNat n).toNatClampNeg = n := o_ix (by omega)
      have g2 : ¬ Int32.ofNat n < 0 := o_lt0 (by omega)
      have hi := ih (n + 1) (by omega)
      obtain ⟨⟨k3, -, k40, k4⟩, -⟩ := K3 n hn
      rw [sV_s] at hi
      rw [lf_27_5]
      rcases K1 n hn with hno | ⟨j, j1, hj⟩
      · rw [kI_none hno] at k3
        rw [if_pos (show hI b n 12 = 0 from k3.symm.trans rfl)] at hi
        simp (config := {decide := true}) only [gfI_enc, gfL_enc, gfR_enc, pfI_enc, pfL_enc, pfR_enc, Option.bind_some, cI_v, cL_v, cF_v, cD_v, cR_v, cV_v, cI_x, cL_x, cR_x, cV_x, gz_0, gz_1, acc_enc, tI_sI, tL_sI, tR_sI, tN_sI, tZ_sI, tC_sI, tc_sI, tz_sI, tI_sL, tL_sL, tR_sL, tN_sL, tZ_sL, tC_sL, tc_sL, tz_sL, tI_sR, tL_sR, tR_sR, tN_sR, tZ_sR, tC_sR, tc_sR, tz_sR, tI_sZ, tL_sZ, tR_sZ, tN_sZ, tZ_sZ, tC_sZ, tc_sZ, tz_sZ, tI_sC, tL_sC, tR_sC, tN_sC, tZ_sC, tC_sC, tc_sC, tz_sC, tI_aC, tL_aC, tR_aC, tN_aC, tZ_aC, tC_aC, tc_aC, tz_aC, tI_rmL, tL_rmL, tR_rmL, tN_rmL, tZ_rmL, tC_rmL, tc_rmL, tz_rmL, tI_mk, tL_mk, tR_mk, tN_mk, tZ_mk, tC_mk, tc_mk, tz_mk, tI_pushL, tL_pushL, tR_pushL, tN_pushL, tZ_pushL, tC_pushL, tc_pushL, tz_pushL, tI_pushB, tL_pushB, tR_pushB, tN_pushB, tZ_pushB, tC_pushB, tc_pushB, tz_pushB, tI_cpL, tL_cpL, tR_cpL, tN_cpL, tZ_cpL, tC_cpL, tc_cpL, tz_cpL, eq_self, true_and, and_true, false_and, and_false, if_true, if_false, reduceIte, ite_true, ite_false, not_true_eq_false, not_false_eq_true, fcN_30 hF, fcR_30_2 hF, len_enc, gaR_enc, fcN_3 hF, z3, q, g1, g2, hn, hno, o_s]
        exact hi
      · rw [kI_at hj] at k3
        rw [kR_at hj] at k40 k4
        by_cases e : hI b n 12 = 0
        · have a4 := aq35 (a := a) (t := t) (x := none) (by omega) (Or.inl rfl)
          rw [if_pos e] at hi
          simp (config := {decide := true}) only [gfI_enc, gfL_enc, gfR_enc, pfI_enc, pfL_enc, pfR_enc, Option.bind_some, cI_v, cL_v, cF_v, cD_v, cR_v, cV_v, cI_x, cL_x, cR_x, cV_x, gz_0, gz_1, acc_enc, tI_sI, tL_sI, tR_sI, tN_sI, tZ_sI, tC_sI, tc_sI, tz_sI, tI_sL, tL_sL, tR_sL, tN_sL, tZ_sL, tC_sL, tc_sL, tz_sL, tI_sR, tL_sR, tR_sR, tN_sR, tZ_sR, tC_sR, tc_sR, tz_sR, tI_sZ, tL_sZ, tR_sZ, tN_sZ, tZ_sZ, tC_sZ, tc_sZ, tz_sZ, tI_sC, tL_sC, tR_sC, tN_sC, tZ_sC, tC_sC, tc_sC, tz_sC, tI_aC, tL_aC, tR_aC, tN_aC, tZ_aC, tC_aC, tc_aC, tz_aC, tI_rmL, tL_rmL, tR_rmL, tN_rmL, tZ_rmL, tC_rmL, tc_rmL, tz_rmL, tI_mk, tL_mk, tR_mk, tN_mk, tZ_mk, tC_mk, tc_mk, tz_mk, tI_pushL, tL_pushL, tR_pushL, tN_pushL, tZ_pushL, tC_pushL, tc_pushL, tz_pushL, tI_pushB, tL_pushB, tR_pushB, tN_pushB, tZ_pushB, tC_pushB, tc_pushB, tz_pushB, tI_cpL, tL_cpL, tR_cpL, tN_cpL, tZ_cpL, tC_cpL, tc_cpL, tz_cpL, eq_self, true_and, and_true, false_and, and_false, if_true, if_false, reduceIte, ite_true, ite_false, not_true_eq_false, not_false_eq_true, fcN_30 hF, fcR_30_2 hF, len_enc, gaR_enc, fcN_3 hF, z3, q, g1, g2, hn, hj, reduceCtorEq, j1, k40 e, a4, o_s]
          exact hi
        · obtain ⟨t', t1, t2, t3⟩ := k4 e
          have a4 := aq35 (a := a) (t := t) (x := some (35, t')) (by omega) (Or.inr ⟨t', rfl, by omega⟩)
          rw [if_neg e] at hi
          by_cases et : t' = t
          · subst et
            rw [if_pos t3] at hi
            simp (config := {decide := true}) only [gfI_enc, gfL_enc, gfR_enc, pfI_enc, pfL_enc, pfR_enc, Option.bind_some, cI_v, cL_v, cF_v, cD_v, cR_v, cV_v, cI_x, cL_x, cR_x, cV_x, gz_0, gz_1, acc_enc, tI_sI, tL_sI, tR_sI, tN_sI, tZ_sI, tC_sI, tc_sI, tz_sI, tI_sL, tL_sL, tR_sL, tN_sL, tZ_sL, tC_sL, tc_sL, tz_sL, tI_sR, tL_sR, tR_sR, tN_sR, tZ_sR, tC_sR, tc_sR, tz_sR, tI_sZ, tL_sZ, tR_sZ, tN_sZ, tZ_sZ, tC_sZ, tc_sZ, tz_sZ, tI_sC, tL_sC, tR_sC, tN_sC, tZ_sC, tC_sC, tc_sC, tz_sC, tI_aC, tL_aC, tR_aC, tN_aC, tZ_aC, tC_aC, tc_aC, tz_aC, tI_rmL, tL_rmL, tR_rmL, tN_rmL, tZ_rmL, tC_rmL, tc_rmL, tz_rmL, tI_mk, tL_mk, tR_mk, tN_mk, tZ_mk, tC_mk, tc_mk, tz_mk, tI_pushL, tL_pushL, tR_pushL, tN_pushL, tZ_pushL, tC_pushL, tc_pushL, tz_pushL, tI_pushB, tL_pushB, tR_pushB, tN_pushB, tZ_pushB, tC_pushB, tc_pushB, tz_pushB, tI_cpL, tL_cpL, tR_cpL, tN_cpL, tZ_cpL, tC_cpL, tc_cpL, tz_cpL, eq_self, true_and, and_true, false_and, and_false, if_true, if_false, reduceIte, ite_true, ite_false, not_true_eq_false, not_false_eq_true, fcN_30 hF, fcR_30_2 hF, len_enc, gaR_enc, fcN_3 hF, z3, q, g1, g2, hn, hj, reduceCtorEq, j1, t2, a4, k3, o_s]
            exact hi
          · have et2 : ¬ (some (35, t') : Option (Nat × Nat)) = some (35, t) := fun w => et (congrArg Prod.snd (Option.some.inj w))
            have et3 : ¬ hI b n 13 = Int32.ofNat t := fun w => et (o_inj (by omega) (by omega) (t3.symm.trans w))
            rw [if_neg et3] at hi
            simp (config := {decide := true}) only [gfI_enc, gfL_enc, gfR_enc, pfI_enc, pfL_enc, pfR_enc, Option.bind_some, cI_v, cL_v, cF_v, cD_v, cR_v, cV_v, cI_x, cL_x, cR_x, cV_x, gz_0, gz_1, acc_enc, tI_sI, tL_sI, tR_sI, tN_sI, tZ_sI, tC_sI, tc_sI, tz_sI, tI_sL, tL_sL, tR_sL, tN_sL, tZ_sL, tC_sL, tc_sL, tz_sL, tI_sR, tL_sR, tR_sR, tN_sR, tZ_sR, tC_sR, tc_sR, tz_sR, tI_sZ, tL_sZ, tR_sZ, tN_sZ, tZ_sZ, tC_sZ, tc_sZ, tz_sZ, tI_sC, tL_sC, tR_sC, tN_sC, tZ_sC, tC_sC, tc_sC, tz_sC, tI_aC, tL_aC, tR_aC, tN_aC, tZ_aC, tC_aC, tc_aC, tz_aC, tI_rmL, tL_rmL, tR_rmL, tN_rmL, tZ_rmL, tC_rmL, tc_rmL, tz_rmL, tI_mk, tL_mk, tR_mk, tN_mk, tZ_mk, tC_mk, tc_mk, tz_mk, tI_pushL, tL_pushL, tR_pushL, tN_pushL, tZ_pushL, tC_pushL, tc_pushL, tz_pushL, tI_pushB, tL_pushB, tR_pushB, tN_pushB, tZ_pushB, tC_pushB, tc_pushB, tz_pushB, tI_cpL, tL_cpL, tR_cpL, tN_cpL, tZ_cpL, tC_cpL, tc_cpL, tz_cpL, eq_self, true_and, and_true, false_and, and_false, if_true, if_false, reduceIte, ite_true, ite_false, not_true_eq_false, not_false_eq_true, fcN_30 hF, fcR_30_2 hF, len_enc, gaR_enc, fcN_3 hF, z3, q, g1, g2, hn, hj, reduceCtorEq, j1, t2, a4, et2, o_s]
            exact hi
  refine (X_in (by decide +kernel) (fcN_30 hF) rfl).trans ((lf_27_0 ..).trans ?_)
  exact loop 1000 0 (by omega)
theorem x137 {a b : TS} {z : Hp} (hR : R0 a b) : Ex 137 [aR (some (96, 0))] (enc 1 a z) = some (.inl (some (aI (if hdB b 0 (tZ a 26 0) = true then 1 else 0))), enc 1 a z) := by
  have hF := r_FC hR
  obtain ⟨B1, -, B3, -, B5, -⟩ := r_B hR
  have loop : ∀ k t, t + k = tZ a 26 0 → Ru 137 2 [(0, aR (some (96, 0))), (1, aI (Int32.ofNat t))] [] (enc 1 a z) = some (.inl (some (aI (if hdB b t k = true then 1 else 0))), enc 1 a z) := by
    intro k
    induction k with
    | zero =>
      intro t ht
      have e : t = tZ a 26 0 := by omega
      subst e
      have q : Int32.ofNat (tZ a 26 0) ≤ Int32.ofNat (tZ a 26 0) := Int32.le_refl _
      have e0 : hdB b (tZ a 26 0) 0 = true := rfl
      rw [lf_137_2, e0]
      simp (config := {decide := true}) only [gfI_enc, gfL_enc, gfR_enc, pfI_enc, pfL_enc, pfR_enc, Option.bind_some, cI_v, cL_v, cF_v, cD_v, cR_v, cV_v, cI_x, cL_x, cR_x, cV_x, gz_0, gz_1, acc_enc, tI_sI, tL_sI, tR_sI, tN_sI, tZ_sI, tC_sI, tc_sI, tz_sI, tI_sL, tL_sL, tR_sL, tN_sL, tZ_sL, tC_sL, tc_sL, tz_sL, tI_sR, tL_sR, tR_sR, tN_sR, tZ_sR, tC_sR, tc_sR, tz_sR, tI_sZ, tL_sZ, tR_sZ, tN_sZ, tZ_sZ, tC_sZ, tc_sZ, tz_sZ, tI_sC, tL_sC, tR_sC, tN_sC, tZ_sC, tC_sC, tc_sC, tz_sC, tI_aC, tL_aC, tR_aC, tN_aC, tZ_aC, tC_aC, tc_aC, tz_aC, tI_rmL, tL_rmL, tR_rmL, tN_rmL, tZ_rmL, tC_rmL, tc_rmL, tz_rmL, tI_mk, tL_mk, tR_mk, tN_mk, tZ_mk, tC_mk, tc_mk, tz_mk, tI_pushL, tL_pushL, tR_pushL, tN_pushL, tZ_pushL, tC_pushL, tc_pushL, tz_pushL, tI_pushB, tL_pushB, tR_pushB, tN_pushB, tZ_pushB, tC_pushB, tc_pushB, tz_pushB, tI_cpL, tL_cpL, tR_cpL, tN_cpL, tZ_cpL, tC_cpL, tc_cpL, tz_cpL, eq_self, true_and, and_true, false_and, and_false, if_true, if_false, reduceIte, ite_true, ite_false, not_true_eq_false, not_false_eq_true, fcN_96 hF, fcR_96_2 hF, X405, fcN_26 hF, q]
    | succ k ih =>
      intro t ht
      have htn : t < tZ a 26 0 := by omega
      have q : ¬ Int32.ofNat (tZ a 26 0) ≤ Int32.ofNat t := by rw [o_le (by omega) (by omega)]; omega
      have g1 : (Int32.ofNat t).toNatClampNeg = t := o_ix (by omega)
      have g2 : ¬ Int32.ofNat t < 0 := o_lt0 (by omega)
      obtain ⟨r1, -, r3, -⟩ := B5 t htn
      have r2 : t < tN a 35 := by omega
      have f27 := fun z => x27 (z := z) hR htn
      have hi := ih (t + 1) (by omega)
      rw [lf_137_2, hdB_s]
      by_cases e : lg_cmp (sV b t 1000) (tL b 44 0 t) = 0
      · rw [decide_eq_true e, Bool.true_and]
        simp (config := {decide := true}) only [gfI_enc, gfL_enc, gfR_enc, pfI_enc, pfL_enc, pfR_enc, Option.bind_some, cI_v, cL_v, cF_v, cD_v, cR_v, cV_v, cI_x, cL_x, cR_x, cV_x, gz_0, gz_1, acc_enc, tI_sI, tL_sI, tR_sI, tN_sI, tZ_sI, tC_sI, tc_sI, tz_sI, tI_sL, tL_sL, tR_sL, tN_sL, tZ_sL, tC_sL, tc_sL, tz_sL, tI_sR, tL_sR, tR_sR, tN_sR, tZ_sR, tC_sR, tc_sR, tz_sR, tI_sZ, tL_sZ, tR_sZ, tN_sZ, tZ_sZ, tC_sZ, tc_sZ, tz_sZ, tI_sC, tL_sC, tR_sC, tN_sC, tZ_sC, tC_sC, tc_sC, tz_sC, tI_aC, tL_aC, tR_aC, tN_aC, tZ_aC, tC_aC, tc_aC, tz_aC, tI_rmL, tL_rmL, tR_rmL, tN_rmL, tZ_rmL, tC_rmL, tc_rmL, tz_rmL, tI_mk, tL_mk, tR_mk, tN_mk, tZ_mk, tC_mk, tc_mk, tz_mk, tI_pushL, tL_pushL, tR_pushL, tN_pushL, tZ_pushL, tC_pushL, tc_pushL, tz_pushL, tI_pushB, tL_pushB, tR_pushB, tN_pushB, tZ_pushB, tC_pushB, tc_pushB, tz_pushB, tI_cpL, tL_cpL, tR_cpL, tN_cpL, tZ_cpL, tC_cpL, tc_cpL, tz_cpL, eq_self, true_and, and_true, false_and, and_false, if_true, if_false, reduceIte, ite_true, ite_false, not_true_eq_false, not_false_eq_true, fcN_96 hF, fcR_96_2 hF, fcR_96_6 hF, X405, X402, fcN_26 hF, q, g1, g2, htn, r1, r2, f27, r3, e, o_s]
        exact hi
      · rw [decide_eq_false e, Bool.false_and]
        simp (config := {decide := true}) only [gfI_enc, gfL_enc, gfR_enc, pfI_enc, pfL_enc, pfR_enc, Option.bind_some, cI_v, cL_v, cF_v, cD_v, cR_v, cV_v, cI_x, cL_x, cR_x, cV_x, gz_0, gz_1, acc_enc, tI_sI, tL_sI, tR_sI, tN_sI, tZ_sI, tC_sI, tc_sI, tz_sI, tI_sL, tL_sL, tR_sL, tN_sL, tZ_sL, tC_sL, tc_sL, tz_sL, tI_sR, tL_sR, tR_sR, tN_sR, tZ_sR, tC_sR, tc_sR, tz_sR, tI_sZ, tL_sZ, tR_sZ, tN_sZ, tZ_sZ, tC_sZ, tc_sZ, tz_sZ, tI_sC, tL_sC, tR_sC, tN_sC, tZ_sC, tC_sC, tc_sC, tz_sC, tI_aC, tL_aC, tR_aC, tN_aC, tZ_aC, tC_aC, tc_aC, tz_aC, tI_rmL, tL_rmL, tR_rmL, tN_rmL, tZ_rmL, tC_rmL, tc_rmL, tz_rmL, tI_mk, tL_mk, tR_mk, tN_mk, tZ_mk, tC_mk, tc_mk, tz_mk, tI_pushL, tL_pushL, tR_pushL, tN_pushL, tZ_pushL, tC_pushL, tc_pushL, tz_pushL, tI_pushB, tL_pushB, tR_pushB, tN_pushB, tZ_pushB, tC_pushB, tc_pushB, tz_pushB, tI_cpL, tL_cpL, tR_cpL, tN_cpL, tZ_cpL, tC_cpL, tc_cpL, tz_cpL, eq_self, true_and, and_true, false_and, and_false, if_true, if_false, reduceIte, ite_true, ite_false, not_true_eq_false, not_false_eq_true, fcN_96 hF, fcR_96_2 hF, fcR_96_6 hF, X405, X402, fcN_26 hF, q, g1, g2, htn, r1, r2, f27, r3, e, Bool.false_eq_true]
  refine (X_in (by decide +kernel) (fcN_96 hF) rfl).trans ((lf_137_0 ..).trans ?_)
  exact loop (tZ a 26 0) 0 (by omega)
def frX (b : TS) (n : Nat) : Bool := decide (hI b n 12 ≠ 0 ∧ (hI b n 8 ≠ 0 ∨ hI b n 9 ≠ 0))
def frB (b : TS) : Nat → Nat → Bool
  | _, 0 => true
  | n, k + 1 => !frX b n && frB b (n + 1) k
theorem frB_s (b : TS) (n k : Nat) : frB b n (k + 1) = (!frX b n && frB b (n + 1) k) := rfl
theorem x26 {a b : TS} {z : Hp} (hR : R0 a b) : Ex 26 [aR (some (30, 0))] (enc 1 a z) = some (.inl (some (aI (if frB b 0 1000 = true then 1 else 0))), enc 1 a z) := by
  have hF := r_FC hR
  have hK : RK a b := hR.2.2.2.2.2.2.2.2.2.2.2.2.2.1
  obtain ⟨⟨K1, -, -⟩, -, K3⟩ := hK
  have z3 : tZ a 3 0 = 1000 := fcZ_3 hF
  have n10 : ¬ (1 : Int32) = 0 := by decide
  have loop : ∀ k n, n + k = 1000 → Ru 26 2 [(0, aR (some (30, 0))), (1, aI (Int32.ofNat n))] [] (enc 1 a z) = some (.inl (some (aI (if frB b n k = true then 1 else 0))), enc 1 a z) := by
    intro k
    induction k with
    | zero =>
      intro n hn
      have : n = 1000 := by omega
      subst this
      have q : Int32.ofNat 1000 ≤ Int32.ofNat 1000 := Int32.le_refl _
      have e0 : frB b 1000 0 = true := rfl
      rw [lf_26_2, e0]
      simp (config := {decide := true}) only [gfI_enc, gfL_enc, gfR_enc, pfI_enc, pfL_enc, pfR_enc, Option.bind_some, cI_v, cL_v, cF_v, cD_v, cR_v, cV_v, cI_x, cL_x, cR_x, cV_x, gz_0, gz_1, acc_enc, tI_sI, tL_sI, tR_sI, tN_sI, tZ_sI, tC_sI, tc_sI, tz_sI, tI_sL, tL_sL, tR_sL, tN_sL, tZ_sL, tC_sL, tc_sL, tz_sL, tI_sR, tL_sR, tR_sR, tN_sR, tZ_sR, tC_sR, tc_sR, tz_sR, tI_sZ, tL_sZ, tR_sZ, tN_sZ, tZ_sZ, tC_sZ, tc_sZ, tz_sZ, tI_sC, tL_sC, tR_sC, tN_sC, tZ_sC, tC_sC, tc_sC, tz_sC, tI_aC, tL_aC, tR_aC, tN_aC, tZ_aC, tC_aC, tc_aC, tz_aC, tI_rmL, tL_rmL, tR_rmL, tN_rmL, tZ_rmL, tC_rmL, tc_rmL, tz_rmL, tI_mk, tL_mk, tR_mk, tN_mk, tZ_mk, tC_mk, tc_mk, tz_mk, tI_pushL, tL_pushL, tR_pushL, tN_pushL, tZ_pushL, tC_pushL, tc_pushL, tz_pushL, tI_pushB, tL_pushB, tR_pushB, tN_pushB, tZ_pushB, tC_pushB, tc_pushB, tz_pushB, tI_cpL, tL_cpL, tR_cpL, tN_cpL, tZ_cpL, tC_cpL, tc_cpL, tz_cpL, eq_self, true_and, and_true, false_and, and_false, if_true, if_false, reduceIte, ite_true, ite_false, not_true_eq_false, not_false_eq_true, fcN_30 hF, fcR_30_2 hF, len_enc, fcN_3 hF, z3, q]
    | succ k ih =>
      intro n hk
      have hn : n < 1000 := by omega
      have q : ¬ Int32.ofNat 1000 ≤ Int32.ofNat n := by rw [o_le (by omega) (by omega)]; omega
      have g1 : (Int32.ofNat n).toNatClampNeg = n := o_ix (by omega)
      have g2 : ¬ Int32.ofNat n < 0 := o_lt0 (by omega)
      have hi := ih (n + 1) (by omega)
      obtain ⟨⟨k3, -, k40, k4⟩, ⟨k5, -⟩, -, -, -, k80, k8⟩ := K3 n hn
      rw [lf_26_2, frB_s]
      rcases K1 n hn with hno | ⟨j, j1, hj⟩
      · rw [kI_none hno] at k3
        have e : hI b n 12 = 0 := k3.symm.trans rfl
        have ex : frX b n = false := decide_eq_false (fun w => w.1 e)
        rw [ex, Bool.not_false, Bool.true_and]
        simp (config := {decide := true}) only [gfI_enc, gfL_enc, gfR_enc, pfI_enc, pfL_enc, pfR_enc, Option.bind_some, cI_v, cL_v, cF_v, cD_v, cR_v, cV_v, cI_x, cL_x, cR_x, cV_x, gz_0, gz_1, acc_enc, tI_sI, tL_sI, tR_sI, tN_sI, tZ_sI, tC_sI, tc_sI, tz_sI, tI_sL, tL_sL, tR_sL, tN_sL, tZ_sL, tC_sL, tc_sL, tz_sL, tI_sR, tL_sR, tR_sR, tN_sR, tZ_sR, tC_sR, tc_sR, tz_sR, tI_sZ, tL_sZ, tR_sZ, tN_sZ, tZ_sZ, tC_sZ, tc_sZ, tz_sZ, tI_sC, tL_sC, tR_sC, tN_sC, tZ_sC, tC_sC, tc_sC, tz_sC, tI_aC, tL_aC, tR_aC, tN_aC, tZ_aC, tC_aC, tc_aC, tz_aC, tI_rmL, tL_rmL, tR_rmL, tN_rmL, tZ_rmL, tC_rmL, tc_rmL, tz_rmL, tI_mk, tL_mk, tR_mk, tN_mk, tZ_mk, tC_mk, tc_mk, tz_mk, tI_pushL, tL_pushL, tR_pushL, tN_pushL, tZ_pushL, tC_pushL, tc_pushL, tz_pushL, tI_pushB, tL_pushB, tR_pushB, tN_pushB, tZ_pushB, tC_pushB, tc_pushB, tz_pushB, tI_cpL, tL_cpL, tR_cpL, tN_cpL, tZ_cpL, tC_cpL, tc_cpL, tz_cpL, eq_self, true_and, and_true, false_and, and_false, if_true, if_false, reduceIte, ite_true, ite_false, not_true_eq_false, not_false_eq_true, fcN_30 hF, fcR_30_2 hF, len_enc, gaR_enc, fcN_3 hF, z3, q, g1, g2, hn, hno, o_s]
        exact hi
      · rw [kI_at hj] at k5
        rw [kR_at hj] at k40 k4 k80 k8
        by_cases e : hI b n 12 = 0
        · have ex : frX b n = false := decide_eq_false (fun w => w.1 e)
          rw [ex, Bool.not_false, Bool.true_and]
          simp (config := {decide := true}) only [gfI_enc, gfL_enc, gfR_enc, pfI_enc, pfL_enc, pfR_enc, Option.bind_some, cI_v, cL_v, cF_v, cD_v, cR_v, cV_v, cI_x, cL_x, cR_x, cV_x, gz_0, gz_1, acc_enc, tI_sI, tL_sI, tR_sI, tN_sI, tZ_sI, tC_sI, tc_sI, tz_sI, tI_sL, tL_sL, tR_sL, tN_sL, tZ_sL, tC_sL, tc_sL, tz_sL, tI_sR, tL_sR, tR_sR, tN_sR, tZ_sR, tC_sR, tc_sR, tz_sR, tI_sZ, tL_sZ, tR_sZ, tN_sZ, tZ_sZ, tC_sZ, tc_sZ, tz_sZ, tI_sC, tL_sC, tR_sC, tN_sC, tZ_sC, tC_sC, tc_sC, tz_sC, tI_aC, tL_aC, tR_aC, tN_aC, tZ_aC, tC_aC, tc_aC, tz_aC, tI_rmL, tL_rmL, tR_rmL, tN_rmL, tZ_rmL, tC_rmL, tc_rmL, tz_rmL, tI_mk, tL_mk, tR_mk, tN_mk, tZ_mk, tC_mk, tc_mk, tz_mk, tI_pushL, tL_pushL, tR_pushL, tN_pushL, tZ_pushL, tC_pushL, tc_pushL, tz_pushL, tI_pushB, tL_pushB, tR_pushB, tN_pushB, tZ_pushB, tC_pushB, tc_pushB, tz_pushB, tI_cpL, tL_cpL, tR_cpL, tN_cpL, tZ_cpL, tC_cpL, tc_cpL, tz_cpL, eq_self, true_and, and_true, false_and, and_false, if_true, if_false, reduceIte, ite_true, ite_false, not_true_eq_false, not_false_eq_true, fcN_30 hF, fcR_30_2 hF, len_enc, gaR_enc, fcN_3 hF, z3, q, g1, g2, hn, hj, reduceCtorEq, j1, k40 e, o_s]
          exact hi
        · obtain ⟨t', -, t2, -⟩ := k4 e
          have f29 := fun z => x29 (a := a) (z := z) j1
          by_cases e8 : hI b n 8 = 0
          · rw [k80 e8] at f29
            simp only [if_pos rfl] at f29
            by_cases e9 : hI b n 9 = 0
            · have ex : frX b n = false := decide_eq_false (fun w => w.2.elim (fun q => q e8) (fun q => q e9))
              rw [ex, Bool.not_false, Bool.true_and]
              simp (config := {decide := true}) only [gfI_enc, gfL_enc, gfR_enc, pfI_enc, pfL_enc, pfR_enc, Option.bind_some, cI_v, cL_v, cF_v, cD_v, cR_v, cV_v, cI_x, cL_x, cR_x, cV_x, gz_0, gz_1, acc_enc, tI_sI, tL_sI, tR_sI, tN_sI, tZ_sI, tC_sI, tc_sI, tz_sI, tI_sL, tL_sL, tR_sL, tN_sL, tZ_sL, tC_sL, tc_sL, tz_sL, tI_sR, tL_sR, tR_sR, tN_sR, tZ_sR, tC_sR, tc_sR, tz_sR, tI_sZ, tL_sZ, tR_sZ, tN_sZ, tZ_sZ, tC_sZ, tc_sZ, tz_sZ, tI_sC, tL_sC, tR_sC, tN_sC, tZ_sC, tC_sC, tc_sC, tz_sC, tI_aC, tL_aC, tR_aC, tN_aC, tZ_aC, tC_aC, tc_aC, tz_aC, tI_rmL, tL_rmL, tR_rmL, tN_rmL, tZ_rmL, tC_rmL, tc_rmL, tz_rmL, tI_mk, tL_mk, tR_mk, tN_mk, tZ_mk, tC_mk, tc_mk, tz_mk, tI_pushL, tL_pushL, tR_pushL, tN_pushL, tZ_pushL, tC_pushL, tc_pushL, tz_pushL, tI_pushB, tL_pushB, tR_pushB, tN_pushB, tZ_pushB, tC_pushB, tc_pushB, tz_pushB, tI_cpL, tL_cpL, tR_cpL, tN_cpL, tZ_cpL, tC_cpL, tc_cpL, tz_cpL, eq_self, true_and, and_true, false_and, and_false, if_true, if_false, reduceIte, ite_true, ite_false, not_true_eq_false, not_false_eq_true, fcN_30 hF, fcR_30_2 hF, len_enc, gaR_enc, fcN_3 hF, z3, q, g1, g2, hn, hj, reduceCtorEq, j1, t2, f29, k5, e9, o_s]
              exact hi
            · have ex : frX b n = true := decide_eq_true ⟨e, Or.inr e9⟩
              rw [ex, Bool.not_true, Bool.false_and]
              simp (config := {decide := true}) only [gfI_enc, gfL_enc, gfR_enc, pfI_enc, pfL_enc, pfR_enc, Option.bind_some, cI_v, cL_v, cF_v, cD_v, cR_v, cV_v, cI_x, cL_x, cR_x, cV_x, gz_0, gz_1, acc_enc, tI_sI, tL_sI, tR_sI, tN_sI, tZ_sI, tC_sI, tc_sI, tz_sI, tI_sL, tL_sL, tR_sL, tN_sL, tZ_sL, tC_sL, tc_sL, tz_sL, tI_sR, tL_sR, tR_sR, tN_sR, tZ_sR, tC_sR, tc_sR, tz_sR, tI_sZ, tL_sZ, tR_sZ, tN_sZ, tZ_sZ, tC_sZ, tc_sZ, tz_sZ, tI_sC, tL_sC, tR_sC, tN_sC, tZ_sC, tC_sC, tc_sC, tz_sC, tI_aC, tL_aC, tR_aC, tN_aC, tZ_aC, tC_aC, tc_aC, tz_aC, tI_rmL, tL_rmL, tR_rmL, tN_rmL, tZ_rmL, tC_rmL, tc_rmL, tz_rmL, tI_mk, tL_mk, tR_mk, tN_mk, tZ_mk, tC_mk, tc_mk, tz_mk, tI_pushL, tL_pushL, tR_pushL, tN_pushL, tZ_pushL, tC_pushL, tc_pushL, tz_pushL, tI_pushB, tL_pushB, tR_pushB, tN_pushB, tZ_pushB, tC_pushB, tc_pushB, tz_pushB, tI_cpL, tL_cpL, tR_cpL, tN_cpL, tZ_cpL, tC_cpL, tc_cpL, tz_cpL, eq_self, true_and, and_true, false_and, and_false, if_true, if_false, reduceIte, ite_true, ite_false, not_true_eq_false, not_false_eq_true, fcN_30 hF, fcR_30_2 hF, len_enc, gaR_enc, fcN_3 hF, z3, q, g1, g2, hn, hj, reduceCtorEq, j1, t2, f29, k5, e9, Bool.false_eq_true]
          · obtain ⟨i, -, -, -, -, -, -, -, i5, -⟩ := k8 e8
            rw [i5] at f29
            have ex : frX b n = true := decide_eq_true ⟨e, Or.inl e8⟩
            rw [ex, Bool.not_true, Bool.false_and]
            simp (config := {decide := true}) only [gfI_enc, gfL_enc, gfR_enc, pfI_enc, pfL_enc, pfR_enc, Option.bind_some, cI_v, cL_v, cF_v, cD_v, cR_v, cV_v, cI_x, cL_x, cR_x, cV_x, gz_0, gz_1, acc_enc, tI_sI, tL_sI, tR_sI, tN_sI, tZ_sI, tC_sI, tc_sI, tz_sI, tI_sL, tL_sL, tR_sL, tN_sL, tZ_sL, tC_sL, tc_sL, tz_sL, tI_sR, tL_sR, tR_sR, tN_sR, tZ_sR, tC_sR, tc_sR, tz_sR, tI_sZ, tL_sZ, tR_sZ, tN_sZ, tZ_sZ, tC_sZ, tc_sZ, tz_sZ, tI_sC, tL_sC, tR_sC, tN_sC, tZ_sC, tC_sC, tc_sC, tz_sC, tI_aC, tL_aC, tR_aC, tN_aC, tZ_aC, tC_aC, tc_aC, tz_aC, tI_rmL, tL_rmL, tR_rmL, tN_rmL, tZ_rmL, tC_rmL, tc_rmL, tz_rmL, tI_mk, tL_mk, tR_mk, tN_mk, tZ_mk, tC_mk, tc_mk, tz_mk, tI_pushL, tL_pushL, tR_pushL, tN_pushL, tZ_pushL, tC_pushL, tc_pushL, tz_pushL, tI_pushB, tL_pushB, tR_pushB, tN_pushB, tZ_pushB, tC_pushB, tc_pushB, tz_pushB, tI_cpL, tL_cpL, tR_cpL, tN_cpL, tZ_cpL, tC_cpL, tc_cpL, tz_cpL, eq_self, true_and, and_true, false_and, and_false, if_true, if_false, reduceIte, ite_true, ite_false, not_true_eq_false, not_false_eq_true, fcN_30 hF, fcR_30_2 hF, len_enc, gaR_enc, fcN_3 hF, z3, q, g1, g2, hn, hj, reduceCtorEq, j1, t2, f29, n10, Bool.false_eq_true]
  refine (X_in (by decide +kernel) (fcN_30 hF) rfl).trans ((lf_26_0 ..).trans ?_)
  exact loop 1000 0 (by omega)
/-! ===== errors: all money is there ===== -/
def mA (b : TS) : Nat → Int64
  | 0 => tL b 91 0 7
  | t + 1 => mA b t + tL b 43 0 t
def mS (b : TS) (n : Nat) : Nat → Int64
  | 0 => mA b n
  | s + 1 => mS b n s + (tL b 45 0 s + tL b 46 0 s)
theorem x138 {a b : TS} {z : Hp} (hR : R0 a b) : Ex 138 [aR (some (96, 0))] (enc 1 a z) = some (.inl (some (aL (mS b (tZ a 26 0) (tZ a 27 0)))), enc 1 a z) := by
  have hF := r_FC hR
  obtain ⟨B1, -, B3, -, B5, -, B7, B8⟩ := r_B hR
  obtain ⟨S1, -, ⟨S2, -⟩, -, S5⟩ := r_S hR
  obtain ⟨W1, -⟩ := r_W hR
  have loop2 : ∀ k s, s + k = tZ a 27 0 → Ru 138 43 [(0, aR (some (96, 0))), (1, aL (mS b (tZ a 26 0) s)), (3, aI (Int32.ofNat s))] [] (enc 1 a z) = some (.inl (some (aL (mS b (tZ a 26 0) (tZ a 27 0)))), enc 1 a z) := by
    intro k
    induction k with
    | zero =>
      intro s hs
      have e : s = tZ a 27 0 := by omega
      subst e
      have q : Int32.ofNat (tZ a 27 0) ≤ Int32.ofNat (tZ a 27 0) := Int32.le_refl _
      rw [lf_138_43]
      simp (config := {decide := true}) only [gfI_enc, gfL_enc, gfR_enc, pfI_enc, pfL_enc, pfR_enc, Option.bind_some, cI_v, cL_v, cF_v, cD_v, cR_v, cV_v, cI_x, cL_x, cR_x, cV_x, gz_0, gz_1, acc_enc, tI_sI, tL_sI, tR_sI, tN_sI, tZ_sI, tC_sI, tc_sI, tz_sI, tI_sL, tL_sL, tR_sL, tN_sL, tZ_sL, tC_sL, tc_sL, tz_sL, tI_sR, tL_sR, tR_sR, tN_sR, tZ_sR, tC_sR, tc_sR, tz_sR, tI_sZ, tL_sZ, tR_sZ, tN_sZ, tZ_sZ, tC_sZ, tc_sZ, tz_sZ, tI_sC, tL_sC, tR_sC, tN_sC, tZ_sC, tC_sC, tc_sC, tz_sC, tI_aC, tL_aC, tR_aC, tN_aC, tZ_aC, tC_aC, tc_aC, tz_aC, tI_rmL, tL_rmL, tR_rmL, tN_rmL, tZ_rmL, tC_rmL, tc_rmL, tz_rmL, tI_mk, tL_mk, tR_mk, tN_mk, tZ_mk, tC_mk, tc_mk, tz_mk, tI_pushL, tL_pushL, tR_pushL, tN_pushL, tZ_pushL, tC_pushL, tc_pushL, tz_pushL, tI_pushB, tL_pushB, tR_pushB, tN_pushB, tZ_pushB, tC_pushB, tc_pushB, tz_pushB, tI_cpL, tL_cpL, tR_cpL, tN_cpL, tZ_cpL, tC_cpL, tc_cpL, tz_cpL, eq_self, true_and, and_true, false_and, and_false, if_true, if_false, reduceIte, ite_true, ite_false, not_true_eq_false, not_false_eq_true, fcN_96 hF, fcR_96_3 hF, X405, fcN_27 hF, q]
    | succ k ih =>
      intro s hs
      have hsn : s < tZ a 27 0 := by omega
      have q : ¬ Int32.ofNat (tZ a 27 0) ≤ Int32.ofNat s := by rw [o_le (by omega) (by omega)]; omega
      have g1 : (Int32.ofNat s).toNatClampNeg = s := o_ix (by omega)
      have g2 : ¬ Int32.ofNat s < 0 := o_lt0 (by omega)
      have r1 := (S5 s hsn).1
      have r2 : s < tN a 36 := by omega
      obtain ⟨w1, w2⟩ := W1 s hsn
      have hi := ih (s + 1) (by omega)
      rw [show mS b (tZ a 26 0) (s + 1) = mS b (tZ a 26 0) s + (tL b 45 0 s + tL b 46 0 s) from rfl] at hi
      rw [lf_138_43]
      simp (config := {decide := true}) only [gfI_enc, gfL_enc, gfR_enc, pfI_enc, pfL_enc, pfR_enc, Option.bind_some, cI_v, cL_v, cF_v, cD_v, cR_v, cV_v, cI_x, cL_x, cR_x, cV_x, gz_0, gz_1, acc_enc, tI_sI, tL_sI, tR_sI, tN_sI, tZ_sI, tC_sI, tc_sI, tz_sI, tI_sL, tL_sL, tR_sL, tN_sL, tZ_sL, tC_sL, tc_sL, tz_sL, tI_sR, tL_sR, tR_sR, tN_sR, tZ_sR, tC_sR, tc_sR, tz_sR, tI_sZ, tL_sZ, tR_sZ, tN_sZ, tZ_sZ, tC_sZ, tc_sZ, tz_sZ, tI_sC, tL_sC, tR_sC, tN_sC, tZ_sC, tC_sC, tc_sC, tz_sC, tI_aC, tL_aC, tR_aC, tN_aC, tZ_aC, tC_aC, tc_aC, tz_aC, tI_rmL, tL_rmL, tR_rmL, tN_rmL, tZ_rmL, tC_rmL, tc_rmL, tz_rmL, tI_mk, tL_mk, tR_mk, tN_mk, tZ_mk, tC_mk, tc_mk, tz_mk, tI_pushL, tL_pushL, tR_pushL, tN_pushL, tZ_pushL, tC_pushL, tc_pushL, tz_pushL, tI_pushB, tL_pushB, tR_pushB, tN_pushB, tZ_pushB, tC_pushB, tc_pushB, tz_pushB, tI_cpL, tL_cpL, tR_cpL, tN_cpL, tZ_cpL, tC_cpL, tc_cpL, tz_cpL, eq_self, true_and, and_true, false_and, and_false, if_true, if_false, reduceIte, ite_true, ite_false, not_true_eq_false, not_false_eq_true, fcN_96 hF, fcR_96_3 hF, X405, X402, fcN_27 hF, q, g1, g2, hsn, r1, r2, w1, w2, o_s]
      exact hi
  have loop1 : ∀ k t, t + k = tZ a 26 0 → Ru 138 7 [(0, aR (some (96, 0))), (1, aL (mA b t)), (3, aI (Int32.ofNat t))] [] (enc 1 a z) = some (.inl (some (aL (mS b (tZ a 26 0) (tZ a 27 0)))), enc 1 a z) := by
    intro k
    induction k with
    | zero =>
      intro t ht
      have e : t = tZ a 26 0 := by omega
      subst e
      have q : Int32.ofNat (tZ a 26 0) ≤ Int32.ofNat (tZ a 26 0) := Int32.le_refl _
      rw [lf_138_7]
      simp (config := {decide := true}) only [gfI_enc, gfL_enc, gfR_enc, pfI_enc, pfL_enc, pfR_enc, Option.bind_some, cI_v, cL_v, cF_v, cD_v, cR_v, cV_v, cI_x, cL_x, cR_x, cV_x, gz_0, gz_1, acc_enc, tI_sI, tL_sI, tR_sI, tN_sI, tZ_sI, tC_sI, tc_sI, tz_sI, tI_sL, tL_sL, tR_sL, tN_sL, tZ_sL, tC_sL, tc_sL, tz_sL, tI_sR, tL_sR, tR_sR, tN_sR, tZ_sR, tC_sR, tc_sR, tz_sR, tI_sZ, tL_sZ, tR_sZ, tN_sZ, tZ_sZ, tC_sZ, tc_sZ, tz_sZ, tI_sC, tL_sC, tR_sC, tN_sC, tZ_sC, tC_sC, tc_sC, tz_sC, tI_aC, tL_aC, tR_aC, tN_aC, tZ_aC, tC_aC, tc_aC, tz_aC, tI_rmL, tL_rmL, tR_rmL, tN_rmL, tZ_rmL, tC_rmL, tc_rmL, tz_rmL, tI_mk, tL_mk, tR_mk, tN_mk, tZ_mk, tC_mk, tc_mk, tz_mk, tI_pushL, tL_pushL, tR_pushL, tN_pushL, tZ_pushL, tC_pushL, tc_pushL, tz_pushL, tI_pushB, tL_pushB, tR_pushB, tN_pushB, tZ_pushB, tC_pushB, tc_pushB, tz_pushB, tI_cpL, tL_cpL, tR_cpL, tN_cpL, tZ_cpL, tC_cpL, tc_cpL, tz_cpL, eq_self, true_and, and_true, false_and, and_false, if_true, if_false, reduceIte, ite_true, ite_false, not_true_eq_false, not_false_eq_true, fcN_96 hF, fcR_96_2 hF, X405, fcN_26 hF, q]
      exact loop2 (tZ a 27 0) 0 (by omega)
    | succ k ih =>
      intro t ht
      have htn : t < tZ a 26 0 := by omega
      have q : ¬ Int32.ofNat (tZ a 26 0) ≤ Int32.ofNat t := by rw [o_le (by omega) (by omega)]; omega
      have g1 : (Int32.ofNat t).toNatClampNeg = t := o_ix (by omega)
      have g2 : ¬ Int32.ofNat t < 0 := o_lt0 (by omega)
      obtain ⟨r1, r3, -⟩ := B5 t htn
      have r2 : t < tN a 35 := by omega
      have hi := ih (t + 1) (by omega)
      rw [show mA b (t + 1) = mA b t + tL b 43 0 t from rfl] at hi
      rw [lf_138_7]
      simp (config := {decide := true}) only [gfI_enc, gfL_enc, gfR_enc, pfI_enc, pfL_enc, pfR_enc, Option.bind_some, cI_v, cL_v, cF_v, cD_v, cR_v, cV_v, cI_x, cL_x, cR_x, cV_x, gz_0, gz_1, acc_enc, tI_sI, tL_sI, tR_sI, tN_sI, tZ_sI, tC_sI, tc_sI, tz_sI, tI_sL, tL_sL, tR_sL, tN_sL, tZ_sL, tC_sL, tc_sL, tz_sL, tI_sR, tL_sR, tR_sR, tN_sR, tZ_sR, tC_sR, tc_sR, tz_sR, tI_sZ, tL_sZ, tR_sZ, tN_sZ, tZ_sZ, tC_sZ, tc_sZ, tz_sZ, tI_sC, tL_sC, tR_sC, tN_sC, tZ_sC, tC_sC, tc_sC, tz_sC, tI_aC, tL_aC, tR_aC, tN_aC, tZ_aC, tC_aC, tc_aC, tz_aC, tI_rmL, tL_rmL, tR_rmL, tN_rmL, tZ_rmL, tC_rmL, tc_rmL, tz_rmL, tI_mk, tL_mk, tR_mk, tN_mk, tZ_mk, tC_mk, tc_mk, tz_mk, tI_pushL, tL_pushL, tR_pushL, tN_pushL, tZ_pushL, tC_pushL, tc_pushL, tz_pushL, tI_pushB, tL_pushB, tR_pushB, tN_pushB, tZ_pushB, tC_pushB, tc_pushB, tz_pushB, tI_cpL, tL_cpL, tR_cpL, tN_cpL, tZ_cpL, tC_cpL, tc_cpL, tz_cpL, eq_self, true_and, and_true, false_and, and_false, if_true, if_false, reduceIte, ite_true, ite_false, not_true_eq_false, not_false_eq_true, fcN_96 hF, fcR_96_2 hF, X405, X402, fcN_26 hF, q, g1, g2, htn, r1, r2, r3, o_s]
      exact hi
  refine (X_in (by decide +kernel) (fcN_96 hF) rfl).trans ((lf_138_0 ..).trans ?_)
  simp (config := {decide := true}) only [gfI_enc, gfL_enc, gfR_enc, pfI_enc, pfL_enc, pfR_enc, Option.bind_some, cI_v, cL_v, cF_v, cD_v, cR_v, cV_v, cI_x, cL_x, cR_x, cV_x, gz_0, gz_1, acc_enc, tI_sI, tL_sI, tR_sI, tN_sI, tZ_sI, tC_sI, tc_sI, tz_sI, tI_sL, tL_sL, tR_sL, tN_sL, tZ_sL, tC_sL, tc_sL, tz_sL, tI_sR, tL_sR, tR_sR, tN_sR, tZ_sR, tC_sR, tc_sR, tz_sR, tI_sZ, tL_sZ, tR_sZ, tN_sZ, tZ_sZ, tC_sZ, tc_sZ, tz_sZ, tI_sC, tL_sC, tR_sC, tN_sC, tZ_sC, tC_sC, tc_sC, tz_sC, tI_aC, tL_aC, tR_aC, tN_aC, tZ_aC, tC_aC, tc_aC, tz_aC, tI_rmL, tL_rmL, tR_rmL, tN_rmL, tZ_rmL, tC_rmL, tc_rmL, tz_rmL, tI_mk, tL_mk, tR_mk, tN_mk, tZ_mk, tC_mk, tc_mk, tz_mk, tI_pushL, tL_pushL, tR_pushL, tN_pushL, tZ_pushL, tC_pushL, tc_pushL, tz_pushL, tI_pushB, tL_pushB, tR_pushB, tN_pushB, tZ_pushB, tC_pushB, tc_pushB, tz_pushB, tI_cpL, tL_cpL, tR_cpL, tN_cpL, tZ_cpL, tC_cpL, tc_cpL, tz_cpL, eq_self, true_and, and_true, false_and, and_false, if_true, if_false, reduceIte, ite_true, ite_false, not_true_eq_false, not_false_eq_true, fcN_96 hF, B7]
  exact loop1 (tZ a 26 0) 0 (by omega)
/-- nothing is wrong -/
theorem x135 {a b : TS} {z : Hp} (hR : R0 a b) (h3 : tI b 95 0 6 = 0 → bdF b 0 (tZ a 29 0) = false) (h4 : hdB b 0 (tZ a 26 0) = true) (h5 : frB b 0 1000 = true) (h6 : mS b (tZ a 26 0) (tZ a 27 0) = tL b 91 0 8) : Ex 135 [aR (some (96, 0))] (enc 1 a z) = some (.inl (some (aI 0)), enc 1 a z) := by
  have hF := r_FC hR
  obtain ⟨-, -, -, -, -, -, -, B8⟩ := r_B hR
  obtain ⟨-, -, -, -, -, H6, -⟩ := r_H hR
  have n10 : ¬ (1 : Int32) = 0 := by decide
  have f23 := fun z => x23 (z := z) hR
  have f25 := fun z => x25 (z := z) hR
  have f136 := fun z => x136 (z := z) hR
  have f137 := fun z => x137 (z := z) hR
  have f26 := fun z => x26 (z := z) hR
  have f138 := fun z => x138 (z := z) hR
  rw [h6, ← B8] at f138
  simp only [if_pos h4] at f137
  simp only [if_pos h5] at f26
  have c3 : lg_cmp (tL a 96 0 10) (tL a 96 0 10) = 0 := by
    unfold lg_cmp
    rw [if_neg (Int64.lt_irrefl)]
    simp
  have half : Ru 135 58 [(0, aR (some (96, 0)))] [aI 0, aI ((0 : Int32) + (0 : Int32))] (enc 1 a z) = some (.inl (some (aI 0)), enc 1 a z) := by
    rw [lf_135_58]
    simp (config := {decide := true}) only [gfI_enc, gfL_enc, gfR_enc, pfI_enc, pfL_enc, pfR_enc, Option.bind_some, cI_v, cL_v, cF_v, cD_v, cR_v, cV_v, cI_x, cL_x, cR_x, cV_x, gz_0, gz_1, acc_enc, tI_sI, tL_sI, tR_sI, tN_sI, tZ_sI, tC_sI, tc_sI, tz_sI, tI_sL, tL_sL, tR_sL, tN_sL, tZ_sL, tC_sL, tc_sL, tz_sL, tI_sR, tL_sR, tR_sR, tN_sR, tZ_sR, tC_sR, tc_sR, tz_sR, tI_sZ, tL_sZ, tR_sZ, tN_sZ, tZ_sZ, tC_sZ, tc_sZ, tz_sZ, tI_sC, tL_sC, tR_sC, tN_sC, tZ_sC, tC_sC, tc_sC, tz_sC, tI_aC, tL_aC, tR_aC, tN_aC, tZ_aC, tC_aC, tc_aC, tz_aC, tI_rmL, tL_rmL, tR_rmL, tN_rmL, tZ_rmL, tC_rmL, tc_rmL, tz_rmL, tI_mk, tL_mk, tR_mk, tN_mk, tZ_mk, tC_mk, tc_mk, tz_mk, tI_pushL, tL_pushL, tR_pushL, tN_pushL, tZ_pushL, tC_pushL, tc_pushL, tz_pushL, tI_pushB, tL_pushB, tR_pushB, tN_pushB, tZ_pushB, tC_pushB, tc_pushB, tz_pushB, tI_cpL, tL_cpL, tR_cpL, tN_cpL, tZ_cpL, tC_cpL, tc_cpL, tz_cpL, eq_self, true_and, and_true, false_and, and_false, if_true, if_false, reduceIte, ite_true, ite_false, not_true_eq_false, not_false_eq_true, f137, n10, fcN_96 hF, fcR_96_6 hF, f26, f138, c3]
    rfl
  refine (X_in (by decide +kernel) (fcN_96 hF) rfl).trans ((lf_135_0 ..).trans ?_)
  by_cases e : tI b 95 0 6 = 0
  · have hb := h3 e
    rw [hb] at f136
    have nff : ¬ (false = true) := by decide
    simp only [if_neg nff] at f136
    simp (config := {decide := true}) only [gfI_enc, gfL_enc, gfR_enc, pfI_enc, pfL_enc, pfR_enc, Option.bind_some, cI_v, cL_v, cF_v, cD_v, cR_v, cV_v, cI_x, cL_x, cR_x, cV_x, gz_0, gz_1, acc_enc, tI_sI, tL_sI, tR_sI, tN_sI, tZ_sI, tC_sI, tc_sI, tz_sI, tI_sL, tL_sL, tR_sL, tN_sL, tZ_sL, tC_sL, tc_sL, tz_sL, tI_sR, tL_sR, tR_sR, tN_sR, tZ_sR, tC_sR, tc_sR, tz_sR, tI_sZ, tL_sZ, tR_sZ, tN_sZ, tZ_sZ, tC_sZ, tc_sZ, tz_sZ, tI_sC, tL_sC, tR_sC, tN_sC, tZ_sC, tC_sC, tc_sC, tz_sC, tI_aC, tL_aC, tR_aC, tN_aC, tZ_aC, tC_aC, tc_aC, tz_aC, tI_rmL, tL_rmL, tR_rmL, tN_rmL, tZ_rmL, tC_rmL, tc_rmL, tz_rmL, tI_mk, tL_mk, tR_mk, tN_mk, tZ_mk, tC_mk, tc_mk, tz_mk, tI_pushL, tL_pushL, tR_pushL, tN_pushL, tZ_pushL, tC_pushL, tc_pushL, tz_pushL, tI_pushB, tL_pushB, tR_pushB, tN_pushB, tZ_pushB, tC_pushB, tc_pushB, tz_pushB, tI_cpL, tL_cpL, tR_cpL, tN_cpL, tZ_cpL, tC_cpL, tc_cpL, tz_cpL, eq_self, true_and, and_true, false_and, and_false, if_true, if_false, reduceIte, ite_true, ite_false, not_true_eq_false, not_false_eq_true, fcN_96 hF, fcR_96_6 hF, fcR_96_5 hF, f23, f25, n10, H6, e, f136]
    exact half
  · simp (config := {decide := true}) only [gfI_enc, gfL_enc, gfR_enc, pfI_enc, pfL_enc, pfR_enc, Option.bind_some, cI_v, cL_v, cF_v, cD_v, cR_v, cV_v, cI_x, cL_x, cR_x, cV_x, gz_0, gz_1, acc_enc, tI_sI, tL_sI, tR_sI, tN_sI, tZ_sI, tC_sI, tc_sI, tz_sI, tI_sL, tL_sL, tR_sL, tN_sL, tZ_sL, tC_sL, tc_sL, tz_sL, tI_sR, tL_sR, tR_sR, tN_sR, tZ_sR, tC_sR, tc_sR, tz_sR, tI_sZ, tL_sZ, tR_sZ, tN_sZ, tZ_sZ, tC_sZ, tc_sZ, tz_sZ, tI_sC, tL_sC, tR_sC, tN_sC, tZ_sC, tC_sC, tc_sC, tz_sC, tI_aC, tL_aC, tR_aC, tN_aC, tZ_aC, tC_aC, tc_aC, tz_aC, tI_rmL, tL_rmL, tR_rmL, tN_rmL, tZ_rmL, tC_rmL, tc_rmL, tz_rmL, tI_mk, tL_mk, tR_mk, tN_mk, tZ_mk, tC_mk, tc_mk, tz_mk, tI_pushL, tL_pushL, tR_pushL, tN_pushL, tZ_pushL, tC_pushL, tc_pushL, tz_pushL, tI_pushB, tL_pushB, tR_pushB, tN_pushB, tZ_pushB, tC_pushB, tc_pushB, tz_pushB, tI_cpL, tL_cpL, tR_cpL, tN_cpL, tZ_cpL, tC_cpL, tc_cpL, tz_cpL, eq_self, true_and, and_true, false_and, and_false, if_true, if_false, reduceIte, ite_true, ite_false, not_true_eq_false, not_false_eq_true, fcN_96 hF, fcR_96_6 hF, fcR_96_5 hF, f23, f25, n10, H6, e]
    exact half
