/-! ===== errors: each counter is posted once ===== -/
theorem ro_at {a b : TS} {n : Nat} (hR : R0 a b) (hn : n < 1000) (h8 : hI b n 8 ≠ 0) : ∃ cd c, cd < tZ a 28 0 ∧ c < 201 ∧ hA b n 64 0 = Int32.ofNat cd ∧ hA b n 64 1 = Int32.ofNat c ∧ tI a 2 cd c = Int32.ofNat (n + 1) :=
  (hR.2.2.2.2.2.2.2.2.2.2.2.2.2.2.2.1 : RO a b).2.1 n hn h8
theorem x25 {a b : TS} {z : Hp} (hR : R0 a b) : Ex 25 [aR (some (30, 0))] (enc 1 a z) = some (.inl (some (aI 1)), enc 1 a z) := by
  have hF := r_FC hR
  have hK : RK a b := hR.2.2.2.2.2.2.2.2.2.2.2.2.2.1
  obtain ⟨⟨K1, -, -⟩, -, K3⟩ := hK
  obtain ⟨C1, -, ⟨C3, C4, C5⟩, -, C7⟩ := r_C hR
  have z3 : tZ a 3 0 = 1000 := fcZ_3 hF
  have loop : ∀ k n, n + k = 1000 → Ru 25 2 [(0, aR (some (30, 0))), (1, aI (Int32.ofNat n))] [] (enc 1 a z) = some (.inl (some (aI 1)), enc 1 a z) := by
    intro k
    induction k with
    | zero =>
      intro n hn
      have : n = 1000 := by omega
      subst this
      have q : Int32.ofNat 1000 ≤ Int32.ofNat 1000 := Int32.le_refl _
      rw [lf_25_2]
      simp (config := {decide := true}) only [gfI_enc, gfL_enc, gfR_enc, pfI_enc, pfL_enc, pfR_enc, Option.bind_some, cI_v, cL_v, cF_v, cD_v, cR_v, cV_v, cI_x, cL_x, cR_x, cV_x, gz_0, gz_1, acc_enc, tI_sI, tL_sI, tR_sI, tN_sI, tZ_sI, tC_sI, tc_sI, tz_sI, tI_sL, tL_sL, tR_sL, tN_sL, tZ_sL, tC_sL, tc_sL, tz_sL, tI_sR, tL_sR, tR_sR, tN_sR, tZ_sR, tC_sR, tc_sR, tz_sR, tI_sZ, tL_sZ, tR_sZ, tN_sZ, tZ_sZ, tC_sZ, tc_sZ, tz_sZ, tI_sC, tL_sC, tR_sC, tN_sC, tZ_sC, tC_sC, tc_sC, tz_sC, tI_aC, tL_aC, tR_aC, tN_aC, tZ_aC, tC_aC, tc_aC, tz_aC, tI_rmL, tL_rmL, tR_rmL, tN_rmL, tZ_rmL, tC_rmL, tc_rmL, tz_rmL, tI_mk, tL_mk, tR_mk, tN_mk, tZ_mk, tC_mk, tc_mk, tz_mk, tI_pushL, tL_pushL, tR_pushL, tN_pushL, tZ_pushL, tC_pushL, tc_pushL, tz_pushL, tI_pushB, tL_pushB, tR_pushB, tN_pushB, tZ_pushB, tC_pushB, tc_pushB, tz_pushB, tI_cpL, tL_cpL, tR_cpL, tN_cpL, tZ_cpL, tC_cpL, tc_cpL, tz_cpL, eq_self, true_and, and_true, false_and, and_false, if_true, if_false, reduceIte, ite_true, ite_false, not_true_eq_false, not_false_eq_true, fcN_30 hF, fcR_30_2 hF, len_enc, fcN_3 hF, z3, q]
    | succ k ih =>
      intro n hk
      have hn : n < 1000 := by omega
      have q : ¬ Int32.ofNat 1000 ≤ Int32.ofNat n := by rw [o_le (by omega) (by omega)]; omega
      have g1 : (Int32.ofNat n).toNatClampNeg = n := o_ix (by omega)
      have g2 : ¬ Int32.ofNat n < 0 := o_lt0 (by omega)
      have hi := ih (n + 1) (by omega)
      rw [lf_25_2]
      rcases K1 n hn with hno | ⟨j, j1, hj⟩
      · simp (config := {decide := true}) only [gfI_enc, gfL_enc, gfR_enc, pfI_enc, pfL_enc, pfR_enc, Option.bind_some, cI_v, cL_v, cF_v, cD_v, cR_v, cV_v, cI_x, cL_x, cR_x, cV_x, gz_0, gz_1, acc_enc, tI_sI, tL_sI, tR_sI, tN_sI, tZ_sI, tC_sI, tc_sI, tz_sI, tI_sL, tL_sL, tR_sL, tN_sL, tZ_sL, tC_sL, tc_sL, tz_sL, tI_sR, tL_sR, tR_sR, tN_sR, tZ_sR, tC_sR, tc_sR, tz_sR, tI_sZ, tL_sZ, tR_sZ, tN_sZ, tZ_sZ, tC_sZ, tc_sZ, tz_sZ, tI_sC, tL_sC, tR_sC, tN_sC, tZ_sC, tC_sC, tc_sC, tz_sC, tI_aC, tL_aC, tR_aC, tN_aC, tZ_aC, tC_aC, tc_aC, tz_aC, tI_rmL, tL_rmL, tR_rmL, tN_rmL, tZ_rmL, tC_rmL, tc_rmL, tz_rmL, tI_mk, tL_mk, tR_mk, tN_mk, tZ_mk, tC_mk, tc_mk, tz_mk, tI_pushL, tL_pushL, tR_pushL, tN_pushL, tZ_pushL, tC_pushL, tc_pushL, tz_pushL, tI_pushB, tL_pushB, tR_pushB, tN_pushB, tZ_pushB, tC_pushB, tc_pushB, tz_pushB, tI_cpL, tL_cpL, tR_cpL, tN_cpL, tZ_cpL, tC_cpL, tc_cpL, tz_cpL, eq_self, true_and, and_true, false_and, and_false, if_true, if_false, reduceIte, ite_true, ite_false, not_true_eq_false, not_false_eq_true, fcN_30 hF, fcR_30_2 hF, len_enc, gaR_enc, fcN_3 hF, z3, q, g1, g2, hn, hno, o_s]
        exact hi
      · obtain ⟨-, -, -, -, ⟨b8, kP0, kP⟩⟩ := K3 n hn
        rw [kR_some hj] at kP0
        by_cases e : hI b n 8 = 0
        · simp (config := {decide := true}) only [gfI_enc, gfL_enc, gfR_enc, pfI_enc, pfL_enc, pfR_enc, Option.bind_some, cI_v, cL_v, cF_v, cD_v, cR_v, cV_v, cI_x, cL_x, cR_x, cV_x, gz_0, gz_1, acc_enc, tI_sI, tL_sI, tR_sI, tN_sI, tZ_sI, tC_sI, tc_sI, tz_sI, tI_sL, tL_sL, tR_sL, tN_sL, tZ_sL, tC_sL, tc_sL, tz_sL, tI_sR, tL_sR, tR_sR, tN_sR, tZ_sR, tC_sR, tc_sR, tz_sR, tI_sZ, tL_sZ, tR_sZ, tN_sZ, tZ_sZ, tC_sZ, tc_sZ, tz_sZ, tI_sC, tL_sC, tR_sC, tN_sC, tZ_sC, tC_sC, tc_sC, tz_sC, tI_aC, tL_aC, tR_aC, tN_aC, tZ_aC, tC_aC, tc_aC, tz_aC, tI_rmL, tL_rmL, tR_rmL, tN_rmL, tZ_rmL, tC_rmL, tc_rmL, tz_rmL, tI_mk, tL_mk, tR_mk, tN_mk, tZ_mk, tC_mk, tc_mk, tz_mk, tI_pushL, tL_pushL, tR_pushL, tN_pushL, tZ_pushL, tC_pushL, tc_pushL, tz_pushL, tI_pushB, tL_pushB, tR_pushB, tN_pushB, tZ_pushB, tC_pushB, tc_pushB, tz_pushB, tI_cpL, tL_cpL, tR_cpL, tN_cpL, tZ_cpL, tC_cpL, tc_cpL, tz_cpL, eq_self, true_and, and_true, false_and, and_false, if_true, if_false, reduceIte, ite_true, ite_false, not_true_eq_false, not_false_eq_true, fcN_30 hF, fcR_30_2 hF, len_enc, gaR_enc, fcN_3 hF, z3, q, g1, g2, hn, hj, reduceCtorEq, j1, kP0 e, o_s]
          exact hi
        · obtain ⟨i, -, -, -, i1, -, -, -, i5, i6, i7, -⟩ := kP e
          rw [kR_some hj] at i5
          obtain ⟨cd, c, o1, o2, o3, o4, o5⟩ := ro_at hR hn e
          rw [o3] at i6
          rw [o4] at i7
          obtain ⟨c1, c2, -, -, -, -, -, c8, -, c10⟩ := C7 cd o1
          have n37 : cd < tN a 37 := by omega
          have f16 := fun z => x16 (a := a) (z := z) (k := cd) hF C1 o1 c1 n37
          have f10 := fun z => x10 (a := a) (z := z) (j := cd) (c := Int32.ofNat c) n37 c8 (by omega) c10 (o_lt0 (by omega)) (by rw [o_ix (by omega)]; exact o2)
          rw [o_ix (by omega), o5, o_p] at f10
          simp (config := {decide := true}) only [gfI_enc, gfL_enc, gfR_enc, pfI_enc, pfL_enc, pfR_enc, Option.bind_some, cI_v, cL_v, cF_v, cD_v, cR_v, cV_v, cI_x, cL_x, cR_x, cV_x, gz_0, gz_1, acc_enc, tI_sI, tL_sI, tR_sI, tN_sI, tZ_sI, tC_sI, tc_sI, tz_sI, tI_sL, tL_sL, tR_sL, tN_sL, tZ_sL, tC_sL, tc_sL, tz_sL, tI_sR, tL_sR, tR_sR, tN_sR, tZ_sR, tC_sR, tc_sR, tz_sR, tI_sZ, tL_sZ, tR_sZ, tN_sZ, tZ_sZ, tC_sZ, tc_sZ, tz_sZ, tI_sC, tL_sC, tR_sC, tN_sC, tZ_sC, tC_sC, tc_sC, tz_sC, tI_aC, tL_aC, tR_aC, tN_aC, tZ_aC, tC_aC, tc_aC, tz_aC, tI_rmL, tL_rmL, tR_rmL, tN_rmL, tZ_rmL, tC_rmL, tc_rmL, tz_rmL, tI_mk, tL_mk, tR_mk, tN_mk, tZ_mk, tC_mk, tc_mk, tz_mk, tI_pushL, tL_pushL, tR_pushL, tN_pushL, tZ_pushL, tC_pushL, tc_pushL, tz_pushL, tI_pushB, tL_pushB, tR_pushB, tN_pushB, tZ_pushB, tC_pushB, tc_pushB, tz_pushB, tI_cpL, tL_cpL, tR_cpL, tN_cpL, tZ_cpL, tC_cpL, tc_cpL, tz_cpL, eq_self, true_and, and_true, false_and, and_false, if_true, if_false, reduceIte, ite_true, ite_false, not_true_eq_false, not_false_eq_true, fcN_30 hF, fcR_30_2 hF, len_enc, gaR_enc, fcN_3 hF, z3, q, g1, g2, hn, hj, reduceCtorEq, j1, i5, i1, i6, f16, i7, f10, o_s]
          exact hi
  refine (X_in (by decide +kernel) (fcN_30 hF) rfl).trans ((lf_25_0 ..).trans ?_)
  exact loop 1000 0 (by omega)
theorem y182 {a b : TS} {z : Hp} (hR : R0 a b) : Ex 182 [aR (some (94, 0))] (enc 2 b z) = some (.inl (some (aI 1)), enc 2 b z) := by
  have hF := r_FR hR
  have hK : RK a b := hR.2.2.2.2.2.2.2.2.2.2.2.2.2.1
  obtain ⟨-, ⟨K2, -, ⟨-, -, n64⟩, K4, -⟩, -⟩ := hK
  have C1 := (r_C hR).1
  have n10 : ¬ (1 : Int32) = 0 := by decide
  have t0 : (0 : Int32).toNatClampNeg = 0 := rfl
  have t1 : (1 : Int32).toNatClampNeg = 1 := rfl
  have ge : ∀ n, n < 1000 → ¬ (1000 : Int32) ≤ Int32.ofNat n := fun n hn => by
    rw [show (1000 : Int32) = Int32.ofNat 1000 from rfl, o_le (by omega) (by omega)]
    omega
  have gt : (1000 : Int32) ≤ Int32.ofNat 1000 := by decide
  have at8 : ∀ n, n < 1000 → hI b n 8 ≠ 0 → ∃ j, tR b 53 0 n = some (61, j) ∧ j < tN b 61 ∧ tR b 61 j 6 = some (64, j) ∧ j < tN b 64 ∧ tZ b 64 j = 3 ∧ ∃ cd c, cd < tZ a 28 0 ∧ c < 201 ∧ tI b 64 j 0 = Int32.ofNat cd ∧ tI b 64 j 1 = Int32.ofNat c ∧ tI a 2 cd c = Int32.ofNat (n + 1) := fun n hn e => by
    obtain ⟨cd, c, o1, o2, o3, o4, o5⟩ := ro_at hR hn e
    rcases K2 n hn with hno | ⟨j, j1, hj⟩
    · rw [hI_none hno] at e
      exact absurd rfl e
    · obtain ⟨-, -, k6, -, -, kz⟩ := K4 j j1
      rw [hA_at hj] at o3 o4
      exact ⟨j, hj, j1, k6, by omega, kz, cd, c, o1, o2, o3, o4, o5⟩
  have inner : ∀ n, n < 1000 → ∀ k m, n < m → m + k = 1000 → Ru 182 13 [(0, aR (some (94, 0))), (1, aI (Int32.ofNat n)), (2, aI (Int32.ofNat m))] [] (enc 2 b z) = Ru 182 2 [(0, aR (some (94, 0))), (1, aI (Int32.ofNat (n + 1)))] [] (enc 2 b z) := by
    intro n hn k
    induction k with
    | zero =>
      intro m _ hm
      have : m = 1000 := by omega
      subst this
      rw [lf_182_13, if_pos gt, o_s]
    | succ k ih =>
      intro m hnm hm
      have hm' : m < 1000 := by omega
      have f1 := fun z => y179 (z := z) hR hn
      have f2 := fun z => y179 (z := z) hR hm'
      have g1 : (Int32.ofNat n).toNatClampNeg = n := o_ix (by omega)
      have g2 : ¬ Int32.ofNat n < 0 := o_lt0 (by omega)
      have g3 : (Int32.ofNat m).toNatClampNeg = m := o_ix (by omega)
      have g4 : ¬ Int32.ofNat m < 0 := o_lt0 (by omega)
      have hi := ih (m + 1) (by omega) (by omega)
      rw [lf_182_13, if_neg (ge m hm'), f1, cI_v]
      by_cases e1 : hI b n 8 = 0
      · rw [if_pos e1, o_s]
      · rw [if_neg e1, f2, cI_v]
        by_cases e2 : hI b m 8 = 0
        · rw [if_pos e2, o_s]
          exact hi
        · rw [if_neg e2]
          obtain ⟨j, hj, j1, j6, j64, jz, cd, c, q1, q2, q3, q4, q5⟩ := at8 n hn e1
          obtain ⟨i, hi', i1, i6, i64, iz, cd', c', r1, r2, r3, r4, r5⟩ := at8 m hm' e2
          by_cases e3 : Int32.ofNat cd = Int32.ofNat cd'
          · have e4 : ¬ Int32.ofNat c = Int32.ofNat c' := fun w => by
              have w1 : cd = cd' := o_inj (by omega) (by omega) e3
              have w2 : c = c' := o_inj (by omega) (by omega) w
              subst w1 w2
              rw [q5] at r5
              have := o_inj (by omega) (by omega) r5
              omega
            simp (config := {decide := true}) only [gfI_enc, gfL_enc, gfR_enc, pfI_enc, pfL_enc, pfR_enc, Option.bind_some, cI_v, cL_v, cF_v, cD_v, cR_v, cV_v, cI_x, cL_x, cR_x, cV_x, gz_0, gz_1, acc_enc, tI_sI, tL_sI, tR_sI, tN_sI, tZ_sI, tC_sI, tc_sI, tz_sI, tI_sL, tL_sL, tR_sL, tN_sL, tZ_sL, tC_sL, tc_sL, tz_sL, tI_sR, tL_sR, tR_sR, tN_sR, tZ_sR, tC_sR, tc_sR, tz_sR, tI_sZ, tL_sZ, tR_sZ, tN_sZ, tZ_sZ, tC_sZ, tc_sZ, tz_sZ, tI_sC, tL_sC, tR_sC, tN_sC, tZ_sC, tC_sC, tc_sC, tz_sC, tI_aC, tL_aC, tR_aC, tN_aC, tZ_aC, tC_aC, tc_aC, tz_aC, tI_rmL, tL_rmL, tR_rmL, tN_rmL, tZ_rmL, tC_rmL, tc_rmL, tz_rmL, tI_mk, tL_mk, tR_mk, tN_mk, tZ_mk, tC_mk, tc_mk, tz_mk, tI_pushL, tL_pushL, tR_pushL, tN_pushL, tZ_pushL, tC_pushL, tc_pushL, tz_pushL, tI_pushB, tL_pushB, tR_pushB, tN_pushB, tZ_pushB, tC_pushB, tc_pushB, tz_pushB, tI_cpL, tL_cpL, tR_cpL, tN_cpL, tZ_cpL, tC_cpL, tc_cpL, tz_cpL, eq_self, true_and, and_true, false_and, and_false, if_true, if_false, reduceIte, ite_true, ite_false, not_true_eq_false, not_false_eq_true, frN_94 hF, frR_94_2 hF, frN_53 hF, frZ_53 hF, gaR_enc, gaI_enc, g1, g2, g3, g4, hn, hm', hj, hi', j1, i1, j6, i6, j64, i64, jz, iz, t0, t1, q3, q4, r3, r4, e3, e4, o_s]
            exact hi
          · simp (config := {decide := true}) only [gfI_enc, gfL_enc, gfR_enc, pfI_enc, pfL_enc, pfR_enc, Option.bind_some, cI_v, cL_v, cF_v, cD_v, cR_v, cV_v, cI_x, cL_x, cR_x, cV_x, gz_0, gz_1, acc_enc, tI_sI, tL_sI, tR_sI, tN_sI, tZ_sI, tC_sI, tc_sI, tz_sI, tI_sL, tL_sL, tR_sL, tN_sL, tZ_sL, tC_sL, tc_sL, tz_sL, tI_sR, tL_sR, tR_sR, tN_sR, tZ_sR, tC_sR, tc_sR, tz_sR, tI_sZ, tL_sZ, tR_sZ, tN_sZ, tZ_sZ, tC_sZ, tc_sZ, tz_sZ, tI_sC, tL_sC, tR_sC, tN_sC, tZ_sC, tC_sC, tc_sC, tz_sC, tI_aC, tL_aC, tR_aC, tN_aC, tZ_aC, tC_aC, tc_aC, tz_aC, tI_rmL, tL_rmL, tR_rmL, tN_rmL, tZ_rmL, tC_rmL, tc_rmL, tz_rmL, tI_mk, tL_mk, tR_mk, tN_mk, tZ_mk, tC_mk, tc_mk, tz_mk, tI_pushL, tL_pushL, tR_pushL, tN_pushL, tZ_pushL, tC_pushL, tc_pushL, tz_pushL, tI_pushB, tL_pushB, tR_pushB, tN_pushB, tZ_pushB, tC_pushB, tc_pushB, tz_pushB, tI_cpL, tL_cpL, tR_cpL, tN_cpL, tZ_cpL, tC_cpL, tc_cpL, tz_cpL, eq_self, true_and, and_true, false_and, and_false, if_true, if_false, reduceIte, ite_true, ite_false, not_true_eq_false, not_false_eq_true, frN_94 hF, frR_94_2 hF, frN_53 hF, frZ_53 hF, gaR_enc, gaI_enc, g1, g2, g3, g4, hn, hm', hj, hi', j1, i1, j6, i6, j64, i64, jz, iz, t0, t1, q3, q4, r3, r4, e3, o_s]
            exact hi
  have loop : ∀ k n, n + k = 1000 → Ru 182 2 [(0, aR (some (94, 0))), (1, aI (Int32.ofNat n))] [] (enc 2 b z) = some (.inl (some (aI 1)), enc 2 b z) := by
    intro k
    induction k with
    | zero =>
      intro n hn
      have : n = 1000 := by omega
      subst this
      rw [lf_182_2, if_pos gt]
    | succ k ih =>
      intro n hk
      have hn : n < 1000 := by omega
      rw [lf_182_2, if_neg (ge n hn), o_s, inner n hn (1000 - (n + 1)) (n + 1) (by omega) (by omega)]
      exact ih (n + 1) (by omega)
  refine (X_in (by decide +kernel) (frN_94 hF) rfl).trans ((lf_182_0 ..).trans ?_)
  exact loop 1000 0 (by omega)
/-! ===== errors: no payment that is posted is ungranted ===== -/
noncomputable def bdP (b : TS) (p : Nat) : Bool := decide (hI b p 8 ≠ 0 ∧ ¬ (tI b 87 0 (10 * p) = 0 ∨ tI b 87 0 (10 * p) = 2))
noncomputable def bdF (b : TS) : Nat → Nat → Bool
  | _, 0 => false
  | j, k + 1 => bdP b j || bdF b (j + 1) k
theorem x136 {a b : TS} {z : Hp} (hR : R0 a b) : Ex 136 [aR (some (96, 0))] (enc 1 a z) = some (.inl (some (aI (if bdF b 0 (tZ a 29 0) = true then 0 else 1))), enc 1 a z) := by
  have hF := r_FC hR
  have P1 := (r_P' hR).1
  have n10 : ¬ (1 : Int32) = 0 := by decide
  have loop : ∀ k j, j + k = tZ a 29 0 → Ru 136 2 [(0, aR (some (96, 0))), (1, aI (Int32.ofNat j))] [] (enc 1 a z) = some (.inl (some (aI (if bdF b j k = true then 0 else 1))), enc 1 a z) := by
    intro k
    induction k with
    | zero =>
      intro j hj
      have e : j = tZ a 29 0 := by omega
      subst e
      have q : Int32.ofNat (tZ a 29 0) ≤ Int32.ofNat (tZ a 29 0) := Int32.le_refl _
      have e0 : bdF b (tZ a 29 0) 0 = false := rfl
      rw [lf_136_2, e0]
      simp (config := {decide := true}) only [gfI_enc, gfL_enc, gfR_enc, pfI_enc, pfL_enc, pfR_enc, Option.bind_some, cI_v, cL_v, cF_v, cD_v, cR_v, cV_v, cI_x, cL_x, cR_x, cV_x, gz_0, gz_1, acc_enc, tI_sI, tL_sI, tR_sI, tN_sI, tZ_sI, tC_sI, tc_sI, tz_sI, tI_sL, tL_sL, tR_sL, tN_sL, tZ_sL, tC_sL, tc_sL, tz_sL, tI_sR, tL_sR, tR_sR, tN_sR, tZ_sR, tC_sR, tc_sR, tz_sR, tI_sZ, tL_sZ, tR_sZ, tN_sZ, tZ_sZ, tC_sZ, tc_sZ, tz_sZ, tI_sC, tL_sC, tR_sC, tN_sC, tZ_sC, tC_sC, tc_sC, tz_sC, tI_aC, tL_aC, tR_aC, tN_aC, tZ_aC, tC_aC, tc_aC, tz_aC, tI_rmL, tL_rmL, tR_rmL, tN_rmL, tZ_rmL, tC_rmL, tc_rmL, tz_rmL, tI_mk, tL_mk, tR_mk, tN_mk, tZ_mk, tC_mk, tc_mk, tz_mk, tI_pushL, tL_pushL, tR_pushL, tN_pushL, tZ_pushL, tC_pushL, tc_pushL, tz_pushL, tI_pushB, tL_pushB, tR_pushB, tN_pushB, tZ_pushB, tC_pushB, tc_pushB, tz_pushB, tI_cpL, tL_cpL, tR_cpL, tN_cpL, tZ_cpL, tC_cpL, tc_cpL, tz_cpL, eq_self, true_and, and_true, false_and, and_false, if_true, if_false, reduceIte, ite_true, ite_false, not_true_eq_false, not_false_eq_true, fcN_96 hF, fcR_96_5 hF, X405, fcN_29 hF, q, Bool.false_eq_true]
    | succ k ih =>
      intro j hj
      have hjn : j < tZ a 29 0 := by omega
      have q : ¬ Int32.ofNat (tZ a 29 0) ≤ Int32.ofNat j := by rw [o_le (by omega) (by omega)]; omega
      have g1 : (Int32.ofNat j).toNatClampNeg = j := o_ix (by omega)
      have g2 : ¬ Int32.ofNat j < 0 := o_lt0 (by omega)
      obtain ⟨r1, r2, -, d7, -⟩ := pay_at hR hjn
      have f45 := fun z => x45 (a := a) (z := z) r2
      rw [d7] at f45
      have f17 := fun z => x17 (z := z) hR (n := j) (by omega)
      have hi := ih (j + 1) (by omega)
      have es : bdF b j (k + 1) = (bdP b j || bdF b (j + 1) k) := rfl
      rw [lf_136_2, es]
      by_cases e : hI b j 8 = 0
      · have ep : bdP b j = false := decide_eq_false (fun w => w.1 e)
        rw [ep, Bool.false_or]
        simp (config := {decide := true}) only [gfI_enc, gfL_enc, gfR_enc, pfI_enc, pfL_enc, pfR_enc, Option.bind_some, cI_v, cL_v, cF_v, cD_v, cR_v, cV_v, cI_x, cL_x, cR_x, cV_x, gz_0, gz_1, acc_enc, tI_sI, tL_sI, tR_sI, tN_sI, tZ_sI, tC_sI, tc_sI, tz_sI, tI_sL, tL_sL, tR_sL, tN_sL, tZ_sL, tC_sL, tc_sL, tz_sL, tI_sR, tL_sR, tR_sR, tN_sR, tZ_sR, tC_sR, tc_sR, tz_sR, tI_sZ, tL_sZ, tR_sZ, tN_sZ, tZ_sZ, tC_sZ, tc_sZ, tz_sZ, tI_sC, tL_sC, tR_sC, tN_sC, tZ_sC, tC_sC, tc_sC, tz_sC, tI_aC, tL_aC, tR_aC, tN_aC, tZ_aC, tC_aC, tc_aC, tz_aC, tI_rmL, tL_rmL, tR_rmL, tN_rmL, tZ_rmL, tC_rmL, tc_rmL, tz_rmL, tI_mk, tL_mk, tR_mk, tN_mk, tZ_mk, tC_mk, tc_mk, tz_mk, tI_pushL, tL_pushL, tR_pushL, tN_pushL, tZ_pushL, tC_pushL, tc_pushL, tz_pushL, tI_pushB, tL_pushB, tR_pushB, tN_pushB, tZ_pushB, tC_pushB, tc_pushB, tz_pushB, tI_cpL, tL_cpL, tR_cpL, tN_cpL, tZ_cpL, tC_cpL, tc_cpL, tz_cpL, eq_self, true_and, and_true, false_and, and_false, if_true, if_false, reduceIte, ite_true, ite_false, not_true_eq_false, not_false_eq_true, fcN_96 hF, fcR_96_5 hF, fcR_96_6 hF, X405, fcN_29 hF, q, f17, e, o_s]
        exact hi
      · by_cases eg : tI b 87 0 (10 * j) = 0 ∨ tI b 87 0 (10 * j) = 2
        · have ep : bdP b j = false := decide_eq_false (fun w => w.2 eg)
          simp only [if_pos eg] at f45
          rw [ep, Bool.false_or]
          simp (config := {decide := true}) only [gfI_enc, gfL_enc, gfR_enc, pfI_enc, pfL_enc, pfR_enc, Option.bind_some, cI_v, cL_v, cF_v, cD_v, cR_v, cV_v, cI_x, cL_x, cR_x, cV_x, gz_0, gz_1, acc_enc, tI_sI, tL_sI, tR_sI, tN_sI, tZ_sI, tC_sI, tc_sI, tz_sI, tI_sL, tL_sL, tR_sL, tN_sL, tZ_sL, tC_sL, tc_sL, tz_sL, tI_sR, tL_sR, tR_sR, tN_sR, tZ_sR, tC_sR, tc_sR, tz_sR, tI_sZ, tL_sZ, tR_sZ, tN_sZ, tZ_sZ, tC_sZ, tc_sZ, tz_sZ, tI_sC, tL_sC, tR_sC, tN_sC, tZ_sC, tC_sC, tc_sC, tz_sC, tI_aC, tL_aC, tR_aC, tN_aC, tZ_aC, tC_aC, tc_aC, tz_aC, tI_rmL, tL_rmL, tR_rmL, tN_rmL, tZ_rmL, tC_rmL, tc_rmL, tz_rmL, tI_mk, tL_mk, tR_mk, tN_mk, tZ_mk, tC_mk, tc_mk, tz_mk, tI_pushL, tL_pushL, tR_pushL, tN_pushL, tZ_pushL, tC_pushL, tc_pushL, tz_pushL, tI_pushB, tL_pushB, tR_pushB, tN_pushB, tZ_pushB, tC_pushB, tc_pushB, tz_pushB, tI_cpL, tL_cpL, tR_cpL, tN_cpL, tZ_cpL, tC_cpL, tc_cpL, tz_cpL, eq_self, true_and, and_true, false_and, and_false, if_true, if_false, reduceIte, ite_true, ite_false, not_true_eq_false, not_false_eq_true, fcN_96 hF, fcR_96_5 hF, fcR_96_6 hF, X405, X402, fcN_29 hF, q, g1, g2, hjn, r1, r2, f17, e, f45, n10, o_s]
          exact hi
        · have ep : bdP b j = true := decide_eq_true ⟨e, eg⟩
          simp only [if_neg eg] at f45
          rw [ep, Bool.true_or]
          simp (config := {decide := true}) only [gfI_enc, gfL_enc, gfR_enc, pfI_enc, pfL_enc, pfR_enc, Option.bind_some, cI_v, cL_v, cF_v, cD_v, cR_v, cV_v, cI_x, cL_x, cR_x, cV_x, gz_0, gz_1, acc_enc, tI_sI, tL_sI, tR_sI, tN_sI, tZ_sI, tC_sI, tc_sI, tz_sI, tI_sL, tL_sL, tR_sL, tN_sL, tZ_sL, tC_sL, tc_sL, tz_sL, tI_sR, tL_sR, tR_sR, tN_sR, tZ_sR, tC_sR, tc_sR, tz_sR, tI_sZ, tL_sZ, tR_sZ, tN_sZ, tZ_sZ, tC_sZ, tc_sZ, tz_sZ, tI_sC, tL_sC, tR_sC, tN_sC, tZ_sC, tC_sC, tc_sC, tz_sC, tI_aC, tL_aC, tR_aC, tN_aC, tZ_aC, tC_aC, tc_aC, tz_aC, tI_rmL, tL_rmL, tR_rmL, tN_rmL, tZ_rmL, tC_rmL, tc_rmL, tz_rmL, tI_mk, tL_mk, tR_mk, tN_mk, tZ_mk, tC_mk, tc_mk, tz_mk, tI_pushL, tL_pushL, tR_pushL, tN_pushL, tZ_pushL, tC_pushL, tc_pushL, tz_pushL, tI_pushB, tL_pushB, tR_pushB, tN_pushB, tZ_pushB, tC_pushB, tc_pushB, tz_pushB, tI_cpL, tL_cpL, tR_cpL, tN_cpL, tZ_cpL, tC_cpL, tc_cpL, tz_cpL, eq_self, true_and, and_true, false_and, and_false, if_true, if_false, reduceIte, ite_true, ite_false, not_true_eq_false, not_false_eq_true, fcN_96 hF, fcR_96_5 hF, fcR_96_6 hF, X405, X402, fcN_29 hF, q, g1, g2, hjn, r1, r2, f17, e, f45]
  refine (X_in (by decide +kernel) (fcN_96 hF) rfl).trans ((lf_136_0 ..).trans ?_)
  exact loop (tZ a 29 0) 0 (by omega)
theorem y291 {a b : TS} {C : Nat} (h : Core a b C) (e : Nat) : ∃ e', ∀ z, Ex 291 [aR (some (97, 0))] (enc 2 (stP b e) z) = some (.inl (some (aI (if bdF b 0 (tZ a 29 0) = true then 1 else 0))), enc 2 (stP b e') z) := by
  have hR := h.1.1
  obtain ⟨P1, -, P3, P4, P5, -⟩ := r_P' hR
  have n10 : ¬ (1 : Int32) = 0 := by decide
  have found : ∀ k j e z, j + k = tZ a 29 0 → Ru 291 4 [(0, aR (some (97, 0))), (1, aI 1), (2, aI (Int32.ofNat j))] [] (enc 2 (stP b e) z) = some (.inl (some (aI 1)), enc 2 (stP b e) z) := by
    intro k
    induction k with
    | zero =>
      intro j e z hj
      have e0 : j = tZ a 29 0 := by omega
      subst e0
      have hF := r_FR (stP_core h e).1.1
      have q8 := ((stP_c b e).2.2.2).trans P4
      have q : Int32.ofNat (tZ a 29 0) ≤ Int32.ofNat (tZ a 29 0) := Int32.le_refl _
      rw [lf_291_4]
      simp (config := {decide := true}) only [gfI_enc, gfL_enc, gfR_enc, pfI_enc, pfL_enc, pfR_enc, Option.bind_some, cI_v, cL_v, cF_v, cD_v, cR_v, cV_v, cI_x, cL_x, cR_x, cV_x, gz_0, gz_1, acc_enc, tI_sI, tL_sI, tR_sI, tN_sI, tZ_sI, tC_sI, tc_sI, tz_sI, tI_sL, tL_sL, tR_sL, tN_sL, tZ_sL, tC_sL, tc_sL, tz_sL, tI_sR, tL_sR, tR_sR, tN_sR, tZ_sR, tC_sR, tc_sR, tz_sR, tI_sZ, tL_sZ, tR_sZ, tN_sZ, tZ_sZ, tC_sZ, tc_sZ, tz_sZ, tI_sC, tL_sC, tR_sC, tN_sC, tZ_sC, tC_sC, tc_sC, tz_sC, tI_aC, tL_aC, tR_aC, tN_aC, tZ_aC, tC_aC, tc_aC, tz_aC, tI_rmL, tL_rmL, tR_rmL, tN_rmL, tZ_rmL, tC_rmL, tc_rmL, tz_rmL, tI_mk, tL_mk, tR_mk, tN_mk, tZ_mk, tC_mk, tc_mk, tz_mk, tI_pushL, tL_pushL, tR_pushL, tN_pushL, tZ_pushL, tC_pushL, tc_pushL, tz_pushL, tI_pushB, tL_pushB, tR_pushB, tN_pushB, tZ_pushB, tC_pushB, tc_pushB, tz_pushB, tI_cpL, tL_cpL, tR_cpL, tN_cpL, tZ_cpL, tC_cpL, tc_cpL, tz_cpL, eq_self, true_and, and_true, false_and, and_false, if_true, if_false, reduceIte, ite_true, ite_false, not_true_eq_false, not_false_eq_true, frN_97 hF, frR_97_2 hF, frN_93 hF, q8, q]
    | succ k ih =>
      intro j e z hj
      have hF := r_FR (stP_core h e).1.1
      have q8 := ((stP_c b e).2.2.2).trans P4
      have q : ¬ Int32.ofNat (tZ a 29 0) ≤ Int32.ofNat j := by rw [o_le (by omega) (by omega)]; omega
      have hi := ih (j + 1) e z (by omega)
      rw [lf_291_4]
      simp (config := {decide := true}) only [gfI_enc, gfL_enc, gfR_enc, pfI_enc, pfL_enc, pfR_enc, Option.bind_some, cI_v, cL_v, cF_v, cD_v, cR_v, cV_v, cI_x, cL_x, cR_x, cV_x, gz_0, gz_1, acc_enc, tI_sI, tL_sI, tR_sI, tN_sI, tZ_sI, tC_sI, tc_sI, tz_sI, tI_sL, tL_sL, tR_sL, tN_sL, tZ_sL, tC_sL, tc_sL, tz_sL, tI_sR, tL_sR, tR_sR, tN_sR, tZ_sR, tC_sR, tc_sR, tz_sR, tI_sZ, tL_sZ, tR_sZ, tN_sZ, tZ_sZ, tC_sZ, tc_sZ, tz_sZ, tI_sC, tL_sC, tR_sC, tN_sC, tZ_sC, tC_sC, tc_sC, tz_sC, tI_aC, tL_aC, tR_aC, tN_aC, tZ_aC, tC_aC, tc_aC, tz_aC, tI_rmL, tL_rmL, tR_rmL, tN_rmL, tZ_rmL, tC_rmL, tc_rmL, tz_rmL, tI_mk, tL_mk, tR_mk, tN_mk, tZ_mk, tC_mk, tc_mk, tz_mk, tI_pushL, tL_pushL, tR_pushL, tN_pushL, tZ_pushL, tC_pushL, tc_pushL, tz_pushL, tI_pushB, tL_pushB, tR_pushB, tN_pushB, tZ_pushB, tC_pushB, tc_pushB, tz_pushB, tI_cpL, tL_cpL, tR_cpL, tN_cpL, tZ_cpL, tC_cpL, tc_cpL, tz_cpL, eq_self, true_and, and_true, false_and, and_false, if_true, if_false, reduceIte, ite_true, ite_false, not_true_eq_false, not_false_eq_true, frN_97 hF, frR_97_2 hF, frN_93 hF, q8, q, n10, o_s]
      exact hi
  have loop : ∀ k j e, j + k = tZ a 29 0 → ∃ e', ∀ z, Ru 291 4 [(0, aR (some (97, 0))), (1, aI 0), (2, aI (Int32.ofNat j))] [] (enc 2 (stP b e) z) = some (.inl (some (aI (if bdF b j k = true then 1 else 0))), enc 2 (stP b e') z) := by
    intro k
    induction k with
    | zero =>
      intro j e hj
      have e0 : j = tZ a 29 0 := by omega
      subst e0
      have hF := r_FR (stP_core h e).1.1
      have q8 := ((stP_c b e).2.2.2).trans P4
      have q : Int32.ofNat (tZ a 29 0) ≤ Int32.ofNat (tZ a 29 0) := Int32.le_refl _
      have e1 : bdF b (tZ a 29 0) 0 = false := rfl
      refine ⟨e, fun z => ?_⟩
      rw [lf_291_4, e1]
      simp (config := {decide := true}) only [gfI_enc, gfL_enc, gfR_enc, pfI_enc, pfL_enc, pfR_enc, Option.bind_some, cI_v, cL_v, cF_v, cD_v, cR_v, cV_v, cI_x, cL_x, cR_x, cV_x, gz_0, gz_1, acc_enc, tI_sI, tL_sI, tR_sI, tN_sI, tZ_sI, tC_sI, tc_sI, tz_sI, tI_sL, tL_sL, tR_sL, tN_sL, tZ_sL, tC_sL, tc_sL, tz_sL, tI_sR, tL_sR, tR_sR, tN_sR, tZ_sR, tC_sR, tc_sR, tz_sR, tI_sZ, tL_sZ, tR_sZ, tN_sZ, tZ_sZ, tC_sZ, tc_sZ, tz_sZ, tI_sC, tL_sC, tR_sC, tN_sC, tZ_sC, tC_sC, tc_sC, tz_sC, tI_aC, tL_aC, tR_aC, tN_aC, tZ_aC, tC_aC, tc_aC, tz_aC, tI_rmL, tL_rmL, tR_rmL, tN_rmL, tZ_rmL, tC_rmL, tc_rmL, tz_rmL, tI_mk, tL_mk, tR_mk, tN_mk, tZ_mk, tC_mk, tc_mk, tz_mk, tI_pushL, tL_pushL, tR_pushL, tN_pushL, tZ_pushL, tC_pushL, tc_pushL, tz_pushL, tI_pushB, tL_pushB, tR_pushB, tN_pushB, tZ_pushB, tC_pushB, tc_pushB, tz_pushB, tI_cpL, tL_cpL, tR_cpL, tN_cpL, tZ_cpL, tC_cpL, tc_cpL, tz_cpL, eq_self, true_and, and_true, false_and, and_false, if_true, if_false, reduceIte, ite_true, ite_false, not_true_eq_false, not_false_eq_true, frN_97 hF, frR_97_2 hF, frN_93 hF, q8, q, Bool.false_eq_true]
    | succ k ih =>
      intro j e hj
      have hjn : j < tZ a 29 0 := by omega
      have hF := r_FR (stP_core h e).1.1
      have q8 := ((stP_c b e).2.2.2).trans P4
      have q : ¬ Int32.ofNat (tZ a 29 0) ≤ Int32.ofNat j := by rw [o_le (by omega) (by omega)]; omega
      have f179 : ∀ z, Ex 179 [aR (some (94, 0)), aI (Int32.ofNat j)] (enc 2 (stP b e) z) = some (.inl (some (aI (hI b j 8))), enc 2 (stP b e) z) := fun z => by
        have := y179 (z := z) (stP_core h e).1.1 (n := j) (by omega)
        rw [hI_P] at this
        exact this
      have f287 := fun z => y287P (z := z) h hjn (j := e)
      have es : bdF b j (k + 1) = (bdP b j || bdF b (j + 1) k) := rfl
      rw [es]
      by_cases e8 : hI b j 8 = 0
      · obtain ⟨e', hi⟩ := ih (j + 1) e (by omega)
        have ep : bdP b j = false := decide_eq_false (fun w => w.1 e8)
        refine ⟨e', fun z => ?_⟩
        rw [lf_291_4, ep, Bool.false_or]
        simp (config := {decide := true}) only [gfI_enc, gfL_enc, gfR_enc, pfI_enc, pfL_enc, pfR_enc, Option.bind_some, cI_v, cL_v, cF_v, cD_v, cR_v, cV_v, cI_x, cL_x, cR_x, cV_x, gz_0, gz_1, acc_enc, tI_sI, tL_sI, tR_sI, tN_sI, tZ_sI, tC_sI, tc_sI, tz_sI, tI_sL, tL_sL, tR_sL, tN_sL, tZ_sL, tC_sL, tc_sL, tz_sL, tI_sR, tL_sR, tR_sR, tN_sR, tZ_sR, tC_sR, tc_sR, tz_sR, tI_sZ, tL_sZ, tR_sZ, tN_sZ, tZ_sZ, tC_sZ, tc_sZ, tz_sZ, tI_sC, tL_sC, tR_sC, tN_sC, tZ_sC, tC_sC, tc_sC, tz_sC, tI_aC, tL_aC, tR_aC, tN_aC, tZ_aC, tC_aC, tc_aC, tz_aC, tI_rmL, tL_rmL, tR_rmL, tN_rmL, tZ_rmL, tC_rmL, tc_rmL, tz_rmL, tI_mk, tL_mk, tR_mk, tN_mk, tZ_mk, tC_mk, tc_mk, tz_mk, tI_pushL, tL_pushL, tR_pushL, tN_pushL, tZ_pushL, tC_pushL, tc_pushL, tz_pushL, tI_pushB, tL_pushB, tR_pushB, tN_pushB, tZ_pushB, tC_pushB, tc_pushB, tz_pushB, tI_cpL, tL_cpL, tR_cpL, tN_cpL, tZ_cpL, tC_cpL, tc_cpL, tz_cpL, eq_self, true_and, and_true, false_and, and_false, if_true, if_false, reduceIte, ite_true, ite_false, not_true_eq_false, not_false_eq_true, frN_97 hF, frR_97_2 hF, frR_97_3 hF, frN_93 hF, q8, q, f179, e8, o_s]
        exact hi z
      · by_cases eg : tI b 87 0 (10 * j) = 0 ∨ tI b 87 0 (10 * j) = 2
        · obtain ⟨e', hi⟩ := ih (j + 1) (e + 1) (by omega)
          have ep : bdP b j = false := decide_eq_false (fun w => w.2 eg)
          simp only [if_pos eg] at f287
          refine ⟨e', fun z => ?_⟩
          rw [lf_291_4, ep, Bool.false_or]
          simp (config := {decide := true}) only [gfI_enc, gfL_enc, gfR_enc, pfI_enc, pfL_enc, pfR_enc, Option.bind_some, cI_v, cL_v, cF_v, cD_v, cR_v, cV_v, cI_x, cL_x, cR_x, cV_x, gz_0, gz_1, acc_enc, tI_sI, tL_sI, tR_sI, tN_sI, tZ_sI, tC_sI, tc_sI, tz_sI, tI_sL, tL_sL, tR_sL, tN_sL, tZ_sL, tC_sL, tc_sL, tz_sL, tI_sR, tL_sR, tR_sR, tN_sR, tZ_sR, tC_sR, tc_sR, tz_sR, tI_sZ, tL_sZ, tR_sZ, tN_sZ, tZ_sZ, tC_sZ, tc_sZ, tz_sZ, tI_sC, tL_sC, tR_sC, tN_sC, tZ_sC, tC_sC, tc_sC, tz_sC, tI_aC, tL_aC, tR_aC, tN_aC, tZ_aC, tC_aC, tc_aC, tz_aC, tI_rmL, tL_rmL, tR_rmL, tN_rmL, tZ_rmL, tC_rmL, tc_rmL, tz_rmL, tI_mk, tL_mk, tR_mk, tN_mk, tZ_mk, tC_mk, tc_mk, tz_mk, tI_pushL, tL_pushL, tR_pushL, tN_pushL, tZ_pushL, tC_pushL, tc_pushL, tz_pushL, tI_pushB, tL_pushB, tR_pushB, tN_pushB, tZ_pushB, tC_pushB, tc_pushB, tz_pushB, tI_cpL, tL_cpL, tR_cpL, tN_cpL, tZ_cpL, tC_cpL, tc_cpL, tz_cpL, eq_self, true_and, and_true, false_and, and_false, if_true, if_false, reduceIte, ite_true, ite_false, not_true_eq_false, not_false_eq_true, frN_97 hF, frR_97_2 hF, frR_97_3 hF, frN_93 hF, q8, q, f179, e8, f287, n10, o_s]
          exact hi z
        · have ep : bdP b j = true := decide_eq_true ⟨e8, eg⟩
          simp only [if_neg eg] at f287
          refine ⟨e + 1, fun z => ?_⟩
          rw [lf_291_4, ep, Bool.true_or]
          simp (config := {decide := true}) only [gfI_enc, gfL_enc, gfR_enc, pfI_enc, pfL_enc, pfR_enc, Option.bind_some, cI_v, cL_v, cF_v, cD_v, cR_v, cV_v, cI_x, cL_x, cR_x, cV_x, gz_0, gz_1, acc_enc, tI_sI, tL_sI, tR_sI, tN_sI, tZ_sI, tC_sI, tc_sI, tz_sI, tI_sL, tL_sL, tR_sL, tN_sL, tZ_sL, tC_sL, tc_sL, tz_sL, tI_sR, tL_sR, tR_sR, tN_sR, tZ_sR, tC_sR, tc_sR, tz_sR, tI_sZ, tL_sZ, tR_sZ, tN_sZ, tZ_sZ, tC_sZ, tc_sZ, tz_sZ, tI_sC, tL_sC, tR_sC, tN_sC, tZ_sC, tC_sC, tc_sC, tz_sC, tI_aC, tL_aC, tR_aC, tN_aC, tZ_aC, tC_aC, tc_aC, tz_aC, tI_rmL, tL_rmL, tR_rmL, tN_rmL, tZ_rmL, tC_rmL, tc_rmL, tz_rmL, tI_mk, tL_mk, tR_mk, tN_mk, tZ_mk, tC_mk, tc_mk, tz_mk, tI_pushL, tL_pushL, tR_pushL, tN_pushL, tZ_pushL, tC_pushL, tc_pushL, tz_pushL, tI_pushB, tL_pushB, tR_pushB, tN_pushB, tZ_pushB, tC_pushB, tc_pushB, tz_pushB, tI_cpL, tL_cpL, tR_cpL, tN_cpL, tZ_cpL, tC_cpL, tc_cpL, tz_cpL, eq_self, true_and, and_true, false_and, and_false, if_true, if_false, reduceIte, ite_true, ite_false, not_true_eq_false, not_false_eq_true, frN_97 hF, frR_97_2 hF, frR_97_3 hF, frN_93 hF, q8, q, f179, e8, f287, n10, o_s]
          exact found k (j + 1) (e + 1) z (by omega)
  obtain ⟨e', he⟩ := loop (tZ a 29 0) 0 e (by omega)
  refine ⟨e', fun z => ?_⟩
  refine (X_in (by decide +kernel) (frN_97 (r_FR (stP_core h e).1.1)) rfl).trans ((lf_291_0 ..).trans ?_)
  exact he z
