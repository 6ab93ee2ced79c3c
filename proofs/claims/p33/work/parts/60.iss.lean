/-! ===== the issuer, small things ===== -/
theorem x16 {a : TS} {z : Hp} {k : Nat} (hF : FxC a) (h8 : tZ a 28 0 ≤ 8) (hk : k < tZ a 28 0) (hR : tR a 28 0 k = some (37, k)) (hN : k < tN a 37) : Ex 16 [aR (some (30, 0)), aI (Int32.ofNat k)] (enc 1 a z) = some (.inl (some (aR (some (37, k)))), enc 1 a z) := by
  have g1 : ¬ Int32.ofNat k < 0 := o_lt0 (by omega)
  have g2 : (Int32.ofNat k).toNatClampNeg = k := o_ix (by omega)
  have g3 : ¬ Int32.ofNat (tZ a 28 0) ≤ Int32.ofNat k := by rw [o_le (by omega) (by omega)]; omega
  refine (X_in (by decide +kernel) (fcN_30 hF) rfl).trans ((lf_16_0 ..).trans ?_)
  simp (config := {decide := true}) only [gfI_enc, gfL_enc, gfR_enc, pfI_enc, pfL_enc, pfR_enc, Option.bind_some, cI_v, cL_v, cF_v, cD_v, cR_v, cV_v, cI_x, cL_x, cR_x, cV_x, gz_0, gz_1, acc_enc, tI_sI, tL_sI, tR_sI, tN_sI, tZ_sI, tC_sI, tc_sI, tz_sI, tI_sL, tL_sL, tR_sL, tN_sL, tZ_sL, tC_sL, tc_sL, tz_sL, tI_sR, tL_sR, tR_sR, tN_sR, tZ_sR, tC_sR, tc_sR, tz_sR, tI_sZ, tL_sZ, tR_sZ, tN_sZ, tZ_sZ, tC_sZ, tc_sZ, tz_sZ, tI_sC, tL_sC, tR_sC, tN_sC, tZ_sC, tC_sC, tc_sC, tz_sC, tI_aC, tL_aC, tR_aC, tN_aC, tZ_aC, tC_aC, tc_aC, tz_aC, tI_rmL, tL_rmL, tR_rmL, tN_rmL, tZ_rmL, tC_rmL, tc_rmL, tz_rmL, tI_mk, tL_mk, tR_mk, tN_mk, tZ_mk, tC_mk, tc_mk, tz_mk, tI_pushL, tL_pushL, tR_pushL, tN_pushL, tZ_pushL, tC_pushL, tc_pushL, tz_pushL, tI_pushB, tL_pushB, tR_pushB, tN_pushB, tZ_pushB, tC_pushB, tc_pushB, tz_pushB, tI_cpL, tL_cpL, tR_cpL, tN_cpL, tZ_cpL, tC_cpL, tc_cpL, tz_cpL, eq_self, true_and, and_true, false_and, and_false, if_true, if_false, reduceIte, ite_true, ite_false, not_true_eq_false, not_false_eq_true, fcN_30 hF, fcN_28 hF, fcR_30_0 hF, X405, X402, g1, g2, g3, hk, hR, hN]
theorem x14 {a : TS} {z : Hp} {n : Nat} (hF : FxC a) (hn : n < 1000) : Ex 14 [aR (some (30, 0)), aI (Int32.ofNat n)] (enc 1 a z) = some (.inl (some (aR (tR a 3 0 n))), enc 1 a z) := by
  have g1 : ¬ Int32.ofNat n < 0 := o_lt0 (by omega)
  have g2 : (Int32.ofNat n).toNatClampNeg = n := o_ix (by omega)
  have g3 : ¬ Int32.ofNat 1000 ≤ Int32.ofNat n := by rw [o_le (by omega) (by omega)]; omega
  refine (X_in (by decide +kernel) (fcN_30 hF) rfl).trans ((lf_14_0 ..).trans ?_)
  simp (config := {decide := true}) only [gfI_enc, gfL_enc, gfR_enc, pfI_enc, pfL_enc, pfR_enc, Option.bind_some, cI_v, cL_v, cF_v, cD_v, cR_v, cV_v, cI_x, cL_x, cR_x, cV_x, gz_0, gz_1, acc_enc, tI_sI, tL_sI, tR_sI, tN_sI, tZ_sI, tC_sI, tc_sI, tz_sI, tI_sL, tL_sL, tR_sL, tN_sL, tZ_sL, tC_sL, tc_sL, tz_sL, tI_sR, tL_sR, tR_sR, tN_sR, tZ_sR, tC_sR, tc_sR, tz_sR, tI_sZ, tL_sZ, tR_sZ, tN_sZ, tZ_sZ, tC_sZ, tc_sZ, tz_sZ, tI_sC, tL_sC, tR_sC, tN_sC, tZ_sC, tC_sC, tc_sC, tz_sC, tI_aC, tL_aC, tR_aC, tN_aC, tZ_aC, tC_aC, tc_aC, tz_aC, tI_rmL, tL_rmL, tR_rmL, tN_rmL, tZ_rmL, tC_rmL, tc_rmL, tz_rmL, tI_mk, tL_mk, tR_mk, tN_mk, tZ_mk, tC_mk, tc_mk, tz_mk, tI_pushL, tL_pushL, tR_pushL, tN_pushL, tZ_pushL, tC_pushL, tc_pushL, tz_pushL, tI_pushB, tL_pushB, tR_pushB, tN_pushB, tZ_pushB, tC_pushB, tc_pushB, tz_pushB, tI_cpL, tL_cpL, tR_cpL, tN_cpL, tZ_cpL, tC_cpL, tc_cpL, tz_cpL, eq_self, true_and, and_true, false_and, and_false, if_true, if_false, reduceIte, ite_true, ite_false, not_true_eq_false, not_false_eq_true, fcN_30 hF, fcN_3 hF, fcR_30_2 hF, fcZ_3 hF, len_enc, gaR_enc, g1, g2, g3, hn]
theorem y159 {b : TS} {z : Hp} {k n : Nat} (hF : FxR b) (hn : tI b 93 0 6 = Int32.ofNat n) (h8 : n ≤ 8) (hk : k < n) : Ex 159 [aR (some (94, 0)), aI (Int32.ofNat k)] (enc 2 b z) = some (.inl (some (aI 1)), enc 2 b z) := by
  have g1 : ¬ Int32.ofNat k < 0 := o_lt0 (by omega)
  have g3 : ¬ Int32.ofNat n ≤ Int32.ofNat k := by rw [o_le (by omega) (by omega)]; omega
  refine (X_in (by decide +kernel) (frN_94 hF) rfl).trans ((lf_159_0 ..).trans ?_)
  simp (config := {decide := true}) only [gfI_enc, gfL_enc, gfR_enc, pfI_enc, pfL_enc, pfR_enc, Option.bind_some, cI_v, cL_v, cF_v, cD_v, cR_v, cV_v, cI_x, cL_x, cR_x, cV_x, gz_0, gz_1, acc_enc, tI_sI, tL_sI, tR_sI, tN_sI, tZ_sI, tC_sI, tc_sI, tz_sI, tI_sL, tL_sL, tR_sL, tN_sL, tZ_sL, tC_sL, tc_sL, tz_sL, tI_sR, tL_sR, tR_sR, tN_sR, tZ_sR, tC_sR, tc_sR, tz_sR, tI_sZ, tL_sZ, tR_sZ, tN_sZ, tZ_sZ, tC_sZ, tc_sZ, tz_sZ, tI_sC, tL_sC, tR_sC, tN_sC, tZ_sC, tC_sC, tc_sC, tz_sC, tI_aC, tL_aC, tR_aC, tN_aC, tZ_aC, tC_aC, tc_aC, tz_aC, tI_rmL, tL_rmL, tR_rmL, tN_rmL, tZ_rmL, tC_rmL, tc_rmL, tz_rmL, tI_mk, tL_mk, tR_mk, tN_mk, tZ_mk, tC_mk, tc_mk, tz_mk, tI_pushL, tL_pushL, tR_pushL, tN_pushL, tZ_pushL, tC_pushL, tc_pushL, tz_pushL, tI_pushB, tL_pushB, tR_pushB, tN_pushB, tZ_pushB, tC_pushB, tc_pushB, tz_pushB, tI_cpL, tL_cpL, tR_cpL, tN_cpL, tZ_cpL, tC_cpL, tc_cpL, tz_cpL, eq_self, true_and, and_true, false_and, and_false, if_true, if_false, reduceIte, ite_true, ite_false, not_true_eq_false, not_false_eq_true, frN_94 hF, frN_93 hF, frR_94_0 hF, hn, g1, g3]
/-! the counters that were heard -/
def srch (b : TS) (cd c : Int32) : Nat → Nat → Int32
  | _, 0 => -1
  | k, d + 1 => if tI b 54 0 k = cd then (if tI b 55 0 k = c then Int32.ofNat k else srch b cd c (k + 1) d) else srch b cd c (k + 1) d
theorem srch_spec (b : TS) (cd c : Int32) : ∀ d k, (srch b cd c k d = -1 ∧ ∀ j, k ≤ j → j < k + d → ¬ (tI b 54 0 j = cd ∧ tI b 55 0 j = c)) ∨ ∃ j, k ≤ j ∧ j < k + d ∧ tI b 54 0 j = cd ∧ tI b 55 0 j = c ∧ srch b cd c k d = Int32.ofNat j := by
  intro d
  induction d with
  | zero => exact fun k => Or.inl ⟨rfl, fun j h1 h2 => by omega⟩
  | succ d ih =>
    intro k
    unfold srch
    by_cases h1 : tI b 54 0 k = cd
    · by_cases h2 : tI b 55 0 k = c
      · rw [if_pos h1, if_pos h2]
        exact Or.inr ⟨k, Nat.le_refl _, by omega, h1, h2, rfl⟩
      · rw [if_pos h1, if_neg h2]
        rcases ih (k + 1) with ⟨a1, a2⟩ | ⟨j, j1, j2, j3⟩
        · refine Or.inl ⟨a1, fun j h3 h4 h5 => ?_⟩
          by_cases e : j = k
          · rw [e] at h5; exact h2 h5.2
          · exact a2 j (by omega) (by omega) h5
        · exact Or.inr ⟨j, by omega, by omega, j3⟩
    · rw [if_neg h1]
      rcases ih (k + 1) with ⟨a1, a2⟩ | ⟨j, j1, j2, j3⟩
      · refine Or.inl ⟨a1, fun j h3 h4 h5 => ?_⟩
        by_cases e : j = k
        · rw [e] at h5; exact h1 h5.1
        · exact a2 j (by omega) (by omega) h5
      · exact Or.inr ⟨j, by omega, by omega, j3⟩
theorem y161 {b : TS} {z : Hp} {H : Nat} (cd c : Int32) (hF : FxR b) (hH : tI b 94 0 6 = Int32.ofNat H) (h2 : H ≤ 200) : Ex 161 [aR (some (94, 0)), aI cd, aI c] (enc 2 b z) = some (.inl (some (aI (srch b cd c 0 H))), enc 2 b z) := by
  have key : ∀ d k, k + d = H → Ru 161 2 [(0, aR (some (94, 0))), (1, aI cd), (2, aI c), (3, aI (Int32.ofNat k))] [] (enc 2 b z) = some (.inl (some (aI (srch b cd c k d))), enc 2 b z) := by
    intro d
    induction d with
    | zero =>
      intro k hk
      have g : Int32.ofNat H ≤ Int32.ofNat k := by rw [o_le (by omega) (by omega)]; omega
      rw [lf_161_2]
      simp (config := {decide := true}) only [gfI_enc, gfL_enc, gfR_enc, pfI_enc, pfL_enc, pfR_enc, Option.bind_some, cI_v, cL_v, cF_v, cD_v, cR_v, cV_v, cI_x, cL_x, cR_x, cV_x, gz_0, gz_1, acc_enc, tI_sI, tL_sI, tR_sI, tN_sI, tZ_sI, tC_sI, tc_sI, tz_sI, tI_sL, tL_sL, tR_sL, tN_sL, tZ_sL, tC_sL, tc_sL, tz_sL, tI_sR, tL_sR, tR_sR, tN_sR, tZ_sR, tC_sR, tc_sR, tz_sR, tI_sZ, tL_sZ, tR_sZ, tN_sZ, tZ_sZ, tC_sZ, tc_sZ, tz_sZ, tI_sC, tL_sC, tR_sC, tN_sC, tZ_sC, tC_sC, tc_sC, tz_sC, tI_aC, tL_aC, tR_aC, tN_aC, tZ_aC, tC_aC, tc_aC, tz_aC, tI_rmL, tL_rmL, tR_rmL, tN_rmL, tZ_rmL, tC_rmL, tc_rmL, tz_rmL, tI_mk, tL_mk, tR_mk, tN_mk, tZ_mk, tC_mk, tc_mk, tz_mk, tI_pushL, tL_pushL, tR_pushL, tN_pushL, tZ_pushL, tC_pushL, tc_pushL, tz_pushL, tI_pushB, tL_pushB, tR_pushB, tN_pushB, tZ_pushB, tC_pushB, tc_pushB, tz_pushB, tI_cpL, tL_cpL, tR_cpL, tN_cpL, tZ_cpL, tC_cpL, tc_cpL, tz_cpL, eq_self, true_and, and_true, false_and, and_false, if_true, if_false, reduceIte, ite_true, ite_false, not_true_eq_false, not_false_eq_true, frN_94 hF, hH, g]
      rfl
    | succ d ih =>
      intro k hk
      have g : ¬ Int32.ofNat H ≤ Int32.ofNat k := by rw [o_le (by omega) (by omega)]; omega
      have g1 : ¬ Int32.ofNat k < 0 := o_lt0 (by omega)
      have g2 : (Int32.ofNat k).toNatClampNeg = k := o_ix (by omega)
      have g4 : k < 200 := by omega
      have i2 := ih (k + 1) (by omega)
      rw [lf_161_2]
      unfold srch
      by_cases e1 : tI b 54 0 k = cd <;> by_cases e2 : tI b 55 0 k = c <;> simp (config := {decide := true}) only [gfI_enc, gfL_enc, gfR_enc, pfI_enc, pfL_enc, pfR_enc, Option.bind_some, cI_v, cL_v, cF_v, cD_v, cR_v, cV_v, cI_x, cL_x, cR_x, cV_x, gz_0, gz_1, acc_enc, tI_sI, tL_sI, tR_sI, tN_sI, tZ_sI, tC_sI, tc_sI, tz_sI, tI_sL, tL_sL, tR_sL, tN_sL, tZ_sL, tC_sL, tc_sL, tz_sL, tI_sR, tL_sR, tR_sR, tN_sR, tZ_sR, tC_sR, tc_sR, tz_sR, tI_sZ, tL_sZ, tR_sZ, tN_sZ, tZ_sZ, tC_sZ, tc_sZ, tz_sZ, tI_sC, tL_sC, tR_sC, tN_sC, tZ_sC, tC_sC, tc_sC, tz_sC, tI_aC, tL_aC, tR_aC, tN_aC, tZ_aC, tC_aC, tc_aC, tz_aC, tI_rmL, tL_rmL, tR_rmL, tN_rmL, tZ_rmL, tC_rmL, tc_rmL, tz_rmL, tI_mk, tL_mk, tR_mk, tN_mk, tZ_mk, tC_mk, tc_mk, tz_mk, tI_pushL, tL_pushL, tR_pushL, tN_pushL, tZ_pushL, tC_pushL, tc_pushL, tz_pushL, tI_pushB, tL_pushB, tR_pushB, tN_pushB, tZ_pushB, tC_pushB, tc_pushB, tz_pushB, tI_cpL, tL_cpL, tR_cpL, tN_cpL, tZ_cpL, tC_cpL, tc_cpL, tz_cpL, eq_self, true_and, and_true, false_and, and_false, if_true, if_false, reduceIte, ite_true, ite_false, not_true_eq_false, not_false_eq_true, frN_94 hF, hH, g, gaI_enc, frN_54 hF, frN_55 hF, frR_94_3 hF, frR_94_4 hF, frZ_54 hF, frZ_55 hF, g1, g2, g4, e1, e2, o_s, i2]
  exact (X_in (by decide +kernel) (frN_94 hF) rfl).trans ((lf_161_0 ..).trans (key H 0 (by omega)))
/-- was the counter heard of another number -/
def oth (a : TS) (cd c : Nat) (n : Int32) : Int32 := if tI a 1 cd c = 0 then 0 else if tI a 1 cd c = n + 1 then 0 else 1
theorem RG_srch {a b : TS} {cd c : Nat} (hG : RG a b) (hcd : cd < tZ a 28 0) (h8 : tZ a 28 0 ≤ 8) (hc : c < 201) (hP : tZ a 29 0 ≤ 200) : ∃ H, H ≤ 200 ∧ tI b 94 0 6 = Int32.ofNat H ∧
    ((tI a 1 cd c = 0 ∧ srch b (Int32.ofNat cd) (Int32.ofNat c) 0 H = -1) ∨ ∃ j p, j < H ∧ p < tZ a 29 0 ∧ srch b (Int32.ofNat cd) (Int32.ofNat c) 0 H = Int32.ofNat j ∧ tI b 56 0 j = Int32.ofNat p ∧ tI a 1 cd c = Int32.ofNat (p + 1)) := by
  obtain ⟨H, h1, h2, h3, h4, -⟩ := hG
  refine ⟨H, h1, h2, ?_⟩
  rcases srch_spec b (Int32.ofNat cd) (Int32.ofNat c) H 0 with ⟨a1, a2⟩ | ⟨j, -, j2, j3, j4, j5⟩
  · refine Or.inl ⟨?_, a1⟩
    by_cases e : tI a 1 cd c = 0
    · exact e
    · obtain ⟨k, k1, k2, k3⟩ := h4 cd c hcd hc e
      exact absurd ⟨k2, k3⟩ (a2 k (Nat.zero_le _) (by omega))
  · obtain ⟨cd', c', p, p1, p2, p3, p4, p5, p6, p7, -⟩ := h3 j (by omega)
    have e1 : cd' = cd := o_inj (by omega) (by omega) (p4.symm.trans j3)
    have e2 : c' = c := o_inj (by omega) (by omega) (p5.symm.trans j4)
    subst e1 e2
    exact Or.inr ⟨j, p, by omega, p3, j5, p6, p7⟩
theorem o_m1 {n : Nat} (h : n < 2 ^ 31) : Int32.ofNat n ≠ -1 := fun e => by
  have := congrArg Int32.toInt e
  rw [Int32.toInt_ofNat_of_lt h] at this
  have h2 : (-1 : Int32).toInt = -1 := by decide
  omega
theorem y162 {a b : TS} {z : Hp} {cd c n : Nat} (hF : FxR b) (hG : RG a b) (hcd : cd < tZ a 28 0) (h8 : tZ a 28 0 ≤ 8) (hc : c < 201) (hP : tZ a 29 0 ≤ 200) (hn : n < 1000) : Ex 162 [aR (some (94, 0)), aI (Int32.ofNat cd), aI (Int32.ofNat c), aI (Int32.ofNat n)] (enc 2 b z) = some (.inl (some (aI (oth a cd c (Int32.ofNat n)))), enc 2 b z) := by
  obtain ⟨H, h1, h2, h3⟩ := RG_srch hG hcd h8 hc hP
  refine (X_in (by decide +kernel) (frN_94 hF) rfl).trans ((lf_162_0 ..).trans ?_)
  rw [y161 _ _ hF h2 h1]
  unfold oth
  rcases h3 with ⟨e1, e2⟩ | ⟨j, p, j1, j2, j3, j4, j5⟩
  · simp (config := {decide := true}) only [gfI_enc, gfL_enc, gfR_enc, pfI_enc, pfL_enc, pfR_enc, Option.bind_some, cI_v, cL_v, cF_v, cD_v, cR_v, cV_v, cI_x, cL_x, cR_x, cV_x, gz_0, gz_1, acc_enc, tI_sI, tL_sI, tR_sI, tN_sI, tZ_sI, tC_sI, tc_sI, tz_sI, tI_sL, tL_sL, tR_sL, tN_sL, tZ_sL, tC_sL, tc_sL, tz_sL, tI_sR, tL_sR, tR_sR, tN_sR, tZ_sR, tC_sR, tc_sR, tz_sR, tI_sZ, tL_sZ, tR_sZ, tN_sZ, tZ_sZ, tC_sZ, tc_sZ, tz_sZ, tI_sC, tL_sC, tR_sC, tN_sC, tZ_sC, tC_sC, tc_sC, tz_sC, tI_aC, tL_aC, tR_aC, tN_aC, tZ_aC, tC_aC, tc_aC, tz_aC, tI_rmL, tL_rmL, tR_rmL, tN_rmL, tZ_rmL, tC_rmL, tc_rmL, tz_rmL, tI_mk, tL_mk, tR_mk, tN_mk, tZ_mk, tC_mk, tc_mk, tz_mk, tI_pushL, tL_pushL, tR_pushL, tN_pushL, tZ_pushL, tC_pushL, tc_pushL, tz_pushL, tI_pushB, tL_pushB, tR_pushB, tN_pushB, tZ_pushB, tC_pushB, tc_pushB, tz_pushB, tI_cpL, tL_cpL, tR_cpL, tN_cpL, tZ_cpL, tC_cpL, tc_cpL, tz_cpL, eq_self, true_and, and_true, false_and, and_false, if_true, if_false, reduceIte, ite_true, ite_false, not_true_eq_false, not_false_eq_true, e1, e2]
  · have g1 : ¬ Int32.ofNat j < 0 := o_lt0 (by omega)
    have g2 : (Int32.ofNat j).toNatClampNeg = j := o_ix (by omega)
    have g4 : j < 200 := by omega
    have g5 := o_m1 (n := j) (by omega)
    have g6 : ¬ Int32.ofNat (p + 1) = 0 := fun e => by have := o_inj (n := p + 1) (k := 0) (by omega) (by omega) e; omega
    by_cases e : p = n
    · subst e
      simp (config := {decide := true}) only [gfI_enc, gfL_enc, gfR_enc, pfI_enc, pfL_enc, pfR_enc, Option.bind_some, cI_v, cL_v, cF_v, cD_v, cR_v, cV_v, cI_x, cL_x, cR_x, cV_x, gz_0, gz_1, acc_enc, tI_sI, tL_sI, tR_sI, tN_sI, tZ_sI, tC_sI, tc_sI, tz_sI, tI_sL, tL_sL, tR_sL, tN_sL, tZ_sL, tC_sL, tc_sL, tz_sL, tI_sR, tL_sR, tR_sR, tN_sR, tZ_sR, tC_sR, tc_sR, tz_sR, tI_sZ, tL_sZ, tR_sZ, tN_sZ, tZ_sZ, tC_sZ, tc_sZ, tz_sZ, tI_sC, tL_sC, tR_sC, tN_sC, tZ_sC, tC_sC, tc_sC, tz_sC, tI_aC, tL_aC, tR_aC, tN_aC, tZ_aC, tC_aC, tc_aC, tz_aC, tI_rmL, tL_rmL, tR_rmL, tN_rmL, tZ_rmL, tC_rmL, tc_rmL, tz_rmL, tI_mk, tL_mk, tR_mk, tN_mk, tZ_mk, tC_mk, tc_mk, tz_mk, tI_pushL, tL_pushL, tR_pushL, tN_pushL, tZ_pushL, tC_pushL, tc_pushL, tz_pushL, tI_pushB, tL_pushB, tR_pushB, tN_pushB, tZ_pushB, tC_pushB, tc_pushB, tz_pushB, tI_cpL, tL_cpL, tR_cpL, tN_cpL, tZ_cpL, tC_cpL, tc_cpL, tz_cpL, eq_self, true_and, and_true, false_and, and_false, if_true, if_false, reduceIte, ite_true, ite_false, not_true_eq_false, not_false_eq_true, j3, j4, j5, g1, g2, g4, g5, g6, frN_94 hF, frN_56 hF, frR_94_5 hF, frZ_56 hF, gaI_enc, o_s]
    · have g7 : ¬ Int32.ofNat p = Int32.ofNat n := fun q => e (o_inj (by omega) (by omega) q)
      have g8 : ¬ Int32.ofNat (p + 1) = Int32.ofNat (n + 1) := fun q => e (by have := o_inj (n := p + 1) (k := n + 1) (by omega) (by omega) q; omega)
      simp (config := {decide := true}) only [gfI_enc, gfL_enc, gfR_enc, pfI_enc, pfL_enc, pfR_enc, Option.bind_some, cI_v, cL_v, cF_v, cD_v, cR_v, cV_v, cI_x, cL_x, cR_x, cV_x, gz_0, gz_1, acc_enc, tI_sI, tL_sI, tR_sI, tN_sI, tZ_sI, tC_sI, tc_sI, tz_sI, tI_sL, tL_sL, tR_sL, tN_sL, tZ_sL, tC_sL, tc_sL, tz_sL, tI_sR, tL_sR, tR_sR, tN_sR, tZ_sR, tC_sR, tc_sR, tz_sR, tI_sZ, tL_sZ, tR_sZ, tN_sZ, tZ_sZ, tC_sZ, tc_sZ, tz_sZ, tI_sC, tL_sC, tR_sC, tN_sC, tZ_sC, tC_sC, tc_sC, tz_sC, tI_aC, tL_aC, tR_aC, tN_aC, tZ_aC, tC_aC, tc_aC, tz_aC, tI_rmL, tL_rmL, tR_rmL, tN_rmL, tZ_rmL, tC_rmL, tc_rmL, tz_rmL, tI_mk, tL_mk, tR_mk, tN_mk, tZ_mk, tC_mk, tc_mk, tz_mk, tI_pushL, tL_pushL, tR_pushL, tN_pushL, tZ_pushL, tC_pushL, tc_pushL, tz_pushL, tI_pushB, tL_pushB, tR_pushB, tN_pushB, tZ_pushB, tC_pushB, tc_pushB, tz_pushB, tI_cpL, tL_cpL, tR_cpL, tN_cpL, tZ_cpL, tC_cpL, tc_cpL, tz_cpL, eq_self, true_and, and_true, false_and, and_false, if_true, if_false, reduceIte, ite_true, ite_false, not_true_eq_false, not_false_eq_true, j3, j4, j5, g1, g2, g4, g5, g6, g7, g8, frN_94 hF, frN_56 hF, frR_94_5 hF, frZ_56 hF, gaI_enc, o_s]
