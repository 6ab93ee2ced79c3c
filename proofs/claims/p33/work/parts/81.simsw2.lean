/-! ===== standing in, both ===== -/
theorem ml_eq (b : TS) (p w : Int32) : (∀ s x k, ¬ s = 81 → tI (ml1 (ml0 b p) (tN b 81) w) s x k = tI b s x k) ∧ (∀ s x k, ¬ s = 81 → tR (ml1 (ml0 b p) (tN b 81) w) s x k = tR b s x k) ∧ (∀ s, ¬ s = 81 → tN (ml1 (ml0 b p) (tN b 81) w) s = tN b s) ∧ tN (ml1 (ml0 b p) (tN b 81) w) 81 = tN b 81 + 1 ∧ (∀ x k, x < tN b 81 → tI (ml1 (ml0 b p) (tN b 81) w) 81 x k = tI b 81 x k) ∧
    chF [81] [] b (ml1 (ml0 b p) (tN b 81) w) ∧ Wr b (ml1 (ml0 b p) (tN b 81) w) ∧ (tI (ml1 (ml0 b p) (tN b 81) w) 81 (tN b 81) 0 = 4 ∧ tI (ml1 (ml0 b p) (tN b 81) w) 81 (tN b 81) 1 = p ∧ tI (ml1 (ml0 b p) (tN b 81) w) 81 (tN b 81) 7 = 0 ∧ tI (ml1 (ml0 b p) (tN b 81) w) 81 (tN b 81) 13 = 0 ∧ tI (ml1 (ml0 b p) (tN b 81) w) 81 (tN b 81) 12 = 0 ∧ tI (ml1 (ml0 b p) (tN b 81) w) 81 (tN b 81) 11 = w ∧ tI (ml1 (ml0 b p) (tN b 81) w) 81 (tN b 81) 9 = (if w = 0 then 8 else 0) ∧ tI (ml1 (ml0 b p) (tN b 81) w) 81 (tN b 81) 5 = 0 ∧ tI (ml1 (ml0 b p) (tN b 81) w) 81 (tN b 81) 10 = 0) := by
  refine ⟨fun s x k h => ?_, fun s x k h => ?_, fun s h => ?_, ?_, fun x k h => ?_, ?_, ?_, ?_⟩
  · unfold ml1 ml0; simp (config := {decide := true}) only [gfI_enc, gfL_enc, gfR_enc, pfI_enc, pfL_enc, pfR_enc, Option.bind_some, cI_v, cL_v, cF_v, cD_v, cR_v, cV_v, cI_x, cL_x, cR_x, cV_x, gz_0, gz_1, acc_enc, tI_sI, tL_sI, tR_sI, tN_sI, tZ_sI, tC_sI, tc_sI, tz_sI, tI_sL, tL_sL, tR_sL, tN_sL, tZ_sL, tC_sL, tc_sL, tz_sL, tI_sR, tL_sR, tR_sR, tN_sR, tZ_sR, tC_sR, tc_sR, tz_sR, tI_sZ, tL_sZ, tR_sZ, tN_sZ, tZ_sZ, tC_sZ, tc_sZ, tz_sZ, tI_sC, tL_sC, tR_sC, tN_sC, tZ_sC, tC_sC, tc_sC, tz_sC, tI_aC, tL_aC, tR_aC, tN_aC, tZ_aC, tC_aC, tc_aC, tz_aC, tI_rmL, tL_rmL, tR_rmL, tN_rmL, tZ_rmL, tC_rmL, tc_rmL, tz_rmL, tI_mk, tL_mk, tR_mk, tN_mk, tZ_mk, tC_mk, tc_mk, tz_mk, tI_pushL, tL_pushL, tR_pushL, tN_pushL, tZ_pushL, tC_pushL, tc_pushL, tz_pushL, tI_pushB, tL_pushB, tR_pushB, tN_pushB, tZ_pushB, tC_pushB, tc_pushB, tz_pushB, tI_cpL, tL_cpL, tR_cpL, tN_cpL, tZ_cpL, tC_cpL, tc_cpL, tz_cpL, eq_self, true_and, and_true, false_and, and_false, if_true, if_false, reduceIte, ite_true, ite_false, not_true_eq_false, not_false_eq_true, h]
  · unfold ml1 ml0; simp (config := {decide := true}) only [gfI_enc, gfL_enc, gfR_enc, pfI_enc, pfL_enc, pfR_enc, Option.bind_some, cI_v, cL_v, cF_v, cD_v, cR_v, cV_v, cI_x, cL_x, cR_x, cV_x, gz_0, gz_1, acc_enc, tI_sI, tL_sI, tR_sI, tN_sI, tZ_sI, tC_sI, tc_sI, tz_sI, tI_sL, tL_sL, tR_sL, tN_sL, tZ_sL, tC_sL, tc_sL, tz_sL, tI_sR, tL_sR, tR_sR, tN_sR, tZ_sR, tC_sR, tc_sR, tz_sR, tI_sZ, tL_sZ, tR_sZ, tN_sZ, tZ_sZ, tC_sZ, tc_sZ, tz_sZ, tI_sC, tL_sC, tR_sC, tN_sC, tZ_sC, tC_sC, tc_sC, tz_sC, tI_aC, tL_aC, tR_aC, tN_aC, tZ_aC, tC_aC, tc_aC, tz_aC, tI_rmL, tL_rmL, tR_rmL, tN_rmL, tZ_rmL, tC_rmL, tc_rmL, tz_rmL, tI_mk, tL_mk, tR_mk, tN_mk, tZ_mk, tC_mk, tc_mk, tz_mk, tI_pushL, tL_pushL, tR_pushL, tN_pushL, tZ_pushL, tC_pushL, tc_pushL, tz_pushL, tI_pushB, tL_pushB, tR_pushB, tN_pushB, tZ_pushB, tC_pushB, tc_pushB, tz_pushB, tI_cpL, tL_cpL, tR_cpL, tN_cpL, tZ_cpL, tC_cpL, tc_cpL, tz_cpL, eq_self, true_and, and_true, false_and, and_false, if_true, if_false, reduceIte, ite_true, ite_false, not_true_eq_false, not_false_eq_true, h]
  · unfold ml1 ml0; simp (config := {decide := true}) only [gfI_enc, gfL_enc, gfR_enc, pfI_enc, pfL_enc, pfR_enc, Option.bind_some, cI_v, cL_v, cF_v, cD_v, cR_v, cV_v, cI_x, cL_x, cR_x, cV_x, gz_0, gz_1, acc_enc, tI_sI, tL_sI, tR_sI, tN_sI, tZ_sI, tC_sI, tc_sI, tz_sI, tI_sL, tL_sL, tR_sL, tN_sL, tZ_sL, tC_sL, tc_sL, tz_sL, tI_sR, tL_sR, tR_sR, tN_sR, tZ_sR, tC_sR, tc_sR, tz_sR, tI_sZ, tL_sZ, tR_sZ, tN_sZ, tZ_sZ, tC_sZ, tc_sZ, tz_sZ, tI_sC, tL_sC, tR_sC, tN_sC, tZ_sC, tC_sC, tc_sC, tz_sC, tI_aC, tL_aC, tR_aC, tN_aC, tZ_aC, tC_aC, tc_aC, tz_aC, tI_rmL, tL_rmL, tR_rmL, tN_rmL, tZ_rmL, tC_rmL, tc_rmL, tz_rmL, tI_mk, tL_mk, tR_mk, tN_mk, tZ_mk, tC_mk, tc_mk, tz_mk, tI_pushL, tL_pushL, tR_pushL, tN_pushL, tZ_pushL, tC_pushL, tc_pushL, tz_pushL, tI_pushB, tL_pushB, tR_pushB, tN_pushB, tZ_pushB, tC_pushB, tc_pushB, tz_pushB, tI_cpL, tL_cpL, tR_cpL, tN_cpL, tZ_cpL, tC_cpL, tc_cpL, tz_cpL, eq_self, true_and, and_true, false_and, and_false, if_true, if_false, reduceIte, ite_true, ite_false, not_true_eq_false, not_false_eq_true, h]
  · unfold ml1 ml0; simp (config := {decide := true}) only [gfI_enc, gfL_enc, gfR_enc, pfI_enc, pfL_enc, pfR_enc, Option.bind_some, cI_v, cL_v, cF_v, cD_v, cR_v, cV_v, cI_x, cL_x, cR_x, cV_x, gz_0, gz_1, acc_enc, tI_sI, tL_sI, tR_sI, tN_sI, tZ_sI, tC_sI, tc_sI, tz_sI, tI_sL, tL_sL, tR_sL, tN_sL, tZ_sL, tC_sL, tc_sL, tz_sL, tI_sR, tL_sR, tR_sR, tN_sR, tZ_sR, tC_sR, tc_sR, tz_sR, tI_sZ, tL_sZ, tR_sZ, tN_sZ, tZ_sZ, tC_sZ, tc_sZ, tz_sZ, tI_sC, tL_sC, tR_sC, tN_sC, tZ_sC, tC_sC, tc_sC, tz_sC, tI_aC, tL_aC, tR_aC, tN_aC, tZ_aC, tC_aC, tc_aC, tz_aC, tI_rmL, tL_rmL, tR_rmL, tN_rmL, tZ_rmL, tC_rmL, tc_rmL, tz_rmL, tI_mk, tL_mk, tR_mk, tN_mk, tZ_mk, tC_mk, tc_mk, tz_mk, tI_pushL, tL_pushL, tR_pushL, tN_pushL, tZ_pushL, tC_pushL, tc_pushL, tz_pushL, tI_pushB, tL_pushB, tR_pushB, tN_pushB, tZ_pushB, tC_pushB, tc_pushB, tz_pushB, tI_cpL, tL_cpL, tR_cpL, tN_cpL, tZ_cpL, tC_cpL, tc_cpL, tz_cpL, eq_self, true_and, and_true, false_and, and_false, if_true, if_false, reduceIte, ite_true, ite_false, not_true_eq_false, not_false_eq_true]
  · have h : ¬ x = tN b 81 := by omega
    unfold ml1 ml0; simp (config := {decide := true}) only [gfI_enc, gfL_enc, gfR_enc, pfI_enc, pfL_enc, pfR_enc, Option.bind_some, cI_v, cL_v, cF_v, cD_v, cR_v, cV_v, cI_x, cL_x, cR_x, cV_x, gz_0, gz_1, acc_enc, tI_sI, tL_sI, tR_sI, tN_sI, tZ_sI, tC_sI, tc_sI, tz_sI, tI_sL, tL_sL, tR_sL, tN_sL, tZ_sL, tC_sL, tc_sL, tz_sL, tI_sR, tL_sR, tR_sR, tN_sR, tZ_sR, tC_sR, tc_sR, tz_sR, tI_sZ, tL_sZ, tR_sZ, tN_sZ, tZ_sZ, tC_sZ, tc_sZ, tz_sZ, tI_sC, tL_sC, tR_sC, tN_sC, tZ_sC, tC_sC, tc_sC, tz_sC, tI_aC, tL_aC, tR_aC, tN_aC, tZ_aC, tC_aC, tc_aC, tz_aC, tI_rmL, tL_rmL, tR_rmL, tN_rmL, tZ_rmL, tC_rmL, tc_rmL, tz_rmL, tI_mk, tL_mk, tR_mk, tN_mk, tZ_mk, tC_mk, tc_mk, tz_mk, tI_pushL, tL_pushL, tR_pushL, tN_pushL, tZ_pushL, tC_pushL, tc_pushL, tz_pushL, tI_pushB, tL_pushB, tR_pushB, tN_pushB, tZ_pushB, tC_pushB, tc_pushB, tz_pushB, tI_cpL, tL_cpL, tR_cpL, tN_cpL, tZ_cpL, tC_cpL, tc_cpL, tz_cpL, eq_self, true_and, and_true, false_and, and_false, if_true, if_false, reduceIte, ite_true, ite_false, not_true_eq_false, not_false_eq_true, h]
  · unfold ml1 ml0
    exact chF_I (by simp) (chF_I (by simp) (chF_I (by simp) (chF_I (by simp) (chF_mk (by simp) (chF_r _ _ _)))))
  · unfold ml1 ml0
    exact Wr.cI _ _ _ _ (Wr.cI _ _ _ _ (Wr.cI _ _ _ _ (Wr.cI _ _ _ _ (Wr.cM _ _ _ (by decide +kernel) (by decide) (Wr.rf _)))))
  · unfold ml1 ml0; simp (config := {decide := true}) only [gfI_enc, gfL_enc, gfR_enc, pfI_enc, pfL_enc, pfR_enc, Option.bind_some, cI_v, cL_v, cF_v, cD_v, cR_v, cV_v, cI_x, cL_x, cR_x, cV_x, gz_0, gz_1, acc_enc, tI_sI, tL_sI, tR_sI, tN_sI, tZ_sI, tC_sI, tc_sI, tz_sI, tI_sL, tL_sL, tR_sL, tN_sL, tZ_sL, tC_sL, tc_sL, tz_sL, tI_sR, tL_sR, tR_sR, tN_sR, tZ_sR, tC_sR, tc_sR, tz_sR, tI_sZ, tL_sZ, tR_sZ, tN_sZ, tZ_sZ, tC_sZ, tc_sZ, tz_sZ, tI_sC, tL_sC, tR_sC, tN_sC, tZ_sC, tC_sC, tc_sC, tz_sC, tI_aC, tL_aC, tR_aC, tN_aC, tZ_aC, tC_aC, tc_aC, tz_aC, tI_rmL, tL_rmL, tR_rmL, tN_rmL, tZ_rmL, tC_rmL, tc_rmL, tz_rmL, tI_mk, tL_mk, tR_mk, tN_mk, tZ_mk, tC_mk, tc_mk, tz_mk, tI_pushL, tL_pushL, tR_pushL, tN_pushL, tZ_pushL, tC_pushL, tc_pushL, tz_pushL, tI_pushB, tL_pushB, tR_pushB, tN_pushB, tZ_pushB, tC_pushB, tc_pushB, tz_pushB, tI_cpL, tL_cpL, tR_cpL, tN_cpL, tZ_cpL, tC_cpL, tc_cpL, tz_cpL, eq_self, true_and, and_true, false_and, and_false, if_true, if_false, reduceIte, ite_true, ite_false, not_true_eq_false, not_false_eq_true]
theorem ntB_eq (b : TS) (n cd sh : Nat) (q : Nat × Nat) : (∀ s x k, ¬ s = 72 → ¬ s = 73 → ¬ s = 95 → tI (ntB b n cd sh q) s x k = tI b s x k) ∧ (∀ s x k, ¬ s = 71 → tR (ntB b n cd sh q) s x k = tR b s x k) ∧ (∀ s, tN (ntB b n cd sh q) s = tN b s) ∧ (∀ k, tR (ntB b n cd sh q) 71 0 k = if k = n then some q else tR b 71 0 k) ∧ (∀ k, tI (ntB b n cd sh q) 72 0 k = if k = n then Int32.ofNat sh else tI b 72 0 k) ∧ (∀ k, tI (ntB b n cd sh q) 73 0 k = if k = cd then tI b 73 0 cd + 1 else tI b 73 0 k) ∧ (∀ k, tI (ntB b n cd sh q) 95 0 k = if k = 4 then Int32.ofNat (n + 1) else tI b 95 0 k) ∧
    chF [71, 72, 73] [(95, 4)] b (ntB b n cd sh q) ∧ Wr b (ntB b n cd sh q) := by
  refine ⟨fun s x k h1 h2 h3 => ?_, fun s x k h => ?_, fun s => ?_, fun k => ?_, fun k => ?_, fun k => ?_, fun k => ?_, ?_, ?_⟩
  · unfold ntB; simp (config := {decide := true}) only [gfI_enc, gfL_enc, gfR_enc, pfI_enc, pfL_enc, pfR_enc, Option.bind_some, cI_v, cL_v, cF_v, cD_v, cR_v, cV_v, cI_x, cL_x, cR_x, cV_x, gz_0, gz_1, acc_enc, tI_sI, tL_sI, tR_sI, tN_sI, tZ_sI, tC_sI, tc_sI, tz_sI, tI_sL, tL_sL, tR_sL, tN_sL, tZ_sL, tC_sL, tc_sL, tz_sL, tI_sR, tL_sR, tR_sR, tN_sR, tZ_sR, tC_sR, tc_sR, tz_sR, tI_sZ, tL_sZ, tR_sZ, tN_sZ, tZ_sZ, tC_sZ, tc_sZ, tz_sZ, tI_sC, tL_sC, tR_sC, tN_sC, tZ_sC, tC_sC, tc_sC, tz_sC, tI_aC, tL_aC, tR_aC, tN_aC, tZ_aC, tC_aC, tc_aC, tz_aC, tI_rmL, tL_rmL, tR_rmL, tN_rmL, tZ_rmL, tC_rmL, tc_rmL, tz_rmL, tI_mk, tL_mk, tR_mk, tN_mk, tZ_mk, tC_mk, tc_mk, tz_mk, tI_pushL, tL_pushL, tR_pushL, tN_pushL, tZ_pushL, tC_pushL, tc_pushL, tz_pushL, tI_pushB, tL_pushB, tR_pushB, tN_pushB, tZ_pushB, tC_pushB, tc_pushB, tz_pushB, tI_cpL, tL_cpL, tR_cpL, tN_cpL, tZ_cpL, tC_cpL, tc_cpL, tz_cpL, eq_self, true_and, and_true, false_and, and_false, if_true, if_false, reduceIte, ite_true, ite_false, not_true_eq_false, not_false_eq_true, h1, h2, h3]
  · unfold ntB; simp (config := {decide := true}) only [gfI_enc, gfL_enc, gfR_enc, pfI_enc, pfL_enc, pfR_enc, Option.bind_some, cI_v, cL_v, cF_v, cD_v, cR_v, cV_v, cI_x, cL_x, cR_x, cV_x, gz_0, gz_1, acc_enc, tI_sI, tL_sI, tR_sI, tN_sI, tZ_sI, tC_sI, tc_sI, tz_sI, tI_sL, tL_sL, tR_sL, tN_sL, tZ_sL, tC_sL, tc_sL, tz_sL, tI_sR, tL_sR, tR_sR, tN_sR, tZ_sR, tC_sR, tc_sR, tz_sR, tI_sZ, tL_sZ, tR_sZ, tN_sZ, tZ_sZ, tC_sZ, tc_sZ, tz_sZ, tI_sC, tL_sC, tR_sC, tN_sC, tZ_sC, tC_sC, tc_sC, tz_sC, tI_aC, tL_aC, tR_aC, tN_aC, tZ_aC, tC_aC, tc_aC, tz_aC, tI_rmL, tL_rmL, tR_rmL, tN_rmL, tZ_rmL, tC_rmL, tc_rmL, tz_rmL, tI_mk, tL_mk, tR_mk, tN_mk, tZ_mk, tC_mk, tc_mk, tz_mk, tI_pushL, tL_pushL, tR_pushL, tN_pushL, tZ_pushL, tC_pushL, tc_pushL, tz_pushL, tI_pushB, tL_pushB, tR_pushB, tN_pushB, tZ_pushB, tC_pushB, tc_pushB, tz_pushB, tI_cpL, tL_cpL, tR_cpL, tN_cpL, tZ_cpL, tC_cpL, tc_cpL, tz_cpL, eq_self, true_and, and_true, false_and, and_false, if_true, if_false, reduceIte, ite_true, ite_false, not_true_eq_false, not_false_eq_true, h]
  · unfold ntB; simp (config := {decide := true}) only [gfI_enc, gfL_enc, gfR_enc, pfI_enc, pfL_enc, pfR_enc, Option.bind_some, cI_v, cL_v, cF_v, cD_v, cR_v, cV_v, cI_x, cL_x, cR_x, cV_x, gz_0, gz_1, acc_enc, tI_sI, tL_sI, tR_sI, tN_sI, tZ_sI, tC_sI, tc_sI, tz_sI, tI_sL, tL_sL, tR_sL, tN_sL, tZ_sL, tC_sL, tc_sL, tz_sL, tI_sR, tL_sR, tR_sR, tN_sR, tZ_sR, tC_sR, tc_sR, tz_sR, tI_sZ, tL_sZ, tR_sZ, tN_sZ, tZ_sZ, tC_sZ, tc_sZ, tz_sZ, tI_sC, tL_sC, tR_sC, tN_sC, tZ_sC, tC_sC, tc_sC, tz_sC, tI_aC, tL_aC, tR_aC, tN_aC, tZ_aC, tC_aC, tc_aC, tz_aC, tI_rmL, tL_rmL, tR_rmL, tN_rmL, tZ_rmL, tC_rmL, tc_rmL, tz_rmL, tI_mk, tL_mk, tR_mk, tN_mk, tZ_mk, tC_mk, tc_mk, tz_mk, tI_pushL, tL_pushL, tR_pushL, tN_pushL, tZ_pushL, tC_pushL, tc_pushL, tz_pushL, tI_pushB, tL_pushB, tR_pushB, tN_pushB, tZ_pushB, tC_pushB, tc_pushB, tz_pushB, tI_cpL, tL_cpL, tR_cpL, tN_cpL, tZ_cpL, tC_cpL, tc_cpL, tz_cpL, eq_self, true_and, and_true, false_and, and_false, if_true, if_false, reduceIte, ite_true, ite_false, not_true_eq_false, not_false_eq_true]
  · unfold ntB; simp (config := {decide := true}) only [gfI_enc, gfL_enc, gfR_enc, pfI_enc, pfL_enc, pfR_enc, Option.bind_some, cI_v, cL_v, cF_v, cD_v, cR_v, cV_v, cI_x, cL_x, cR_x, cV_x, gz_0, gz_1, acc_enc, tI_sI, tL_sI, tR_sI, tN_sI, tZ_sI, tC_sI, tc_sI, tz_sI, tI_sL, tL_sL, tR_sL, tN_sL, tZ_sL, tC_sL, tc_sL, tz_sL, tI_sR, tL_sR, tR_sR, tN_sR, tZ_sR, tC_sR, tc_sR, tz_sR, tI_sZ, tL_sZ, tR_sZ, tN_sZ, tZ_sZ, tC_sZ, tc_sZ, tz_sZ, tI_sC, tL_sC, tR_sC, tN_sC, tZ_sC, tC_sC, tc_sC, tz_sC, tI_aC, tL_aC, tR_aC, tN_aC, tZ_aC, tC_aC, tc_aC, tz_aC, tI_rmL, tL_rmL, tR_rmL, tN_rmL, tZ_rmL, tC_rmL, tc_rmL, tz_rmL, tI_mk, tL_mk, tR_mk, tN_mk, tZ_mk, tC_mk, tc_mk, tz_mk, tI_pushL, tL_pushL, tR_pushL, tN_pushL, tZ_pushL, tC_pushL, tc_pushL, tz_pushL, tI_pushB, tL_pushB, tR_pushB, tN_pushB, tZ_pushB, tC_pushB, tc_pushB, tz_pushB, tI_cpL, tL_cpL, tR_cpL, tN_cpL, tZ_cpL, tC_cpL, tc_cpL, tz_cpL, eq_self, true_and, and_true, false_and, and_false, if_true, if_false, reduceIte, ite_true, ite_false, not_true_eq_false, not_false_eq_true]
  · unfold ntB; simp (config := {decide := true}) only [gfI_enc, gfL_enc, gfR_enc, pfI_enc, pfL_enc, pfR_enc, Option.bind_some, cI_v, cL_v, cF_v, cD_v, cR_v, cV_v, cI_x, cL_x, cR_x, cV_x, gz_0, gz_1, acc_enc, tI_sI, tL_sI, tR_sI, tN_sI, tZ_sI, tC_sI, tc_sI, tz_sI, tI_sL, tL_sL, tR_sL, tN_sL, tZ_sL, tC_sL, tc_sL, tz_sL, tI_sR, tL_sR, tR_sR, tN_sR, tZ_sR, tC_sR, tc_sR, tz_sR, tI_sZ, tL_sZ, tR_sZ, tN_sZ, tZ_sZ, tC_sZ, tc_sZ, tz_sZ, tI_sC, tL_sC, tR_sC, tN_sC, tZ_sC, tC_sC, tc_sC, tz_sC, tI_aC, tL_aC, tR_aC, tN_aC, tZ_aC, tC_aC, tc_aC, tz_aC, tI_rmL, tL_rmL, tR_rmL, tN_rmL, tZ_rmL, tC_rmL, tc_rmL, tz_rmL, tI_mk, tL_mk, tR_mk, tN_mk, tZ_mk, tC_mk, tc_mk, tz_mk, tI_pushL, tL_pushL, tR_pushL, tN_pushL, tZ_pushL, tC_pushL, tc_pushL, tz_pushL, tI_pushB, tL_pushB, tR_pushB, tN_pushB, tZ_pushB, tC_pushB, tc_pushB, tz_pushB, tI_cpL, tL_cpL, tR_cpL, tN_cpL, tZ_cpL, tC_cpL, tc_cpL, tz_cpL, eq_self, true_and, and_true, false_and, and_false, if_true, if_false, reduceIte, ite_true, ite_false, not_true_eq_false, not_false_eq_true]
  · unfold ntB; simp (config := {decide := true}) only [gfI_enc, gfL_enc, gfR_enc, pfI_enc, pfL_enc, pfR_enc, Option.bind_some, cI_v, cL_v, cF_v, cD_v, cR_v, cV_v, cI_x, cL_x, cR_x, cV_x, gz_0, gz_1, acc_enc, tI_sI, tL_sI, tR_sI, tN_sI, tZ_sI, tC_sI, tc_sI, tz_sI, tI_sL, tL_sL, tR_sL, tN_sL, tZ_sL, tC_sL, tc_sL, tz_sL, tI_sR, tL_sR, tR_sR, tN_sR, tZ_sR, tC_sR, tc_sR, tz_sR, tI_sZ, tL_sZ, tR_sZ, tN_sZ, tZ_sZ, tC_sZ, tc_sZ, tz_sZ, tI_sC, tL_sC, tR_sC, tN_sC, tZ_sC, tC_sC, tc_sC, tz_sC, tI_aC, tL_aC, tR_aC, tN_aC, tZ_aC, tC_aC, tc_aC, tz_aC, tI_rmL, tL_rmL, tR_rmL, tN_rmL, tZ_rmL, tC_rmL, tc_rmL, tz_rmL, tI_mk, tL_mk, tR_mk, tN_mk, tZ_mk, tC_mk, tc_mk, tz_mk, tI_pushL, tL_pushL, tR_pushL, tN_pushL, tZ_pushL, tC_pushL, tc_pushL, tz_pushL, tI_pushB, tL_pushB, tR_pushB, tN_pushB, tZ_pushB, tC_pushB, tc_pushB, tz_pushB, tI_cpL, tL_cpL, tR_cpL, tN_cpL, tZ_cpL, tC_cpL, tc_cpL, tz_cpL, eq_self, true_and, and_true, false_and, and_false, if_true, if_false, reduceIte, ite_true, ite_false, not_true_eq_false, not_false_eq_true]
  · unfold ntB; simp (config := {decide := true}) only [gfI_enc, gfL_enc, gfR_enc, pfI_enc, pfL_enc, pfR_enc, Option.bind_some, cI_v, cL_v, cF_v, cD_v, cR_v, cV_v, cI_x, cL_x, cR_x, cV_x, gz_0, gz_1, acc_enc, tI_sI, tL_sI, tR_sI, tN_sI, tZ_sI, tC_sI, tc_sI, tz_sI, tI_sL, tL_sL, tR_sL, tN_sL, tZ_sL, tC_sL, tc_sL, tz_sL, tI_sR, tL_sR, tR_sR, tN_sR, tZ_sR, tC_sR, tc_sR, tz_sR, tI_sZ, tL_sZ, tR_sZ, tN_sZ, tZ_sZ, tC_sZ, tc_sZ, tz_sZ, tI_sC, tL_sC, tR_sC, tN_sC, tZ_sC, tC_sC, tc_sC, tz_sC, tI_aC, tL_aC, tR_aC, tN_aC, tZ_aC, tC_aC, tc_aC, tz_aC, tI_rmL, tL_rmL, tR_rmL, tN_rmL, tZ_rmL, tC_rmL, tc_rmL, tz_rmL, tI_mk, tL_mk, tR_mk, tN_mk, tZ_mk, tC_mk, tc_mk, tz_mk, tI_pushL, tL_pushL, tR_pushL, tN_pushL, tZ_pushL, tC_pushL, tc_pushL, tz_pushL, tI_pushB, tL_pushB, tR_pushB, tN_pushB, tZ_pushB, tC_pushB, tc_pushB, tz_pushB, tI_cpL, tL_cpL, tR_cpL, tN_cpL, tZ_cpL, tC_cpL, tc_cpL, tz_cpL, eq_self, true_and, and_true, false_and, and_false, if_true, if_false, reduceIte, ite_true, ite_false, not_true_eq_false, not_false_eq_true]
  · unfold ntB
    exact chF_I (by simp) (chF_I (by simp) (chF_I (by simp) (chF_R (by simp) (chF_r _ _ _))))
  · unfold ntB
    exact Wr.cI _ _ _ _ (Wr.cI _ _ _ _ (Wr.cI _ _ _ _ (Wr.cR _ _ _ _ (Wr.rf _))))
theorem swF_eq (X : TS) (i : Nat) (w : Int32) : (∀ s x k, ¬ s = 16 → tI (swF X i w) s x k = tI X s x k) ∧ (∀ k, ¬ k = 8 → ¬ k = 9 → ∀ x, tI (swF X i w) 16 x k = tI X 16 x k) ∧ tI (swF X i w) 16 i 8 = w ∧ tI (swF X i w) 16 i 9 = (if w = 1 then 0 else 8) ∧ (swF X i w).2 = X.2 ∧ chF [16] [] X (swF X i w) ∧ Wr X (swF X i w) := by
  refine ⟨fun s x k h => ?_, fun k h1 h2 x => ?_, ?_, ?_, rfl, ?_, ?_⟩
  · unfold swF; simp (config := {decide := true}) only [gfI_enc, gfL_enc, gfR_enc, pfI_enc, pfL_enc, pfR_enc, Option.bind_some, cI_v, cL_v, cF_v, cD_v, cR_v, cV_v, cI_x, cL_x, cR_x, cV_x, gz_0, gz_1, acc_enc, tI_sI, tL_sI, tR_sI, tN_sI, tZ_sI, tC_sI, tc_sI, tz_sI, tI_sL, tL_sL, tR_sL, tN_sL, tZ_sL, tC_sL, tc_sL, tz_sL, tI_sR, tL_sR, tR_sR, tN_sR, tZ_sR, tC_sR, tc_sR, tz_sR, tI_sZ, tL_sZ, tR_sZ, tN_sZ, tZ_sZ, tC_sZ, tc_sZ, tz_sZ, tI_sC, tL_sC, tR_sC, tN_sC, tZ_sC, tC_sC, tc_sC, tz_sC, tI_aC, tL_aC, tR_aC, tN_aC, tZ_aC, tC_aC, tc_aC, tz_aC, tI_rmL, tL_rmL, tR_rmL, tN_rmL, tZ_rmL, tC_rmL, tc_rmL, tz_rmL, tI_mk, tL_mk, tR_mk, tN_mk, tZ_mk, tC_mk, tc_mk, tz_mk, tI_pushL, tL_pushL, tR_pushL, tN_pushL, tZ_pushL, tC_pushL, tc_pushL, tz_pushL, tI_pushB, tL_pushB, tR_pushB, tN_pushB, tZ_pushB, tC_pushB, tc_pushB, tz_pushB, tI_cpL, tL_cpL, tR_cpL, tN_cpL, tZ_cpL, tC_cpL, tc_cpL, tz_cpL, eq_self, true_and, and_true, false_and, and_false, if_true, if_false, reduceIte, ite_true, ite_false, not_true_eq_false, not_false_eq_true, h]
  · unfold swF; simp (config := {decide := true}) only [gfI_enc, gfL_enc, gfR_enc, pfI_enc, pfL_enc, pfR_enc, Option.bind_some, cI_v, cL_v, cF_v, cD_v, cR_v, cV_v, cI_x, cL_x, cR_x, cV_x, gz_0, gz_1, acc_enc, tI_sI, tL_sI, tR_sI, tN_sI, tZ_sI, tC_sI, tc_sI, tz_sI, tI_sL, tL_sL, tR_sL, tN_sL, tZ_sL, tC_sL, tc_sL, tz_sL, tI_sR, tL_sR, tR_sR, tN_sR, tZ_sR, tC_sR, tc_sR, tz_sR, tI_sZ, tL_sZ, tR_sZ, tN_sZ, tZ_sZ, tC_sZ, tc_sZ, tz_sZ, tI_sC, tL_sC, tR_sC, tN_sC, tZ_sC, tC_sC, tc_sC, tz_sC, tI_aC, tL_aC, tR_aC, tN_aC, tZ_aC, tC_aC, tc_aC, tz_aC, tI_rmL, tL_rmL, tR_rmL, tN_rmL, tZ_rmL, tC_rmL, tc_rmL, tz_rmL, tI_mk, tL_mk, tR_mk, tN_mk, tZ_mk, tC_mk, tc_mk, tz_mk, tI_pushL, tL_pushL, tR_pushL, tN_pushL, tZ_pushL, tC_pushL, tc_pushL, tz_pushL, tI_pushB, tL_pushB, tR_pushB, tN_pushB, tZ_pushB, tC_pushB, tc_pushB, tz_pushB, tI_cpL, tL_cpL, tR_cpL, tN_cpL, tZ_cpL, tC_cpL, tc_cpL, tz_cpL, eq_self, true_and, and_true, false_and, and_false, if_true, if_false, reduceIte, ite_true, ite_false, not_true_eq_false, not_false_eq_true, h1, h2]
  · unfold swF; simp (config := {decide := true}) only [gfI_enc, gfL_enc, gfR_enc, pfI_enc, pfL_enc, pfR_enc, Option.bind_some, cI_v, cL_v, cF_v, cD_v, cR_v, cV_v, cI_x, cL_x, cR_x, cV_x, gz_0, gz_1, acc_enc, tI_sI, tL_sI, tR_sI, tN_sI, tZ_sI, tC_sI, tc_sI, tz_sI, tI_sL, tL_sL, tR_sL, tN_sL, tZ_sL, tC_sL, tc_sL, tz_sL, tI_sR, tL_sR, tR_sR, tN_sR, tZ_sR, tC_sR, tc_sR, tz_sR, tI_sZ, tL_sZ, tR_sZ, tN_sZ, tZ_sZ, tC_sZ, tc_sZ, tz_sZ, tI_sC, tL_sC, tR_sC, tN_sC, tZ_sC, tC_sC, tc_sC, tz_sC, tI_aC, tL_aC, tR_aC, tN_aC, tZ_aC, tC_aC, tc_aC, tz_aC, tI_rmL, tL_rmL, tR_rmL, tN_rmL, tZ_rmL, tC_rmL, tc_rmL, tz_rmL, tI_mk, tL_mk, tR_mk, tN_mk, tZ_mk, tC_mk, tc_mk, tz_mk, tI_pushL, tL_pushL, tR_pushL, tN_pushL, tZ_pushL, tC_pushL, tc_pushL, tz_pushL, tI_pushB, tL_pushB, tR_pushB, tN_pushB, tZ_pushB, tC_pushB, tc_pushB, tz_pushB, tI_cpL, tL_cpL, tR_cpL, tN_cpL, tZ_cpL, tC_cpL, tc_cpL, tz_cpL, eq_self, true_and, and_true, false_and, and_false, if_true, if_false, reduceIte, ite_true, ite_false, not_true_eq_false, not_false_eq_true]
  · unfold swF; simp (config := {decide := true}) only [gfI_enc, gfL_enc, gfR_enc, pfI_enc, pfL_enc, pfR_enc, Option.bind_some, cI_v, cL_v, cF_v, cD_v, cR_v, cV_v, cI_x, cL_x, cR_x, cV_x, gz_0, gz_1, acc_enc, tI_sI, tL_sI, tR_sI, tN_sI, tZ_sI, tC_sI, tc_sI, tz_sI, tI_sL, tL_sL, tR_sL, tN_sL, tZ_sL, tC_sL, tc_sL, tz_sL, tI_sR, tL_sR, tR_sR, tN_sR, tZ_sR, tC_sR, tc_sR, tz_sR, tI_sZ, tL_sZ, tR_sZ, tN_sZ, tZ_sZ, tC_sZ, tc_sZ, tz_sZ, tI_sC, tL_sC, tR_sC, tN_sC, tZ_sC, tC_sC, tc_sC, tz_sC, tI_aC, tL_aC, tR_aC, tN_aC, tZ_aC, tC_aC, tc_aC, tz_aC, tI_rmL, tL_rmL, tR_rmL, tN_rmL, tZ_rmL, tC_rmL, tc_rmL, tz_rmL, tI_mk, tL_mk, tR_mk, tN_mk, tZ_mk, tC_mk, tc_mk, tz_mk, tI_pushL, tL_pushL, tR_pushL, tN_pushL, tZ_pushL, tC_pushL, tc_pushL, tz_pushL, tI_pushB, tL_pushB, tR_pushB, tN_pushB, tZ_pushB, tC_pushB, tc_pushB, tz_pushB, tI_cpL, tL_cpL, tR_cpL, tN_cpL, tZ_cpL, tC_cpL, tc_cpL, tz_cpL, eq_self, true_and, and_true, false_and, and_false, if_true, if_false, reduceIte, ite_true, ite_false, not_true_eq_false, not_false_eq_true]
  · unfold swF
    exact chF_I (by simp) (chF_I (by simp) (chF_r _ _ _))
  · unfold swF
    exact Wr.cI _ _ _ _ (Wr.cI _ _ _ _ (Wr.rf _))
theorem beq_ofNat {x y : Nat} (hx : x < 2 ^ 31) (hy : y < 2 ^ 31) : (Int32.ofNat x == Int32.ofNat y) = (x == y) := by
  by_cases e : x = y
  · rw [e, beq_self_eq_true, beq_self_eq_true]
  · have : ¬ Int32.ofNat x = Int32.ofNat y := fun q => e (o_inj hx hy q)
    rw [beq_eq_false_iff_ne.mpr this, beq_eq_false_iff_ne.mpr e]
/-- what a standing in does to the notes -/
def SwP (a a' : TS) (p : Nat) : Prop := (∀ k, k < tZ a 15 0 → k < tZ a' 15 0 ∧ ntP a' k = ntP a k) ∧ (tI a' 16 (tN a 16) 8 = 1 → ∃ k, k < tZ a' 15 0 ∧ ntP a' k = Int32.ofNat p) ∧
  (∀ k, k < tZ a' 15 0 → ntP a' k = Int32.ofNat p ∨ ∃ k0, k0 < tZ a 15 0 ∧ ntP a' k = ntP a k0) ∧ tI a' 16 (tN a 16) 7 = 2
/-- what the switch goes by when it denies -/
def SwD (b : TS) (cd : Nat) (m : Int32) : Prop := tI b 95 0 3 < m ∨ (3 : Int32) ≤ tI b 73 0 cd
def SwC (a b a' b' : TS) (p cd : Nat) (m w : Int32) : Prop := (w = 1 → (∃ k, k < tZ a 15 0 ∧ ntP a k = Int32.ofNat p) ∨ ¬ SwD b cd m) ∧ (w = 2 → (∀ k, k < tZ a' 15 0 → ntP a' k ≠ Int32.ofNat p) ∧ SwD b cd m) ∧
  (∀ k, k < 8 → (3 : Int32) ≤ tI b 73 0 k → (3 : Int32) ≤ tI b' 73 0 k) ∧ tI b' 95 0 3 = tI b 95 0 3
set_option maxHeartbeats 4000000 in
theorem sim_sw {a b : TS} {r p cd c sh : Nat} {m st : Int32} {q : Nat × Nat} (hR : R0 a b) (hN : Nt a b) (hp : p < tZ a 29 0) (hr : r < tN a 10) (m1 : tI a 10 r 1 = Int32.ofNat p) (m2 : tI a 10 r 2 = Int32.ofNat cd) (m3 : tI a 10 r 3 = Int32.ofNat sh) (m4 : tI a 10 r 4 = Int32.ofNat c) (m5 : tI a 10 r 5 = m) (m6 : tI a 10 r 6 = st) (hb14 : bitOk (tI a 10 r 14) = true)
    (hcd : cd < tZ a 28 0) (hc : c < 201) (hsh : sh < tZ a 27 0) (hq : isQ q.1) (hqi : q.2 < tN b q.1) (q1 : tI b q.1 q.2 1 = Int32.ofNat p) (q2 : tI b q.1 q.2 2 = Int32.ofNat cd) (q3 : tI b q.1 q.2 3 = Int32.ofNat c) (q4 : tI b q.1 q.2 4 = m) (q5 : tI b q.1 q.2 5 = st)
    (p1 : tI b 87 0 (10 * p + 1) = Int32.ofNat cd) (p2 : tI b 87 0 (10 * p + 2) = Int32.ofNat sh) (p3 : tI b 87 0 (10 * p + 3) = m) (p4 : tI b 87 0 (10 * p + 4) = Int32.ofNat c) (hst : st = pst b p 2) (hcl : tI b 95 0 5 = 0) :
    ∃ a' b', (∀ z, Ex 64 [aR (some (31, 0)), aR (some (10, r))] (enc 1 a z) = some (.inl (some (aR (some (16, tN a 16)))), enc 1 a' z)) ∧ (∀ z, Ex 208 [aR (some (95, 0)), aI (Int32.ofNat sh), aR (some q)] (enc 2 b z) = cV (Ex 194 [aR (some (95, 0)), aI (Int32.ofNat sh), aR (some (81, tN b 81))] (enc 2 b' z)) (fun h => some (.inl none, h)) xT) ∧
      AnsM a' b' 16 (tN a 16) (81, tN b 81) p ∧ R0 a' b' ∧ Nt a' b' ∧ chF [15, 16, 17] [] a a' ∧ chF [71, 72, 73, 81] [(95, 4)] b b' ∧ groQ b b' ∧ gro a a' 17 ∧ Wr a a' ∧ Wr b b' ∧ (tN a' 16 ≤ tN a 16 + 1 ∧ tN a' 17 ≤ tN a 17 + 1 ∧ tN b' 81 = tN b 81 + 1) ∧ SwP a a' p ∧ SwC a b a' b' p cd m (tI a' 16 (tN a 16) 8) := by
  have hfc := r_FC hR
  have hfr := r_FR hR
  have hP := (r_P hR).1
  have hC8 := (r_C hR).1
  have hle := Nt_le hN hP
  have hN0 := hN
  obtain ⟨n1, n2, n3, n4, n5, n6⟩ := hN
  obtain ⟨nc1, nc2, nc3⟩ := n1
  obtain ⟨s1, s2, s3, s4, s5, s6, s7, s8⟩ := sw0_eq a p
  have hn200 : tZ a 15 0 ≤ 200 := by omega
  have z15 : tZ (sw0 a p) 15 0 = tZ a 15 0 := (s4 15 0 (by decide)).1
  have c15 : tC (sw0 a p) 15 0 = tC a 15 0 := (s4 15 0 (by decide)).2
  have hfs : FxC (sw0 a p) := FxC_s hfc s7 s6 (by decide)
  have hr' : r < tN (sw0 a p) 10 := by rw [s3 10 (by decide)]; exact hr
  have g17 : gro a (sw0 a p) 17 := gro_c s6 (by decide)
  have rows : ∀ k, k < tZ a 15 0 → ∃ i, i < tN (sw0 a p) 17 ∧ tR (sw0 a p) 15 0 k = some (17, i) := fun k hk => by
    obtain ⟨i, q, p, cd, c, sh, i1, i2, -⟩ := n3 k hk
    exact ⟨i, by rw [s3 17 (by decide)]; exact i1, by rw [s2 15 _ _ (by decide)]; exact i2⟩
  have eP : ∀ k, k < tZ a 15 0 → ntP (sw0 a p) k = ntP a k ∧ ntC (sw0 a p) k = ntC a k := fun k hk => ntPC_c (n3 k hk) g17 (s2 15 0 k (by decide))
  have start : ∀ z, Ex 65 [aR (some (31, 0)), aR (some (10, r))] (enc 1 (sw0 a p) z) = Ru 65 4 [(0, aR (some (31, 0))), (1, aR (some (10, r))), (2, aI 0), (3, aI 0)] [] (enc 1 (sw0 a p) z) := fun z => (X_in (by decide +kernel) (fcN_31 hfs) rfl).trans (lf_65_0 ..)
  have to := fun z => x65_to (a := sw0 a p) (z := z) (r := r) (n := tZ a 15 0) (p := Int32.ofNat p) (cd := Int32.ofNat cd) hfs hr' (by rw [s1 10 _ _ (by decide)]; exact m1) (by rw [s1 10 _ _ (by decide)]; exact m2) z15 (by omega) rows
  have y7 := fun z => y207 (b := b) (z := z) (p := Int32.ofNat p) hfr n2 hn200 (ntP a) (fun k hk => by
    obtain ⟨i, q, p', cd', c', sh', i1, i2, i3, i4, i5, -, -, -, -, ⟨j1, -⟩, ⟨k1, -⟩, -⟩ := n3 k hk
    refine ⟨q, i3, i4, i5, ?_⟩
    unfold ntP
    rw [i2]
    exact k1.trans j1.symm)
  have h16 : tN a 16 < tN (sw0 a p) 16 := by rw [s5]; omega
  have h16' : tN (sw0 a p) 16 = tN a 16 + 1 := s5
  have ends := fun z => sw_ends (a := a) (z := z) (r := r) (p := p) hr m1 (fcN_31 hfc)
  -- the reference's start
  obtain ⟨e1, e2, e3, e4, e5, e6, e7, e8⟩ := ml_eq b (Int32.ofNat p) 1
  have hi81 : tN b 81 < tN (ml0 b (Int32.ofNat p)) 81 := by unfold ml0; simp (config := {decide := true}) only [gfI_enc, gfL_enc, gfR_enc, pfI_enc, pfL_enc, pfR_enc, Option.bind_some, cI_v, cL_v, cF_v, cD_v, cR_v, cV_v, cI_x, cL_x, cR_x, cV_x, gz_0, gz_1, acc_enc, tI_sI, tL_sI, tR_sI, tN_sI, tZ_sI, tC_sI, tc_sI, tz_sI, tI_sL, tL_sL, tR_sL, tN_sL, tZ_sL, tC_sL, tc_sL, tz_sL, tI_sR, tL_sR, tR_sR, tN_sR, tZ_sR, tC_sR, tc_sR, tz_sR, tI_sZ, tL_sZ, tR_sZ, tN_sZ, tZ_sZ, tC_sZ, tc_sZ, tz_sZ, tI_sC, tL_sC, tR_sC, tN_sC, tZ_sC, tC_sC, tc_sC, tz_sC, tI_aC, tL_aC, tR_aC, tN_aC, tZ_aC, tC_aC, tc_aC, tz_aC, tI_rmL, tL_rmL, tR_rmL, tN_rmL, tZ_rmL, tC_rmL, tc_rmL, tz_rmL, tI_mk, tL_mk, tR_mk, tN_mk, tZ_mk, tC_mk, tc_mk, tz_mk, tI_pushL, tL_pushL, tR_pushL, tN_pushL, tZ_pushL, tC_pushL, tc_pushL, tz_pushL, tI_pushB, tL_pushB, tR_pushB, tN_pushB, tZ_pushB, tC_pushB, tc_pushB, tz_pushB, tI_cpL, tL_cpL, tR_cpL, tN_cpL, tZ_cpL, tC_cpL, tc_cpL, tz_cpL, eq_self, true_and, and_true, false_and, and_false, if_true, if_false, reduceIte, ite_true, ite_false, not_true_eq_false, not_false_eq_true]; omega
  have hf0 : FxR (ml0 b (Int32.ofNat p)) := by
    have c0 : chF [81] [] b (ml0 b (Int32.ofNat p)) := by
      unfold ml0
      exact chF_I (by simp) (chF_I (by simp) (chF_mk (by simp) (chF_r _ _ _)))
    have w0 : Wr b (ml0 b (Int32.ofNat p)) := by
      unfold ml0
      exact Wr.cI _ _ _ _ (Wr.cI _ _ _ _ (Wr.cM _ _ _ (by decide +kernel) (by decide) (Wr.rf _)))
    exact FxR_s hfr w0 c0 (by decide)
  have q81 : ¬ (q.1 = 81 ∧ q.2 = tN b 81) := fun e => by rw [e.1, e.2] at hqi; exact Nat.lt_irrefl _ hqi
  have hq0 : ∀ k, tI (ml0 b (Int32.ofNat p)) q.1 q.2 k = tI b q.1 q.2 k := fun k => by
    have h3 : ∀ w : Prop, ¬ (q.1 = 81 ∧ q.2 = tN b 81 ∧ w) := fun w z => q81 ⟨z.1, z.2.1⟩
    unfold ml0
    simp (config := {decide := true}) only [gfI_enc, gfL_enc, gfR_enc, pfI_enc, pfL_enc, pfR_enc, Option.bind_some, cI_v, cL_v, cF_v, cD_v, cR_v, cV_v, cI_x, cL_x, cR_x, cV_x, gz_0, gz_1, acc_enc, tI_sI, tL_sI, tR_sI, tN_sI, tZ_sI, tC_sI, tc_sI, tz_sI, tI_sL, tL_sL, tR_sL, tN_sL, tZ_sL, tC_sL, tc_sL, tz_sL, tI_sR, tL_sR, tR_sR, tN_sR, tZ_sR, tC_sR, tc_sR, tz_sR, tI_sZ, tL_sZ, tR_sZ, tN_sZ, tZ_sZ, tC_sZ, tc_sZ, tz_sZ, tI_sC, tL_sC, tR_sC, tN_sC, tZ_sC, tC_sC, tc_sC, tz_sC, tI_aC, tL_aC, tR_aC, tN_aC, tZ_aC, tC_aC, tc_aC, tz_aC, tI_rmL, tL_rmL, tR_rmL, tN_rmL, tZ_rmL, tC_rmL, tc_rmL, tz_rmL, tI_mk, tL_mk, tR_mk, tN_mk, tZ_mk, tC_mk, tc_mk, tz_mk, tI_pushL, tL_pushL, tR_pushL, tN_pushL, tZ_pushL, tC_pushL, tc_pushL, tz_pushL, tI_pushB, tL_pushB, tR_pushB, tN_pushB, tZ_pushB, tC_pushB, tc_pushB, tz_pushB, tI_cpL, tL_cpL, tR_cpL, tN_cpL, tZ_cpL, tC_cpL, tc_cpL, tz_cpL, eq_self, true_and, and_true, false_and, and_false, if_true, if_false, reduceIte, ite_true, ite_false, not_true_eq_false, not_false_eq_true, q81, h3]
  have hqi0 : q.2 < tN (ml0 b (Int32.ofNat p)) q.1 := by
    unfold ml0
    simp (config := {decide := true}) only [gfI_enc, gfL_enc, gfR_enc, pfI_enc, pfL_enc, pfR_enc, Option.bind_some, cI_v, cL_v, cF_v, cD_v, cR_v, cV_v, cI_x, cL_x, cR_x, cV_x, gz_0, gz_1, acc_enc, tI_sI, tL_sI, tR_sI, tN_sI, tZ_sI, tC_sI, tc_sI, tz_sI, tI_sL, tL_sL, tR_sL, tN_sL, tZ_sL, tC_sL, tc_sL, tz_sL, tI_sR, tL_sR, tR_sR, tN_sR, tZ_sR, tC_sR, tc_sR, tz_sR, tI_sZ, tL_sZ, tR_sZ, tN_sZ, tZ_sZ, tC_sZ, tc_sZ, tz_sZ, tI_sC, tL_sC, tR_sC, tN_sC, tZ_sC, tC_sC, tc_sC, tz_sC, tI_aC, tL_aC, tR_aC, tN_aC, tZ_aC, tC_aC, tc_aC, tz_aC, tI_rmL, tL_rmL, tR_rmL, tN_rmL, tZ_rmL, tC_rmL, tc_rmL, tz_rmL, tI_mk, tL_mk, tR_mk, tN_mk, tZ_mk, tC_mk, tc_mk, tz_mk, tI_pushL, tL_pushL, tR_pushL, tN_pushL, tZ_pushL, tC_pushL, tc_pushL, tz_pushL, tI_pushB, tL_pushB, tR_pushB, tN_pushB, tZ_pushB, tC_pushB, tc_pushB, tz_pushB, tI_cpL, tL_cpL, tR_cpL, tN_cpL, tZ_cpL, tC_cpL, tc_cpL, tz_cpL, eq_self, true_and, and_true, false_and, and_false, if_true, if_false, reduceIte, ite_true, ite_false, not_true_eq_false, not_false_eq_true]
    by_cases e : q.1 = 81
    · rw [if_pos e]; rw [e] at hqi; omega
    · rw [if_neg e]; exact hqi
  have m95 : ∀ k, tI (ml0 b (Int32.ofNat p)) 95 0 k = tI b 95 0 k := fun k => by unfold ml0; simp (config := {decide := true}) only [gfI_enc, gfL_enc, gfR_enc, pfI_enc, pfL_enc, pfR_enc, Option.bind_some, cI_v, cL_v, cF_v, cD_v, cR_v, cV_v, cI_x, cL_x, cR_x, cV_x, gz_0, gz_1, acc_enc, tI_sI, tL_sI, tR_sI, tN_sI, tZ_sI, tC_sI, tc_sI, tz_sI, tI_sL, tL_sL, tR_sL, tN_sL, tZ_sL, tC_sL, tc_sL, tz_sL, tI_sR, tL_sR, tR_sR, tN_sR, tZ_sR, tC_sR, tc_sR, tz_sR, tI_sZ, tL_sZ, tR_sZ, tN_sZ, tZ_sZ, tC_sZ, tc_sZ, tz_sZ, tI_sC, tL_sC, tR_sC, tN_sC, tZ_sC, tC_sC, tc_sC, tz_sC, tI_aC, tL_aC, tR_aC, tN_aC, tZ_aC, tC_aC, tc_aC, tz_aC, tI_rmL, tL_rmL, tR_rmL, tN_rmL, tZ_rmL, tC_rmL, tc_rmL, tz_rmL, tI_mk, tL_mk, tR_mk, tN_mk, tZ_mk, tC_mk, tc_mk, tz_mk, tI_pushL, tL_pushL, tR_pushL, tN_pushL, tZ_pushL, tC_pushL, tc_pushL, tz_pushL, tI_pushB, tL_pushB, tR_pushB, tN_pushB, tZ_pushB, tC_pushB, tc_pushB, tz_pushB, tI_cpL, tL_cpL, tR_cpL, tN_cpL, tZ_cpL, tC_cpL, tc_cpL, tz_cpL, eq_self, true_and, and_true, false_and, and_false, if_true, if_false, reduceIte, ite_true, ite_false, not_true_eq_false, not_false_eq_true]
  have m73 : ∀ k, tI (ml0 b (Int32.ofNat p)) 73 0 k = tI b 73 0 k := fun k => by unfold ml0; simp (config := {decide := true}) only [gfI_enc, gfL_enc, gfR_enc, pfI_enc, pfL_enc, pfR_enc, Option.bind_some, cI_v, cL_v, cF_v, cD_v, cR_v, cV_v, cI_x, cL_x, cR_x, cV_x, gz_0, gz_1, acc_enc, tI_sI, tL_sI, tR_sI, tN_sI, tZ_sI, tC_sI, tc_sI, tz_sI, tI_sL, tL_sL, tR_sL, tN_sL, tZ_sL, tC_sL, tc_sL, tz_sL, tI_sR, tL_sR, tR_sR, tN_sR, tZ_sR, tC_sR, tc_sR, tz_sR, tI_sZ, tL_sZ, tR_sZ, tN_sZ, tZ_sZ, tC_sZ, tc_sZ, tz_sZ, tI_sC, tL_sC, tR_sC, tN_sC, tZ_sC, tC_sC, tc_sC, tz_sC, tI_aC, tL_aC, tR_aC, tN_aC, tZ_aC, tC_aC, tc_aC, tz_aC, tI_rmL, tL_rmL, tR_rmL, tN_rmL, tZ_rmL, tC_rmL, tc_rmL, tz_rmL, tI_mk, tL_mk, tR_mk, tN_mk, tZ_mk, tC_mk, tc_mk, tz_mk, tI_pushL, tL_pushL, tR_pushL, tN_pushL, tZ_pushL, tC_pushL, tc_pushL, tz_pushL, tI_pushB, tL_pushB, tR_pushB, tN_pushB, tZ_pushB, tC_pushB, tc_pushB, tz_pushB, tI_cpL, tL_cpL, tR_cpL, tN_cpL, tZ_cpL, tC_cpL, tc_cpL, tz_cpL, eq_self, true_and, and_true, false_and, and_false, if_true, if_false, reduceIte, ite_true, ite_false, not_true_eq_false, not_false_eq_true]
  have hcd8 : cd < 8 := by omega
  have i1 := o_ix (n := cd) (by omega)
  have i2 := o_lt0 (n := cd) (by omega)
  have o81 : isO 2 17 81 := ⟨by decide +kernel, by decide +kernel⟩
  have hnF : nF 17 = 14 := rfl
  obtain ⟨qs, qi⟩ := q
  have f214 : ∀ z, Ex 214 [aR (some (81, tN b 81)), aI 4, aI (Int32.ofNat p)] (enc 2 (mk b 81 0 0 14) z) = some (.inl none, enc 2 (ml0 b (Int32.ofNat p)) z) := fun z => y214 (b := mk b 81 0 0 14) (z := z) (s := 81) (i := tN b 81) 4 (Int32.ofNat p) o81 (by rw [tN_mk, if_pos rfl]; omega)
  have goB : ∀ z x3, (x3 = 0 ∨ x3 = 1) → Ex 207 [aR (some (95, 0)), aI (Int32.ofNat p)] (enc 2 b z) = some (.inl (some (aI x3)), enc 2 b z) →
      Ex 208 [aR (some (95, 0)), aI (Int32.ofNat sh), aR (some (qs, qi))] (enc 2 b z) = Ru 208 66 [(0, aR (some (95, 0))), (1, aI (Int32.ofNat sh)), (2, aR (some (qs, qi))), (3, aI (if x3 = 0 then 1 else 0)), (4, aR (some (81, tN b 81)))] [aI (if x3 = 0 then (if tI b 95 0 3 < m then 0 else if (3 : Int32) ≤ tI b 73 0 cd then 0 else 1) else 1), aR (some (81, tN b 81))] (enc 2 (ml0 b (Int32.ofNat p)) z) := fun z x3 hx3 h7 => by
    have qq1 : qi < tN b qs := hqi
    have qq2 : qi < tN (ml0 b (Int32.ofNat p)) qs := hqi0
    have q1' : tI b qs qi 1 = Int32.ofNat p := q1
    have h4' : tI (ml0 b (Int32.ofNat p)) qs qi 4 = m := (hq0 4).trans q4
    have h2' : tI (ml0 b (Int32.ofNat p)) qs qi 2 = Int32.ofNat cd := (hq0 2).trans q2
    have qm : gfI (enc 2 (mk b 81 0 0 14) z) (some (qs, qi)) 17 1 = some (Int32.ofNat p) := by
      rw [gq hq (by rw [tN_mk]; split; rename_i e; rw [show qs = 81 from e] at qq1; omega; exact qq1) (by decide), tI_mk, if_neg q81]
      exact congrArg some q1'
    refine (X_in (by decide +kernel) (frN_95 hfr) rfl).trans ((lf_208_0 ..).trans ?_)
    rcases hx3 with e | e
    · subst e
      simp (config := {decide := true}) only [gfI_enc, gfL_enc, gfR_enc, pfI_enc, pfL_enc, pfR_enc, Option.bind_some, cI_v, cL_v, cF_v, cD_v, cR_v, cV_v, cI_x, cL_x, cR_x, cV_x, gz_0, gz_1, acc_enc, tI_sI, tL_sI, tR_sI, tN_sI, tZ_sI, tC_sI, tc_sI, tz_sI, tI_sL, tL_sL, tR_sL, tN_sL, tZ_sL, tC_sL, tc_sL, tz_sL, tI_sR, tL_sR, tR_sR, tN_sR, tZ_sR, tC_sR, tc_sR, tz_sR, tI_sZ, tL_sZ, tR_sZ, tN_sZ, tZ_sZ, tC_sZ, tc_sZ, tz_sZ, tI_sC, tL_sC, tR_sC, tN_sC, tZ_sC, tC_sC, tc_sC, tz_sC, tI_aC, tL_aC, tR_aC, tN_aC, tZ_aC, tC_aC, tc_aC, tz_aC, tI_rmL, tL_rmL, tR_rmL, tN_rmL, tZ_rmL, tC_rmL, tc_rmL, tz_rmL, tI_mk, tL_mk, tR_mk, tN_mk, tZ_mk, tC_mk, tc_mk, tz_mk, tI_pushL, tL_pushL, tR_pushL, tN_pushL, tZ_pushL, tC_pushL, tc_pushL, tz_pushL, tI_pushB, tL_pushB, tR_pushB, tN_pushB, tZ_pushB, tC_pushB, tc_pushB, tz_pushB, tI_cpL, tL_cpL, tR_cpL, tN_cpL, tZ_cpL, tC_cpL, tc_cpL, tz_cpL, eq_self, true_and, and_true, false_and, and_false, if_true, if_false, reduceIte, ite_true, ite_false, not_true_eq_false, not_false_eq_true, gq hq qq1, q1', h7]
      rw [nob_enc (by decide +kernel)]
      rw [hnF]
      dsimp only
      rw [qm, Option.bind_some, f214, cV_v]
      generalize ml0 b (Int32.ofNat p) = M at *
      by_cases d1 : tI b 95 0 3 < m
      · simp (config := {decide := true}) only [gfI_enc, gfL_enc, gfR_enc, pfI_enc, pfL_enc, pfR_enc, Option.bind_some, cI_v, cL_v, cF_v, cD_v, cR_v, cV_v, cI_x, cL_x, cR_x, cV_x, gz_0, gz_1, acc_enc, tI_sI, tL_sI, tR_sI, tN_sI, tZ_sI, tC_sI, tc_sI, tz_sI, tI_sL, tL_sL, tR_sL, tN_sL, tZ_sL, tC_sL, tc_sL, tz_sL, tI_sR, tL_sR, tR_sR, tN_sR, tZ_sR, tC_sR, tc_sR, tz_sR, tI_sZ, tL_sZ, tR_sZ, tN_sZ, tZ_sZ, tC_sZ, tc_sZ, tz_sZ, tI_sC, tL_sC, tR_sC, tN_sC, tZ_sC, tC_sC, tc_sC, tz_sC, tI_aC, tL_aC, tR_aC, tN_aC, tZ_aC, tC_aC, tc_aC, tz_aC, tI_rmL, tL_rmL, tR_rmL, tN_rmL, tZ_rmL, tC_rmL, tc_rmL, tz_rmL, tI_mk, tL_mk, tR_mk, tN_mk, tZ_mk, tC_mk, tc_mk, tz_mk, tI_pushL, tL_pushL, tR_pushL, tN_pushL, tZ_pushL, tC_pushL, tc_pushL, tz_pushL, tI_pushB, tL_pushB, tR_pushB, tN_pushB, tZ_pushB, tC_pushB, tc_pushB, tz_pushB, tI_cpL, tL_cpL, tR_cpL, tN_cpL, tZ_cpL, tC_cpL, tc_cpL, tz_cpL, eq_self, true_and, and_true, false_and, and_false, if_true, if_false, reduceIte, ite_true, ite_false, not_true_eq_false, not_false_eq_true, gq hq qq2, h4', frN_95 hf0, m95, d1]
      · by_cases d2 : (3 : Int32) ≤ tI b 73 0 cd
        · simp (config := {decide := true}) only [gfI_enc, gfL_enc, gfR_enc, pfI_enc, pfL_enc, pfR_enc, Option.bind_some, cI_v, cL_v, cF_v, cD_v, cR_v, cV_v, cI_x, cL_x, cR_x, cV_x, gz_0, gz_1, acc_enc, tI_sI, tL_sI, tR_sI, tN_sI, tZ_sI, tC_sI, tc_sI, tz_sI, tI_sL, tL_sL, tR_sL, tN_sL, tZ_sL, tC_sL, tc_sL, tz_sL, tI_sR, tL_sR, tR_sR, tN_sR, tZ_sR, tC_sR, tc_sR, tz_sR, tI_sZ, tL_sZ, tR_sZ, tN_sZ, tZ_sZ, tC_sZ, tc_sZ, tz_sZ, tI_sC, tL_sC, tR_sC, tN_sC, tZ_sC, tC_sC, tc_sC, tz_sC, tI_aC, tL_aC, tR_aC, tN_aC, tZ_aC, tC_aC, tc_aC, tz_aC, tI_rmL, tL_rmL, tR_rmL, tN_rmL, tZ_rmL, tC_rmL, tc_rmL, tz_rmL, tI_mk, tL_mk, tR_mk, tN_mk, tZ_mk, tC_mk, tc_mk, tz_mk, tI_pushL, tL_pushL, tR_pushL, tN_pushL, tZ_pushL, tC_pushL, tc_pushL, tz_pushL, tI_pushB, tL_pushB, tR_pushB, tN_pushB, tZ_pushB, tC_pushB, tc_pushB, tz_pushB, tI_cpL, tL_cpL, tR_cpL, tN_cpL, tZ_cpL, tC_cpL, tc_cpL, tz_cpL, eq_self, true_and, and_true, false_and, and_false, if_true, if_false, reduceIte, ite_true, ite_false, not_true_eq_false, not_false_eq_true, gq hq qq2, h4', h2', frN_95 hf0, m95, d1, frR_95_18 hf0, frN_73 hf0, frZ_73 hf0, gaI_enc, i1, i2, hcd8, m73, d2]
        · simp (config := {decide := true}) only [gfI_enc, gfL_enc, gfR_enc, pfI_enc, pfL_enc, pfR_enc, Option.bind_some, cI_v, cL_v, cF_v, cD_v, cR_v, cV_v, cI_x, cL_x, cR_x, cV_x, gz_0, gz_1, acc_enc, tI_sI, tL_sI, tR_sI, tN_sI, tZ_sI, tC_sI, tc_sI, tz_sI, tI_sL, tL_sL, tR_sL, tN_sL, tZ_sL, tC_sL, tc_sL, tz_sL, tI_sR, tL_sR, tR_sR, tN_sR, tZ_sR, tC_sR, tc_sR, tz_sR, tI_sZ, tL_sZ, tR_sZ, tN_sZ, tZ_sZ, tC_sZ, tc_sZ, tz_sZ, tI_sC, tL_sC, tR_sC, tN_sC, tZ_sC, tC_sC, tc_sC, tz_sC, tI_aC, tL_aC, tR_aC, tN_aC, tZ_aC, tC_aC, tc_aC, tz_aC, tI_rmL, tL_rmL, tR_rmL, tN_rmL, tZ_rmL, tC_rmL, tc_rmL, tz_rmL, tI_mk, tL_mk, tR_mk, tN_mk, tZ_mk, tC_mk, tc_mk, tz_mk, tI_pushL, tL_pushL, tR_pushL, tN_pushL, tZ_pushL, tC_pushL, tc_pushL, tz_pushL, tI_pushB, tL_pushB, tR_pushB, tN_pushB, tZ_pushB, tC_pushB, tc_pushB, tz_pushB, tI_cpL, tL_cpL, tR_cpL, tN_cpL, tZ_cpL, tC_cpL, tc_cpL, tz_cpL, eq_self, true_and, and_true, false_and, and_false, if_true, if_false, reduceIte, ite_true, ite_false, not_true_eq_false, not_false_eq_true, gq hq qq2, h4', h2', frN_95 hf0, m95, d1, frR_95_18 hf0, frN_73 hf0, frZ_73 hf0, gaI_enc, i1, i2, hcd8, m73, d2]
    · subst e
      simp (config := {decide := true}) only [gfI_enc, gfL_enc, gfR_enc, pfI_enc, pfL_enc, pfR_enc, Option.bind_some, cI_v, cL_v, cF_v, cD_v, cR_v, cV_v, cI_x, cL_x, cR_x, cV_x, gz_0, gz_1, acc_enc, tI_sI, tL_sI, tR_sI, tN_sI, tZ_sI, tC_sI, tc_sI, tz_sI, tI_sL, tL_sL, tR_sL, tN_sL, tZ_sL, tC_sL, tc_sL, tz_sL, tI_sR, tL_sR, tR_sR, tN_sR, tZ_sR, tC_sR, tc_sR, tz_sR, tI_sZ, tL_sZ, tR_sZ, tN_sZ, tZ_sZ, tC_sZ, tc_sZ, tz_sZ, tI_sC, tL_sC, tR_sC, tN_sC, tZ_sC, tC_sC, tc_sC, tz_sC, tI_aC, tL_aC, tR_aC, tN_aC, tZ_aC, tC_aC, tc_aC, tz_aC, tI_rmL, tL_rmL, tR_rmL, tN_rmL, tZ_rmL, tC_rmL, tc_rmL, tz_rmL, tI_mk, tL_mk, tR_mk, tN_mk, tZ_mk, tC_mk, tc_mk, tz_mk, tI_pushL, tL_pushL, tR_pushL, tN_pushL, tZ_pushL, tC_pushL, tc_pushL, tz_pushL, tI_pushB, tL_pushB, tR_pushB, tN_pushB, tZ_pushB, tC_pushB, tc_pushB, tz_pushB, tI_cpL, tL_cpL, tR_cpL, tN_cpL, tZ_cpL, tC_cpL, tc_cpL, tz_cpL, eq_self, true_and, and_true, false_and, and_false, if_true, if_false, reduceIte, ite_true, ite_false, not_true_eq_false, not_false_eq_true, gq hq qq1, q1', h7]
      rw [nob_enc (by decide +kernel)]
      rw [hnF]
      dsimp only
      rw [qm, Option.bind_some, f214, cV_v]
  have hSt : tI a 31 0 1 = tI b 95 0 3 := (r_H hR).2.2.2.2.1
  have sSt : tI (sw0 a p) 31 0 1 = tI b 95 0 3 := (s1 31 _ _ (by decide)).trans hSt
  obtain ⟨s8a, s8b, s8c, s8d, s8e, s8f, s8g⟩ := s8
  have hqs : (qs : Nat) = qs := rfl
  have ng : ∀ w', groQ b (ml1 (ml0 b (Int32.ofNat p)) (tN b 81) w') := fun w' s hs => by
    obtain ⟨e1, e2, e3, e4, e5, e6, e7, e8⟩ := ml_eq b (Int32.ofNat p) w'
    by_cases e : s = 81
    · subst e
      exact ⟨by rw [e4]; omega, fun i hi k => e5 i k hi⟩
    · exact ⟨Nat.le_of_eq (e3 s e).symm, fun i _ k => e1 s i k e⟩
  -- without a note
  have plain : ∀ w w' : Int32, (w = 1 ∧ w' = 1 ∨ w = 2 ∧ w' = 0) → (w = 1 → ∃ j, j < tZ a 15 0 ∧ ntP a j = Int32.ofNat p) → (w = 2 → (∀ k, k < tZ a 15 0 → ntP a k ≠ Int32.ofNat p) ∧ SwD b cd m) → (∀ z, Ex 64 [aR (some (31, 0)), aR (some (10, r))] (enc 1 a z) = some (.inl (some (aR (some (16, tN a 16)))), enc 1 (swF (sw0 a p) (tN a 16) w) z)) → (∀ z, Ex 208 [aR (some (95, 0)), aI (Int32.ofNat sh), aR (some (qs, qi))] (enc 2 b z) = cV (Ex 194 [aR (some (95, 0)), aI (Int32.ofNat sh), aR (some (81, tN b 81))] (enc 2 (ml1 (ml0 b (Int32.ofNat p)) (tN b 81) w') z)) (fun h => some (.inl none, h)) xT) →
      ∃ a' b', (∀ z, Ex 64 [aR (some (31, 0)), aR (some (10, r))] (enc 1 a z) = some (.inl (some (aR (some (16, tN a 16)))), enc 1 a' z)) ∧ (∀ z, Ex 208 [aR (some (95, 0)), aI (Int32.ofNat sh), aR (some (qs, qi))] (enc 2 b z) = cV (Ex 194 [aR (some (95, 0)), aI (Int32.ofNat sh), aR (some (81, tN b 81))] (enc 2 b' z)) (fun h => some (.inl none, h)) xT) ∧
      AnsM a' b' 16 (tN a 16) (81, tN b 81) p ∧ R0 a' b' ∧ Nt a' b' ∧ chF [15, 16, 17] [] a a' ∧ chF [71, 72, 73, 81] [(95, 4)] b b' ∧ groQ b b' ∧ gro a a' 17 ∧ Wr a a' ∧ Wr b b' ∧ (tN a' 16 ≤ tN a 16 + 1 ∧ tN a' 17 ≤ tN a 17 + 1 ∧ tN b' 81 = tN b 81 + 1) ∧ SwP a a' p ∧ SwC a b a' b' p cd m (tI a' 16 (tN a 16) 8) := by
    intro w w' hw hwj hwd hA hB
    obtain ⟨e1, e2, e3, e4, e5, e6, e7, e8a, e8b, e8c, e8d, e8e, e8f, e8g, e8h, e8i⟩ := ml_eq b (Int32.ofNat p) w'
    obtain ⟨t1, t2, t3, t4, t5, t6, t7⟩ := swF_eq (sw0 a p) (tN a 16) w
    have ca : chF [16] [] a (swF (sw0 a p) (tN a 16) w) := chF_t s6 t6
    have wa : Wr a (swF (sw0 a p) (tN a 16) w) := s7.t t7
    have hR' : R0 (swF (sw0 a p) (tN a 16) w) (ml1 (ml0 b (Int32.ofNat p)) (tN b 81) w') := sw_R0 hR (chF_m ca (by simp) (by simp)) (chF_m e6 (by simp) (by simp)) (gro_c ca (by decide)) wa e7
    have hN' : Nt (swF (sw0 a p) (tN a 16) w) (ml1 (ml0 b (Int32.ofNat p)) (tN b 81) w') := Nt_c hN0 ca e6 (by decide) (by decide) (PM_c ca e6 (by decide) (by decide)) (gro_c ca (by decide)) (ng w')
    have t7' : tI (swF (sw0 a p) (tN a 16) w) 16 (tN a 16) 7 = 2 := by rw [t2 7 (by decide) (by decide)]; exact s8d
    have hSw : SwP a (swF (sw0 a p) (tN a 16) w) p := by
      have z : tZ (swF (sw0 a p) (tN a 16) w) 15 0 = tZ a 15 0 := dZ ca (S := [15]) (P := []) (s := 15) (by decide) (by simp) 0
      have o : ∀ k, k < tZ a 15 0 → ntP (swF (sw0 a p) (tN a 16) w) k = ntP a k := fun k hk => (ntPC_c (n3 k hk) (gro_c ca (by decide)) (dR ca (S := [15]) (P := []) (s := 15) (by decide) (by simp) 0 k)).1
      refine ⟨fun k hk => ⟨by rw [z]; exact hk, o k hk⟩, fun e => ?_, fun k hk => Or.inr ⟨k, by rw [← z]; exact hk, o k (by rw [← z]; exact hk)⟩, t7'⟩
      rw [t3] at e
      obtain ⟨j, j1, j2⟩ := hwj e
      exact ⟨j, by rw [z]; exact j1, (o j j1).trans j2⟩
    have hSc : SwC a b (swF (sw0 a p) (tN a 16) w) (ml1 (ml0 b (Int32.ofNat p)) (tN b 81) w') p cd m (tI (swF (sw0 a p) (tN a 16) w) 16 (tN a 16) 8) := by
      have z : tZ (swF (sw0 a p) (tN a 16) w) 15 0 = tZ a 15 0 := dZ ca (S := [15]) (P := []) (s := 15) (by decide) (by simp) 0
      have o : ∀ k, k < tZ a 15 0 → ntP (swF (sw0 a p) (tN a 16) w) k = ntP a k := fun k hk => (ntPC_c (n3 k hk) (gro_c ca (by decide)) (dR ca (S := [15]) (P := []) (s := 15) (by decide) (by simp) 0 k)).1
      rw [t3]
      refine ⟨fun e => Or.inl (hwj e), fun e => ⟨fun k hk => ?_, (hwd e).2⟩, fun k _ hk => by rw [e1 73 _ _ (by decide)]; exact hk, e1 95 _ _ (by decide)⟩
      rw [z] at hk
      rw [o k hk]
      exact (hwd e).1 k hk
    refine ⟨_, _, hA, hB, ⟨?_, by show tN b 81 < tN (ml1 (ml0 b (Int32.ofNat p)) (tN b 81) w') 81; rw [e4]; omega, by rw [t2 0 (by decide) (by decide)]; exact s8a, by rw [t2 1 (by decide) (by decide)]; exact s8b, by rw [t2 11 (by decide) (by decide)]; exact s8f, by rw [t2 14 (by decide) (by decide)]; exact s8g, Or.inr t7', e8a, e8b, e8c, e8d, ?_, ?_, ?_, ?_, ?_⟩, hR', hN', chF_m ca (by simp) (by simp), chF_m e6 (by simp) (by simp), ng w', gro_c ca (by decide), wa, e7, ⟨?_, ?_, e4⟩, hSw, hSc⟩
    · show tN a 16 < tN (swF (sw0 a p) (tN a 16) w) 16
      rw [show tN (swF (sw0 a p) (tN a 16) w) 16 = tN (sw0 a p) 16 from congrArg (fun q => q.2.2.1 16) t5]
      exact h16
    · rw [t7', if_neg (by decide)]
      exact e8e
    · rw [t3]
      rcases hw with ⟨h1, h2⟩ | ⟨h1, h2⟩
      · exact Or.inl ⟨h1, e8f.trans h2⟩
      · exact Or.inr ⟨h1, e8f.trans h2⟩
    · rw [t4]
      rcases hw with ⟨h1, h2⟩ | ⟨h1, h2⟩
      · rw [h1, if_pos rfl]
        refine e8g.trans ?_
        rw [h2, if_neg (by decide)]
      · rw [h1, if_neg (by decide)]
        refine e8g.trans ?_
        rw [h2, if_pos rfl]
    · rw [t2 6 (by decide) (by decide)]
      exact e8h.trans s8c.symm
    · rw [t2 10 (by decide) (by decide)]
      exact e8i.trans s8e.symm
    · rw [show tN (swF (sw0 a p) (tN a 16) w) 16 = tN (sw0 a p) 16 from congrArg (fun q => q.2.2.1 16) t5, h16']
      exact Nat.le_refl _
    · rw [show tN (swF (sw0 a p) (tN a 16) w) 17 = tN (sw0 a p) 17 from congrArg (fun q => q.2.2.1 17) t5, s3 17 (by decide)]
      omega
  have nq81 : ¬ ((qs, qi).1 = 81 ∧ (qs, qi).2 = tN b 81) := q81
  by_cases hx : ∃ j, j < tZ a 15 0 ∧ ntP a j = Int32.ofNat p
  · -- it has the note
    rcases least (P := fun j => ntP a j = Int32.ofNat p) (tZ a 15 0) with h0 | ⟨j, j1, j2, j3⟩
    · obtain ⟨j, j1, j2⟩ := hx
      exact absurd j2 (h0 j j1)
    · refine plain 1 1 (Or.inl ⟨rfl, rfl⟩) (fun _ => hx) (fun q => absurd q (by decide)) (fun z => ?_) (fun z => ?_)
      · refine ends z 1 (sw0 a p) (fun z => ?_) h16 (Or.inr rfl)
        rw [start, to z j (by omega) (fun k hk => by rw [(eP k (by omega)).1]; exact j3 k hk)]
        exact x65_yes (p := Int32.ofNat p) _ hfs hr' (by rw [s1 10 _ _ (by decide)]; exact m1) z15 (by omega) rows j1 (by rw [(eP j j1).1]; exact j2)
      · rw [goB z 1 (Or.inr rfl) ((y7 z).1 hx), if_neg (by decide), if_neg (by decide)]
        by_cases hn199 : tZ a 15 0 < 200
        · rw [y208_end (b := ml0 b (Int32.ofNat p)) (i := tN b 81) (sh := sh) (cd := cd) (n := tZ a 15 0) (q := (qs, qi)) 0 1 hf0 hi81 (Or.inr rfl) (by rw [m95]; exact n2) hn199 hq hqi0 ((hq0 2).trans q2) hcd8 nq81, if_pos (Or.inr rfl)]
        · -- the rows are full: nothing is read of them
          rw [lf_208_66]
          unfold ml1
          have hi81' : tN b 81 < tN (ml0 b (Int32.ofNat p)) 81 := hi81
          generalize ml0 b (Int32.ofNat p) = M at *
          simp (config := {decide := true}) only [gfI_enc, gfL_enc, gfR_enc, pfI_enc, pfL_enc, pfR_enc, Option.bind_some, cI_v, cL_v, cF_v, cD_v, cR_v, cV_v, cI_x, cL_x, cR_x, cV_x, gz_0, gz_1, acc_enc, tI_sI, tL_sI, tR_sI, tN_sI, tZ_sI, tC_sI, tc_sI, tz_sI, tI_sL, tL_sL, tR_sL, tN_sL, tZ_sL, tC_sL, tc_sL, tz_sL, tI_sR, tL_sR, tR_sR, tN_sR, tZ_sR, tC_sR, tc_sR, tz_sR, tI_sZ, tL_sZ, tR_sZ, tN_sZ, tZ_sZ, tC_sZ, tc_sZ, tz_sZ, tI_sC, tL_sC, tR_sC, tN_sC, tZ_sC, tC_sC, tc_sC, tz_sC, tI_aC, tL_aC, tR_aC, tN_aC, tZ_aC, tC_aC, tc_aC, tz_aC, tI_rmL, tL_rmL, tR_rmL, tN_rmL, tZ_rmL, tC_rmL, tc_rmL, tz_rmL, tI_mk, tL_mk, tR_mk, tN_mk, tZ_mk, tC_mk, tc_mk, tz_mk, tI_pushL, tL_pushL, tR_pushL, tN_pushL, tZ_pushL, tC_pushL, tc_pushL, tz_pushL, tI_pushB, tL_pushB, tR_pushB, tN_pushB, tZ_pushB, tC_pushB, tc_pushB, tz_pushB, tI_cpL, tL_cpL, tR_cpL, tN_cpL, tZ_cpL, tC_cpL, tc_cpL, tz_cpL, eq_self, true_and, and_true, false_and, and_false, if_true, if_false, reduceIte, ite_true, ite_false, not_true_eq_false, not_false_eq_true, hi81']
  · have hne : ∀ k, k < tZ a 15 0 → ntP a k ≠ Int32.ofNat p := fun k hk e => hx ⟨k, hk, e⟩
    -- p is not among the notes: there is room
    have hn199 : tZ a 15 0 < 200 := by
      have := pig (tZ a 29 0) (tZ a 15 0 + 1) (fun k => if k < tZ a 15 0 then (ntP a k).toNatClampNeg else p) (fun k hk => by
        split
        · rename_i h
          obtain ⟨i, q, p', cd, c, sh, i1, i2, -, -, -, i6, -, -, -, ⟨j1, -⟩, -⟩ := n3 k h
          unfold ntP
          rw [i2]
          dsimp only
          rw [j1, o_ix (by omega)]
          exact i6
        · exact hp) (fun k k' hk hk' e => by
        have ep : ∀ k, k < tZ a 15 0 → ∃ p, p < tZ a 29 0 ∧ ntP a k = Int32.ofNat p := fun k hk => by
          obtain ⟨i, q, p, cd, c, sh, i1, i2, -, -, -, i6, -, -, -, ⟨j1, -⟩, -⟩ := n3 k hk
          refine ⟨p, i6, ?_⟩
          unfold ntP
          rw [i2]
          exact j1
        split at e <;> split at e
        · rename_i h1 h2
          obtain ⟨u, u1, u2⟩ := ep k h1
          obtain ⟨v, v1, v2⟩ := ep k' h2
          rw [u2, v2, o_ix (by omega), o_ix (by omega)] at e
          rcases Nat.lt_trichotomy k k' with l | l | l
          · exact absurd (by rw [u2, v2, e]) (n4 k k' l h2)
          · exact l
          · exact absurd (by rw [u2, v2, e]) (n4 k' k l h1)
        · rename_i h1 h2
          obtain ⟨u, u1, u2⟩ := ep k h1
          rw [u2, o_ix (by omega)] at e
          exact absurd (by rw [u2, e]) (hne k h1)
        · rename_i h1 h2
          obtain ⟨u, u1, u2⟩ := ep k' h2
          rw [u2, o_ix (by omega)] at e
          exact absurd (by rw [u2, e]) (hne k' h2)
        · omega)
      omega
    have cnE : (List.range (tZ a 15 0)).countP (fun k => ntC (sw0 a p) k == Int32.ofNat cd) = (List.range (tZ a 15 0)).countP (fun k => ntC a k == Int32.ofNat cd) := countP_range_congr (fun k hk => by rw [(eP k hk).2])
    have n5' := n5 cd hcd8
    have cnle : (List.range (tZ a 15 0)).countP (fun k => ntC a k == Int32.ofNat cd) ≤ 200 := by
      have := List.countP_le_length (p := fun k => ntC a k == Int32.ofNat cd) (l := List.range (tZ a 15 0))
      rw [List.length_range] at this
      omega
    generalize hcn : (List.range (tZ a 15 0)).countP (fun k => ntC a k == Int32.ofNat cd) = cn at *
    have at_end : ∀ z, Ex 65 [aR (some (31, 0)), aR (some (10, r))] (enc 1 (sw0 a p) z) = if tI (sw0 a p) 31 0 1 < m then some (.inl (some (aI 0)), enc 1 (sw0 a p) z) else if cn < 3 then some (.inl (some (aI 1)), enc 1 (nt1 (sw0 a p) r p) z) else some (.inl (some (aI 0)), enc 1 (sw0 a p) z) := fun z => by
      rw [start, to z (tZ a 15 0) (Nat.le_refl _) (fun k hk => by rw [(eP k hk).1]; exact hne k hk), cnE]
      exact x65_end (X := sw0 a p) (r := r) (p := p) (m := m) hfs hr' (by rw [s1 10 _ _ (by decide)]; exact hb14) (by rw [s1 10 _ _ (by decide)]; exact m1) (by rw [s1 10 _ _ (by decide)]; exact m5) z15 hn200 (by rw [z15, c15]; exact nc1) (by rw [c15]; exact (show tC a 15 0 < 50000 by omega)) cnle
    have goB' := fun z => goB z 0 (Or.inl rfl) ((y7 z).2 hne)
    have c3 : (3 : Int32) ≤ tI b 73 0 cd ↔ 3 ≤ cn := by rw [n5']; exact o_le (n := 3) (by omega) (by omega)
    have endB : ∀ (v3 s1 : Int32), (s1 = 0 ∨ s1 = 1) → ∀ z, _ := fun v3 s1 hs z => y208_end (b := ml0 b (Int32.ofNat p)) (z := z) (i := tN b 81) (sh := sh) (cd := cd) (n := tZ a 15 0) (q := (qs, qi)) v3 s1 hf0 hi81 hs (by rw [m95]; exact n2) hn199 hq hqi0 ((hq0 2).trans q2) hcd8 nq81
    by_cases d1 : tI b 95 0 3 < m
    · refine plain 2 0 (Or.inr ⟨rfl, rfl⟩) (fun q => absurd q (by decide)) (fun _ => ⟨hne, Or.inl d1⟩) (fun z => ?_) (fun z => ?_)
      · refine ends z 0 (sw0 a p) (fun z => ?_) h16 (Or.inl rfl)
        rw [at_end, if_pos (by rw [sSt]; exact d1)]
      · rw [goB', if_pos rfl, if_pos rfl, if_pos d1, endB 1 0 (Or.inl rfl), if_pos (Or.inl rfl)]
    · by_cases d2 : cn < 3
      · -- a new note
        have d2' : ¬ (3 : Int32) ≤ tI b 73 0 cd := fun z => by have := c3.mp z; omega
        have hX15 : tZ (sw0 a p) 15 0 ≤ tC (sw0 a p) 15 0 := by rw [z15, c15]; exact nc1
        obtain ⟨u1, u2, u3, u4, u5, u6, u7, u8, u9⟩ := nt1_eq (sw0 a p) r p hX15 (fcN_15 hfs)
        obtain ⟨t1, t2, t3, t4, t5, t6, t7⟩ := swF_eq (nt1 (sw0 a p) r p) (tN a 16) 1
        obtain ⟨e1, e2, e3, e4, e5, e6, e7, e8a, e8b, e8c, e8d, e8e, e8f, e8g, e8h, e8i⟩ := ml_eq b (Int32.ofNat p) 1
        obtain ⟨v1, v2, v3, v4, v5, v6, v7, v8, v9⟩ := ntB_eq (ml1 (ml0 b (Int32.ofNat p)) (tN b 81) 1) (tZ a 15 0) cd sh (qs, qi)
        have hA : ∀ z, Ex 64 [aR (some (31, 0)), aR (some (10, r))] (enc 1 a z) = some (.inl (some (aR (some (16, tN a 16)))), enc 1 (swF (nt1 (sw0 a p) r p) (tN a 16) 1) z) := fun z => by
          refine ends z 1 (nt1 (sw0 a p) r p) (fun z => ?_) (by rw [u4, if_neg (by decide)]; exact h16) (Or.inr rfl)
          rw [at_end, if_neg (by rw [sSt]; exact d1), if_pos d2]
        have hB : ∀ z, Ex 208 [aR (some (95, 0)), aI (Int32.ofNat sh), aR (some (qs, qi))] (enc 2 b z) = cV (Ex 194 [aR (some (95, 0)), aI (Int32.ofNat sh), aR (some (81, tN b 81))] (enc 2 (ntB (ml1 (ml0 b (Int32.ofNat p)) (tN b 81) 1) (tZ a 15 0) cd sh (qs, qi)) z)) (fun h => some (.inl none, h)) xT := fun z => by
          rw [goB', if_pos rfl, if_pos rfl, if_neg d1, if_neg d2', endB 1 1 (Or.inr rfl), if_neg (fun z => by rcases z with z | z <;> exact absurd z (by decide))]
        have ca : chF [15, 16, 17] [] a (swF (nt1 (sw0 a p) r p) (tN a 16) 1) := chF_t (chF_m s6 (by simp) (by simp)) (chF_t (chF_m u7 (by simp) (by simp)) (chF_m t6 (by simp) (by simp)))
        have cb : chF [71, 72, 73, 81] [(95, 4)] b (ntB (ml1 (ml0 b (Int32.ofNat p)) (tN b 81) 1) (tZ a 15 0) cd sh (qs, qi)) := chF_t (chF_m e6 (by simp) (by simp)) (chF_m v8 (by simp) (by simp))
        have wa : Wr a (swF (nt1 (sw0 a p) r p) (tN a 16) 1) := (s7.t u8).t t7
        have wb : Wr b (ntB (ml1 (ml0 b (Int32.ofNat p)) (tN b 81) 1) (tZ a 15 0) cd sh (qs, qi)) := e7.t v9
        have N17 : tN (swF (nt1 (sw0 a p) r p) (tN a 16) 1) 17 = tN a 17 + 1 := by
          have : tN (swF (nt1 (sw0 a p) r p) (tN a 16) 1) 17 = tN (nt1 (sw0 a p) r p) 17 := congrArg (fun q => q.2.2.1 17) t5
          rw [this, u4, if_pos rfl, s3 17 (by decide)]
        have g17' : gro a (swF (nt1 (sw0 a p) r p) (tN a 16) 1) 17 := ⟨by rw [N17]; omega, fun i hi k => by rw [t1 17 _ _ (by decide), u1 17 _ _ (fun q => by have := q.2; rw [s3 17 (by decide)] at this; omega), s1 17 _ _ (by decide)]⟩
        have gQ : groQ b (ntB (ml1 (ml0 b (Int32.ofNat p)) (tN b 81) 1) (tZ a 15 0) cd sh (qs, qi)) := groQ_t (ng 1) (groQ_c v8 (by decide +kernel))
        have hR' := sw_R0 hR ca cb g17' wa wb
        have hPM := PM_c ca cb (by decide) (by decide)
        have fR : ∀ k, tR (swF (nt1 (sw0 a p) r p) (tN a 16) 1) 15 0 k = if k = tZ a 15 0 then some (17, tN a 17) else tR a 15 0 k := fun k => by
          have : tR (swF (nt1 (sw0 a p) r p) (tN a 16) 1) 15 0 k = tR (nt1 (sw0 a p) r p) 15 0 k := congrArg (fun q => q.2.1 15 0 k) t5
          rw [this]
          by_cases e : k = tZ a 15 0
          · rw [if_pos e, e]
            have q := u3
            rw [z15, s3 17 (by decide)] at q
            exact q
          · rw [if_neg e, u2 15 _ _ (by decide) (fun q => e (q.2.2.trans z15)), s2 15 _ _ (by decide)]
        have fZ : tZ (swF (nt1 (sw0 a p) r p) (tN a 16) 1) 15 0 = tZ a 15 0 + 1 := by
          have : tZ (swF (nt1 (sw0 a p) r p) (tN a 16) 1) 15 0 = tZ (nt1 (sw0 a p) r p) 15 0 := congrArg (fun q => q.2.2.2.1 15 0) t5
          rw [this, u5, z15]
        have fC : tC (swF (nt1 (sw0 a p) r p) (tN a 16) 1) 15 0 = if tZ a 15 0 < tC a 15 0 then tC a 15 0 else liC (tC a 15 0) (tZ a 15 0) := by
          have : tC (swF (nt1 (sw0 a p) r p) (tN a 16) 1) 15 0 = tC (nt1 (sw0 a p) r p) 15 0 := congrArg (fun q => q.2.2.2.2.1 15 0) t5
          rw [this, u6, z15, c15]
        have f17 : ∀ f, 1 ≤ f ∧ f ≤ 6 → tI (swF (nt1 (sw0 a p) r p) (tN a 16) 1) 17 (tN a 17) f = tI a 10 r f := fun f hf => by
          have q := u9 f hf
          rw [s3 17 (by decide), s1 10 _ _ (by decide)] at q
          rw [t1 17 _ _ (by decide)]
          exact q
        have b71 : ∀ k, tR (ntB (ml1 (ml0 b (Int32.ofNat p)) (tN b 81) 1) (tZ a 15 0) cd sh (qs, qi)) 71 0 k = if k = tZ a 15 0 then some (qs, qi) else tR b 71 0 k := fun k => by rw [v4, e2 71 _ _ (by decide)]
        have b72 : ∀ k, tI (ntB (ml1 (ml0 b (Int32.ofNat p)) (tN b 81) 1) (tZ a 15 0) cd sh (qs, qi)) 72 0 k = if k = tZ a 15 0 then Int32.ofNat sh else tI b 72 0 k := fun k => by rw [v5, e1 72 _ _ (by decide)]
        have old : ∀ k, k < tZ a 15 0 → ntM (swF (nt1 (sw0 a p) r p) (tN a 16) 1) (ntB (ml1 (ml0 b (Int32.ofNat p)) (tN b 81) 1) (tZ a 15 0) cd sh (qs, qi)) k := fun k hk => ntM_c (n3 k hk) hPM g17' (by rw [fR, if_neg (by omega)]) (by rw [b71, if_neg (by omega)]) gQ (by rw [b72, if_neg (by omega)])
        have oldPC : ∀ k, k < tZ a 15 0 → ntP (swF (nt1 (sw0 a p) r p) (tN a 16) 1) k = ntP a k ∧ ntC (swF (nt1 (sw0 a p) r p) (tN a 16) 1) k = ntC a k := fun k hk => ntPC_c (n3 k hk) g17' (by rw [fR, if_neg (by omega)])
        have newP : ntP (swF (nt1 (sw0 a p) r p) (tN a 16) 1) (tZ a 15 0) = Int32.ofNat p := by
          unfold ntP
          rw [fR, if_pos rfl]
          exact (f17 1 (by omega)).trans m1
        have newC : ntC (swF (nt1 (sw0 a p) r p) (tN a 16) 1) (tZ a 15 0) = Int32.ofNat cd := by
          unfold ntC
          rw [fR, if_pos rfl]
          exact (f17 2 (by omega)).trans m2
        have hN' : Nt (swF (nt1 (sw0 a p) r p) (tN a 16) 1) (ntB (ml1 (ml0 b (Int32.ofNat p)) (tN b 81) 1) (tZ a 15 0) cd sh (qs, qi)) := by
          refine ⟨?_, by rw [v7, if_pos rfl, fZ], fun k hk => ?_, fun k k' hk hk' => ?_, fun cd' hcd' => ?_, fun z => ?_, ?_, ?_⟩
          · unfold capOK
            rw [fZ, fC]
            split
            · omega
            · rename_i h
              exact liC_le2 nc1 h (by omega) nc3
          · rw [fZ] at hk
            by_cases e : k = tZ a 15 0
            · subst e
              obtain ⟨w1, w2⟩ := gQ qs hq
              refine ⟨tN a 17, (qs, qi), p, cd, c, sh, by rw [N17]; omega, by rw [fR, if_pos rfl], by rw [b71, if_pos rfl], hq, Nat.lt_of_lt_of_le hqi w1, Nat.lt_of_lt_of_le hp hPM.1, Nat.lt_of_lt_of_le hcd hPM.2.1, hc, Nat.lt_of_lt_of_le hsh hPM.2.2.1, ?_, ?_, by rw [b72, if_pos rfl], ?_⟩
              · rw [(hPM.2.2.2 p hp).2.2.1, PM_pst hPM hp]
                exact ⟨(f17 1 (by omega)).trans m1, (f17 2 (by omega)).trans m2, (f17 3 (by omega)).trans m3, (f17 4 (by omega)).trans m4, (f17 5 (by omega)).trans (m5.trans p3.symm), (f17 6 (by omega)).trans (m6.trans hst)⟩
              · rw [(hPM.2.2.2 p hp).2.2.1, PM_pst hPM hp]
                exact ⟨(w2 qi hqi 1).trans q1, (w2 qi hqi 2).trans q2, (w2 qi hqi 3).trans q3, (w2 qi hqi 4).trans (q4.trans p3.symm), (w2 qi hqi 5).trans (q5.trans hst)⟩
              · rw [(hPM.2.2.2 p hp).1, (hPM.2.2.2 p hp).2.1, (hPM.2.2.2 p hp).2.2.2]
                exact ⟨p1, p2, p4⟩
            · exact old k (by omega)
          · rw [fZ] at hk'
            by_cases e : k' = tZ a 15 0
            · rw [e, newP, (oldPC k (by omega)).1]
              exact hne k (by omega)
            · rw [(oldPC k (by omega)).1, (oldPC k' (by omega)).1]
              exact n4 k k' hk (by omega)
          · rw [v6, fZ, countP_range_succ, newC, countP_range_congr (q := fun k => ntC a k == Int32.ofNat cd') (fun k hk => by rw [(oldPC k hk).2]), beq_ofNat (by omega) (by omega), e1 73 _ _ (by decide), e1 73 _ _ (by decide)]
            by_cases e : cd' = cd
            · subst e
              rw [if_pos rfl, n5', hcn, o_s]
              simp
            · rw [if_neg e, n5 cd' hcd']
              have : ¬ (cd == cd') = true := fun q => e (eq_of_beq q).symm
              rw [if_neg this, Nat.add_zero]
          · rw [v7, if_neg (by decide), e1 95 _ _ (by decide)] at z
            exact absurd hcl z
          · rw [dI ca (S := []) (P := [(31, 2)]) (s := 31) (k := 2) (by decide) (by simp), v7, if_neg (by decide), e1 95 _ _ (by decide)]
            exact n6.2.1
          · rw [v7, if_neg (by decide), e1 95 _ _ (by decide)]
            exact n6.2.2
        have t7' : tI (swF (nt1 (sw0 a p) r p) (tN a 16) 1) 16 (tN a 16) 7 = 2 := by rw [t2 7 (by decide) (by decide), u1 16 _ _ (fun q => absurd q.1 (by decide))]; exact s8d
        have tt : ∀ k, ¬ k = 8 → ¬ k = 9 → tI (swF (nt1 (sw0 a p) r p) (tN a 16) 1) 16 (tN a 16) k = tI (sw0 a p) 16 (tN a 16) k := fun k h1 h2 => by rw [t2 k h1 h2, u1 16 _ _ (fun q => absurd q.1 (by decide))]
        have vv : ∀ k, tI (ntB (ml1 (ml0 b (Int32.ofNat p)) (tN b 81) 1) (tZ a 15 0) cd sh (qs, qi)) 81 (tN b 81) k = tI (ml1 (ml0 b (Int32.ofNat p)) (tN b 81) 1) 81 (tN b 81) k := fun k => v1 81 _ _ (by decide) (by decide) (by decide)
        refine ⟨_, _, hA, hB, ⟨?_, ?_, (tt 0 (by decide) (by decide)).trans s8a, (tt 1 (by decide) (by decide)).trans s8b, (tt 11 (by decide) (by decide)).trans s8f, (tt 14 (by decide) (by decide)).trans s8g, Or.inr t7', (vv 0).trans e8a, (vv 1).trans e8b, (vv 7).trans e8c, (vv 13).trans e8d, ?_, Or.inl ⟨t3, (vv 11).trans e8f⟩, ?_, ?_, ?_⟩, hR', hN', ca, cb, gQ, g17', wa, wb, ⟨?_, ?_, ?_⟩, ⟨fun k hk => ⟨by rw [fZ]; omega, (oldPC k hk).1⟩, fun _ => ⟨tZ a 15 0, by rw [fZ]; omega, newP⟩, fun k hk => ?_, t7'⟩, ⟨fun _ => Or.inr (fun q => q.elim d1 d2'), fun q => ?_, fun k _ hk => ?_, ?_⟩⟩
        · have : tN (swF (nt1 (sw0 a p) r p) (tN a 16) 1) 16 = tN (nt1 (sw0 a p) r p) 16 := congrArg (fun q => q.2.2.1 16) t5
          rw [this, u4, if_neg (by decide)]
          exact h16
        · show tN b 81 < tN (ntB (ml1 (ml0 b (Int32.ofNat p)) (tN b 81) 1) (tZ a 15 0) cd sh (qs, qi)) 81
          rw [v3, e4]
          omega
        · rw [t7', if_neg (by decide)]
          exact (vv 12).trans e8e
        · rw [t4, if_pos rfl]
          refine (vv 9).trans (e8g.trans ?_)
          rw [if_neg (by decide)]
        · rw [tt 6 (by decide) (by decide)]
          exact (vv 5).trans (e8h.trans s8c.symm)
        · rw [tt 10 (by decide) (by decide)]
          exact (vv 10).trans (e8i.trans s8e.symm)
        · have : tN (swF (nt1 (sw0 a p) r p) (tN a 16) 1) 16 = tN (nt1 (sw0 a p) r p) 16 := congrArg (fun q => q.2.2.1 16) t5
          rw [this, u4, if_neg (by decide), h16']
          exact Nat.le_refl _
        · have : tN (swF (nt1 (sw0 a p) r p) (tN a 16) 1) 17 = tN (nt1 (sw0 a p) r p) 17 := congrArg (fun q => q.2.2.1 17) t5
          rw [this, u4, if_pos rfl, s3 17 (by decide)]
          exact Nat.le_refl _
        · show tN (ntB (ml1 (ml0 b (Int32.ofNat p)) (tN b 81) 1) (tZ a 15 0) cd sh (qs, qi)) 81 = _
          rw [v3, e4]
        · rw [fZ] at hk
          by_cases e : k = tZ a 15 0
          · rw [e]
            exact Or.inl newP
          · exact Or.inr ⟨k, by omega, (oldPC k (by omega)).1⟩
        · rw [t3] at q
          exact absurd q (by decide)
        · rw [v6, e1 73 _ _ (by decide), e1 73 _ _ (by decide)]
          by_cases e : k = cd
          · rw [e] at hk
            exact absurd hk d2'
          · rw [if_neg e]
            exact hk
        · rw [v7, if_neg (by decide), e1 95 _ _ (by decide)]
      · have d2' : (3 : Int32) ≤ tI b 73 0 cd := c3.mpr (by omega)
        refine plain 2 0 (Or.inr ⟨rfl, rfl⟩) (fun q => absurd q (by decide)) (fun _ => ⟨hne, Or.inr d2'⟩) (fun z => ?_) (fun z => ?_)
        · refine ends z 0 (sw0 a p) (fun z => ?_) h16 (Or.inl rfl)
          rw [at_end, if_neg (by rw [sSt]; exact d1), if_neg d2]
        · rw [goB', if_pos rfl, if_pos rfl, if_neg d1, if_pos d2', endB 1 0 (Or.inl rfl), if_pos (Or.inl rfl)]
