/-! ===== an ASK is answered: the class's steps ===== -/
def askC (X : TS) (j i r p : Nat) : TS :=
  let B0 := cpL (mk X 6 0 0 15) 6 (tN X 6) (iniM 1 (Int32.ofNat p)) [2, 3, 4, 5, 6, 7, 8, 9, 10, 11, 12, 13, 14, 0, 1]
  let B1 := cpL B0 6 (tN X 6) (tI B0 10 r) [0, 1, 2, 3, 4, 5, 6, 7, 8, 9, 10, 11, 14]
  sR (sR B1 4 j 0 (some (6, tN X 6))) 4 j 1 (some (5, i))
theorem askC_ans (a : TS) (j cd i r p : Nat) : askC (sI a 37 cd 13 0) j i r p = ansA a j cd i r p := rfl
def hldA (a : TS) (j t : Nat) (m : Int32) : TS := if tR a 4 j 4 = none then sL (sR (sI a 4 j 3 m) 4 j 4 (some (35, t))) 35 t 1 (tL a 35 t 1 + m.toInt64) else a
theorem askC_eq (X : TS) (j i r p : Nat) : (∀ s x k, ¬ s = 6 → tI (askC X j i r p) s x k = tI X s x k) ∧ (∀ s x k, ¬ s = 4 → ¬ s = 6 → tR (askC X j i r p) s x k = tR X s x k) ∧ (∀ x k, ¬ k = 0 → ¬ k = 1 → tR (askC X j i r p) 4 x k = tR X 4 x k) ∧ (∀ s x k, ¬ s = 6 → tL (askC X j i r p) s x k = tL X s x k) ∧ (∀ s, ¬ s = 6 → tN (askC X j i r p) s = tN X s) := by
  refine ⟨fun s x k h => ?_, fun s x k h1 h2 => ?_, fun x k h1 h2 => ?_, fun s x k h => ?_, fun s h => ?_⟩ <;> unfold askC
  · simp (config := {decide := true}) only [gfI_enc, gfL_enc, gfR_enc, pfI_enc, pfL_enc, pfR_enc, Option.bind_some, cI_v, cL_v, cF_v, cD_v, cR_v, cV_v, cI_x, cL_x, cR_x, cV_x, gz_0, gz_1, acc_enc, tI_sI, tL_sI, tR_sI, tN_sI, tZ_sI, tC_sI, tc_sI, tz_sI, tI_sL, tL_sL, tR_sL, tN_sL, tZ_sL, tC_sL, tc_sL, tz_sL, tI_sR, tL_sR, tR_sR, tN_sR, tZ_sR, tC_sR, tc_sR, tz_sR, tI_sZ, tL_sZ, tR_sZ, tN_sZ, tZ_sZ, tC_sZ, tc_sZ, tz_sZ, tI_sC, tL_sC, tR_sC, tN_sC, tZ_sC, tC_sC, tc_sC, tz_sC, tI_aC, tL_aC, tR_aC, tN_aC, tZ_aC, tC_aC, tc_aC, tz_aC, tI_rmL, tL_rmL, tR_rmL, tN_rmL, tZ_rmL, tC_rmL, tc_rmL, tz_rmL, tI_mk, tL_mk, tR_mk, tN_mk, tZ_mk, tC_mk, tc_mk, tz_mk, tI_pushL, tL_pushL, tR_pushL, tN_pushL, tZ_pushL, tC_pushL, tc_pushL, tz_pushL, tI_pushB, tL_pushB, tR_pushB, tN_pushB, tZ_pushB, tC_pushB, tc_pushB, tz_pushB, tI_cpL, tL_cpL, tR_cpL, tN_cpL, tZ_cpL, tC_cpL, tc_cpL, tz_cpL, eq_self, true_and, and_true, false_and, and_false, if_true, if_false, reduceIte, ite_true, ite_false, not_true_eq_false, not_false_eq_true, h]
  · simp (config := {decide := true}) only [gfI_enc, gfL_enc, gfR_enc, pfI_enc, pfL_enc, pfR_enc, Option.bind_some, cI_v, cL_v, cF_v, cD_v, cR_v, cV_v, cI_x, cL_x, cR_x, cV_x, gz_0, gz_1, acc_enc, tI_sI, tL_sI, tR_sI, tN_sI, tZ_sI, tC_sI, tc_sI, tz_sI, tI_sL, tL_sL, tR_sL, tN_sL, tZ_sL, tC_sL, tc_sL, tz_sL, tI_sR, tL_sR, tR_sR, tN_sR, tZ_sR, tC_sR, tc_sR, tz_sR, tI_sZ, tL_sZ, tR_sZ, tN_sZ, tZ_sZ, tC_sZ, tc_sZ, tz_sZ, tI_sC, tL_sC, tR_sC, tN_sC, tZ_sC, tC_sC, tc_sC, tz_sC, tI_aC, tL_aC, tR_aC, tN_aC, tZ_aC, tC_aC, tc_aC, tz_aC, tI_rmL, tL_rmL, tR_rmL, tN_rmL, tZ_rmL, tC_rmL, tc_rmL, tz_rmL, tI_mk, tL_mk, tR_mk, tN_mk, tZ_mk, tC_mk, tc_mk, tz_mk, tI_pushL, tL_pushL, tR_pushL, tN_pushL, tZ_pushL, tC_pushL, tc_pushL, tz_pushL, tI_pushB, tL_pushB, tR_pushB, tN_pushB, tZ_pushB, tC_pushB, tc_pushB, tz_pushB, tI_cpL, tL_cpL, tR_cpL, tN_cpL, tZ_cpL, tC_cpL, tc_cpL, tz_cpL, eq_self, true_and, and_true, false_and, and_false, if_true, if_false, reduceIte, ite_true, ite_false, not_true_eq_false, not_false_eq_true, h1, h2]
  · simp (config := {decide := true}) only [gfI_enc, gfL_enc, gfR_enc, pfI_enc, pfL_enc, pfR_enc, Option.bind_some, cI_v, cL_v, cF_v, cD_v, cR_v, cV_v, cI_x, cL_x, cR_x, cV_x, gz_0, gz_1, acc_enc, tI_sI, tL_sI, tR_sI, tN_sI, tZ_sI, tC_sI, tc_sI, tz_sI, tI_sL, tL_sL, tR_sL, tN_sL, tZ_sL, tC_sL, tc_sL, tz_sL, tI_sR, tL_sR, tR_sR, tN_sR, tZ_sR, tC_sR, tc_sR, tz_sR, tI_sZ, tL_sZ, tR_sZ, tN_sZ, tZ_sZ, tC_sZ, tc_sZ, tz_sZ, tI_sC, tL_sC, tR_sC, tN_sC, tZ_sC, tC_sC, tc_sC, tz_sC, tI_aC, tL_aC, tR_aC, tN_aC, tZ_aC, tC_aC, tc_aC, tz_aC, tI_rmL, tL_rmL, tR_rmL, tN_rmL, tZ_rmL, tC_rmL, tc_rmL, tz_rmL, tI_mk, tL_mk, tR_mk, tN_mk, tZ_mk, tC_mk, tc_mk, tz_mk, tI_pushL, tL_pushL, tR_pushL, tN_pushL, tZ_pushL, tC_pushL, tc_pushL, tz_pushL, tI_pushB, tL_pushB, tR_pushB, tN_pushB, tZ_pushB, tC_pushB, tc_pushB, tz_pushB, tI_cpL, tL_cpL, tR_cpL, tN_cpL, tZ_cpL, tC_cpL, tc_cpL, tz_cpL, eq_self, true_and, and_true, false_and, and_false, if_true, if_false, reduceIte, ite_true, ite_false, not_true_eq_false, not_false_eq_true, h1, h2]
  · simp (config := {decide := true}) only [gfI_enc, gfL_enc, gfR_enc, pfI_enc, pfL_enc, pfR_enc, Option.bind_some, cI_v, cL_v, cF_v, cD_v, cR_v, cV_v, cI_x, cL_x, cR_x, cV_x, gz_0, gz_1, acc_enc, tI_sI, tL_sI, tR_sI, tN_sI, tZ_sI, tC_sI, tc_sI, tz_sI, tI_sL, tL_sL, tR_sL, tN_sL, tZ_sL, tC_sL, tc_sL, tz_sL, tI_sR, tL_sR, tR_sR, tN_sR, tZ_sR, tC_sR, tc_sR, tz_sR, tI_sZ, tL_sZ, tR_sZ, tN_sZ, tZ_sZ, tC_sZ, tc_sZ, tz_sZ, tI_sC, tL_sC, tR_sC, tN_sC, tZ_sC, tC_sC, tc_sC, tz_sC, tI_aC, tL_aC, tR_aC, tN_aC, tZ_aC, tC_aC, tc_aC, tz_aC, tI_rmL, tL_rmL, tR_rmL, tN_rmL, tZ_rmL, tC_rmL, tc_rmL, tz_rmL, tI_mk, tL_mk, tR_mk, tN_mk, tZ_mk, tC_mk, tc_mk, tz_mk, tI_pushL, tL_pushL, tR_pushL, tN_pushL, tZ_pushL, tC_pushL, tc_pushL, tz_pushL, tI_pushB, tL_pushB, tR_pushB, tN_pushB, tZ_pushB, tC_pushB, tc_pushB, tz_pushB, tI_cpL, tL_cpL, tR_cpL, tN_cpL, tZ_cpL, tC_cpL, tc_cpL, tz_cpL, eq_self, true_and, and_true, false_and, and_false, if_true, if_false, reduceIte, ite_true, ite_false, not_true_eq_false, not_false_eq_true, h]
  · simp (config := {decide := true}) only [gfI_enc, gfL_enc, gfR_enc, pfI_enc, pfL_enc, pfR_enc, Option.bind_some, cI_v, cL_v, cF_v, cD_v, cR_v, cV_v, cI_x, cL_x, cR_x, cV_x, gz_0, gz_1, acc_enc, tI_sI, tL_sI, tR_sI, tN_sI, tZ_sI, tC_sI, tc_sI, tz_sI, tI_sL, tL_sL, tR_sL, tN_sL, tZ_sL, tC_sL, tc_sL, tz_sL, tI_sR, tL_sR, tR_sR, tN_sR, tZ_sR, tC_sR, tc_sR, tz_sR, tI_sZ, tL_sZ, tR_sZ, tN_sZ, tZ_sZ, tC_sZ, tc_sZ, tz_sZ, tI_sC, tL_sC, tR_sC, tN_sC, tZ_sC, tC_sC, tc_sC, tz_sC, tI_aC, tL_aC, tR_aC, tN_aC, tZ_aC, tC_aC, tc_aC, tz_aC, tI_rmL, tL_rmL, tR_rmL, tN_rmL, tZ_rmL, tC_rmL, tc_rmL, tz_rmL, tI_mk, tL_mk, tR_mk, tN_mk, tZ_mk, tC_mk, tc_mk, tz_mk, tI_pushL, tL_pushL, tR_pushL, tN_pushL, tZ_pushL, tC_pushL, tc_pushL, tz_pushL, tI_pushB, tL_pushB, tR_pushB, tN_pushB, tZ_pushB, tC_pushB, tc_pushB, tz_pushB, tI_cpL, tL_cpL, tR_cpL, tN_cpL, tZ_cpL, tC_cpL, tc_cpL, tz_cpL, eq_self, true_and, and_true, false_and, and_false, if_true, if_false, reduceIte, ite_true, ite_false, not_true_eq_false, not_false_eq_true, h]
/-- the tail: the ASK is kept, a hold begins -/
theorem t19_ask {X : TS} {z : Hp} {j cd t i r p : Nat} {m v4 : Int32} (hj : j < tN X 4) (hcd : cd < tN X 37) (hT : tR X 37 cd 1 = some (35, t)) (ht : t < tN X 35) (hr : r < tN X 10) (hb : bitOk (tI X 10 r 14) = true) (h1 : tI X 10 r 1 = Int32.ofNat p) (h5 : tI X 10 r 5 = m) :
    (gfI (nob (enc 1 X z) 6 6 [0, 0, 0, 0, 0, 0, 0, 0, 0, 0, 0, 0, 0, 0, 0]).2 (some (10, r)) 6 1).bind (fun x2 =>
      cV (Ex 40 [aR (nob (enc 1 X z) 6 6 [0, 0, 0, 0, 0, 0, 0, 0, 0, 0, 0, 0, 0, 0, 0]).1, aI (1 : Int32), aI x2] (nob (enc 1 X z) 6 6 [0, 0, 0, 0, 0, 0, 0, 0, 0, 0, 0, 0, 0, 0, 0]).2) (fun h3 =>
      cR (Ex 41 [aR (nob (enc 1 X z) 6 6 [0, 0, 0, 0, 0, 0, 0, 0, 0, 0, 0, 0, 0, 0, 0]).1, aR (some (10, r))] h3) (fun x5 h4 =>
      (pf h4 (some (4, j)) 4 0 (aR x5)).bind (fun h6 =>
      (pf h6 (some (4, j)) 4 1 (aR (some (5, i)))).bind (fun h7 =>
      if (some (37, cd) : Option (Nat × Nat)) = none then
        some (.inl (some (aR (some (5, i)))), h7)
      else
        if v4 = 0 then
          (gfI h7 (some (10, r)) 6 5).bind (fun x8 =>
          (gfR h7 (some (37, cd)) 1 1).bind (fun x9 =>
          cV (Ex 30 [aR (some (4, j)), aI x8, aR x9] h7) (fun h10 =>
          some (.inl (some (aR (some (5, i)))), h10)) xT))
        else
          some (.inl (some (aR (some (5, i)))), h7)))) xT) xT) =
      some (.inl (some (aR (some (5, i)))), enc 1 (if v4 = 0 then hldA (askC X j i r p) j t m else askC X j i r p) z) := by
  have i10 : isM 10 := ⟨by decide +kernel, by decide +kernel⟩
  have i6 : isM 6 := ⟨by decide +kernel, by decide +kernel⟩
  have n6 : tN X 6 < tN X 6 + 1 := by omega
  have hnF : nF 6 = 15 := rfl
  obtain ⟨e1, e2, e3, e4, e5⟩ := askC_eq X j i r p
  rw [nob_enc (by decide +kernel)]
  simp (config := {decide := true}) only [gfI_enc, gfL_enc, gfR_enc, pfI_enc, pfL_enc, pfR_enc, Option.bind_some, cI_v, cL_v, cF_v, cD_v, cR_v, cV_v, cI_x, cL_x, cR_x, cV_x, gz_0, gz_1, acc_enc, tI_sI, tL_sI, tR_sI, tN_sI, tZ_sI, tC_sI, tc_sI, tz_sI, tI_sL, tL_sL, tR_sL, tN_sL, tZ_sL, tC_sL, tc_sL, tz_sL, tI_sR, tL_sR, tR_sR, tN_sR, tZ_sR, tC_sR, tc_sR, tz_sR, tI_sZ, tL_sZ, tR_sZ, tN_sZ, tZ_sZ, tC_sZ, tc_sZ, tz_sZ, tI_sC, tL_sC, tR_sC, tN_sC, tZ_sC, tC_sC, tc_sC, tz_sC, tI_aC, tL_aC, tR_aC, tN_aC, tZ_aC, tC_aC, tc_aC, tz_aC, tI_rmL, tL_rmL, tR_rmL, tN_rmL, tZ_rmL, tC_rmL, tc_rmL, tz_rmL, tI_mk, tL_mk, tR_mk, tN_mk, tZ_mk, tC_mk, tc_mk, tz_mk, tI_pushL, tL_pushL, tR_pushL, tN_pushL, tZ_pushL, tC_pushL, tc_pushL, tz_pushL, tI_pushB, tL_pushB, tR_pushB, tN_pushB, tZ_pushB, tC_pushB, tc_pushB, tz_pushB, tI_cpL, tL_cpL, tR_cpL, tN_cpL, tZ_cpL, tC_cpL, tc_cpL, tz_cpL, eq_self, true_and, and_true, false_and, and_false, if_true, if_false, reduceIte, ite_true, ite_false, not_true_eq_false, not_false_eq_true, hnF, gm i10, hr, h1]
  rw [x40 1 _ i6 (by rw [tN_mk, if_pos rfl]; exact n6), cV_v]
  rw [x41 i6 (by rw [tN_cpL, tN_mk, if_pos rfl]; exact n6) i10 (by rw [tN_cpL, tN_mk, if_neg (by decide)]; exact hr) (by simp (config := {decide := true}) only [gfI_enc, gfL_enc, gfR_enc, pfI_enc, pfL_enc, pfR_enc, Option.bind_some, cI_v, cL_v, cF_v, cD_v, cR_v, cV_v, cI_x, cL_x, cR_x, cV_x, gz_0, gz_1, acc_enc, tI_sI, tL_sI, tR_sI, tN_sI, tZ_sI, tC_sI, tc_sI, tz_sI, tI_sL, tL_sL, tR_sL, tN_sL, tZ_sL, tC_sL, tc_sL, tz_sL, tI_sR, tL_sR, tR_sR, tN_sR, tZ_sR, tC_sR, tc_sR, tz_sR, tI_sZ, tL_sZ, tR_sZ, tN_sZ, tZ_sZ, tC_sZ, tc_sZ, tz_sZ, tI_sC, tL_sC, tR_sC, tN_sC, tZ_sC, tC_sC, tc_sC, tz_sC, tI_aC, tL_aC, tR_aC, tN_aC, tZ_aC, tC_aC, tc_aC, tz_aC, tI_rmL, tL_rmL, tR_rmL, tN_rmL, tZ_rmL, tC_rmL, tc_rmL, tz_rmL, tI_mk, tL_mk, tR_mk, tN_mk, tZ_mk, tC_mk, tc_mk, tz_mk, tI_pushL, tL_pushL, tR_pushL, tN_pushL, tZ_pushL, tC_pushL, tc_pushL, tz_pushL, tI_pushB, tL_pushB, tR_pushB, tN_pushB, tZ_pushB, tC_pushB, tc_pushB, tz_pushB, tI_cpL, tL_cpL, tR_cpL, tN_cpL, tZ_cpL, tC_cpL, tc_cpL, tz_cpL, eq_self, true_and, and_true, false_and, and_false, if_true, if_false, reduceIte, ite_true, ite_false, not_true_eq_false, not_false_eq_true]; exact hb), cR_v]
  have q1 : pf (enc 1 (cpL (cpL (mk X 6 0 0 15) 6 (tN X 6) (iniM 1 (Int32.ofNat p)) [2, 3, 4, 5, 6, 7, 8, 9, 10, 11, 12, 13, 14, 0, 1]) 6 (tN X 6) (tI (cpL (mk X 6 0 0 15) 6 (tN X 6) (iniM 1 (Int32.ofNat p)) [2, 3, 4, 5, 6, 7, 8, 9, 10, 11, 12, 13, 14, 0, 1]) 10 r) [0, 1, 2, 3, 4, 5, 6, 7, 8, 9, 10, 11, 14]) z) (some (4, j)) 4 0 (aR (some (6, tN X 6))) = some (enc 1 (sR (cpL (cpL (mk X 6 0 0 15) 6 (tN X 6) (iniM 1 (Int32.ofNat p)) [2, 3, 4, 5, 6, 7, 8, 9, 10, 11, 12, 13, 14, 0, 1]) 6 (tN X 6) (tI (cpL (mk X 6 0 0 15) 6 (tN X 6) (iniM 1 (Int32.ofNat p)) [2, 3, 4, 5, 6, 7, 8, 9, 10, 11, 12, 13, 14, 0, 1]) 10 r) [0, 1, 2, 3, 4, 5, 6, 7, 8, 9, 10, 11, 14]) 4 j 0 (some (6, tN X 6))) z) := by simp (config := {decide := true}) only [gfI_enc, gfL_enc, gfR_enc, pfI_enc, pfL_enc, pfR_enc, Option.bind_some, cI_v, cL_v, cF_v, cD_v, cR_v, cV_v, cI_x, cL_x, cR_x, cV_x, gz_0, gz_1, acc_enc, tI_sI, tL_sI, tR_sI, tN_sI, tZ_sI, tC_sI, tc_sI, tz_sI, tI_sL, tL_sL, tR_sL, tN_sL, tZ_sL, tC_sL, tc_sL, tz_sL, tI_sR, tL_sR, tR_sR, tN_sR, tZ_sR, tC_sR, tc_sR, tz_sR, tI_sZ, tL_sZ, tR_sZ, tN_sZ, tZ_sZ, tC_sZ, tc_sZ, tz_sZ, tI_sC, tL_sC, tR_sC, tN_sC, tZ_sC, tC_sC, tc_sC, tz_sC, tI_aC, tL_aC, tR_aC, tN_aC, tZ_aC, tC_aC, tc_aC, tz_aC, tI_rmL, tL_rmL, tR_rmL, tN_rmL, tZ_rmL, tC_rmL, tc_rmL, tz_rmL, tI_mk, tL_mk, tR_mk, tN_mk, tZ_mk, tC_mk, tc_mk, tz_mk, tI_pushL, tL_pushL, tR_pushL, tN_pushL, tZ_pushL, tC_pushL, tc_pushL, tz_pushL, tI_pushB, tL_pushB, tR_pushB, tN_pushB, tZ_pushB, tC_pushB, tc_pushB, tz_pushB, tI_cpL, tL_cpL, tR_cpL, tN_cpL, tZ_cpL, tC_cpL, tc_cpL, tz_cpL, eq_self, true_and, and_true, false_and, and_false, if_true, if_false, reduceIte, ite_true, ite_false, not_true_eq_false, not_false_eq_true, hj]
  rw [q1, Option.bind_some]
  have q2 : pf (enc 1 (sR (cpL (cpL (mk X 6 0 0 15) 6 (tN X 6) (iniM 1 (Int32.ofNat p)) [2, 3, 4, 5, 6, 7, 8, 9, 10, 11, 12, 13, 14, 0, 1]) 6 (tN X 6) (tI (cpL (mk X 6 0 0 15) 6 (tN X 6) (iniM 1 (Int32.ofNat p)) [2, 3, 4, 5, 6, 7, 8, 9, 10, 11, 12, 13, 14, 0, 1]) 10 r) [0, 1, 2, 3, 4, 5, 6, 7, 8, 9, 10, 11, 14]) 4 j 0 (some (6, tN X 6))) z) (some (4, j)) 4 1 (aR (some (5, i))) = some (enc 1 (askC X j i r p) z) := by
    unfold askC
    simp (config := {decide := true}) only [gfI_enc, gfL_enc, gfR_enc, pfI_enc, pfL_enc, pfR_enc, Option.bind_some, cI_v, cL_v, cF_v, cD_v, cR_v, cV_v, cI_x, cL_x, cR_x, cV_x, gz_0, gz_1, acc_enc, tI_sI, tL_sI, tR_sI, tN_sI, tZ_sI, tC_sI, tc_sI, tz_sI, tI_sL, tL_sL, tR_sL, tN_sL, tZ_sL, tC_sL, tc_sL, tz_sL, tI_sR, tL_sR, tR_sR, tN_sR, tZ_sR, tC_sR, tc_sR, tz_sR, tI_sZ, tL_sZ, tR_sZ, tN_sZ, tZ_sZ, tC_sZ, tc_sZ, tz_sZ, tI_sC, tL_sC, tR_sC, tN_sC, tZ_sC, tC_sC, tc_sC, tz_sC, tI_aC, tL_aC, tR_aC, tN_aC, tZ_aC, tC_aC, tc_aC, tz_aC, tI_rmL, tL_rmL, tR_rmL, tN_rmL, tZ_rmL, tC_rmL, tc_rmL, tz_rmL, tI_mk, tL_mk, tR_mk, tN_mk, tZ_mk, tC_mk, tc_mk, tz_mk, tI_pushL, tL_pushL, tR_pushL, tN_pushL, tZ_pushL, tC_pushL, tc_pushL, tz_pushL, tI_pushB, tL_pushB, tR_pushB, tN_pushB, tZ_pushB, tC_pushB, tc_pushB, tz_pushB, tI_cpL, tL_cpL, tR_cpL, tN_cpL, tZ_cpL, tC_cpL, tc_cpL, tz_cpL, eq_self, true_and, and_true, false_and, and_false, if_true, if_false, reduceIte, ite_true, ite_false, not_true_eq_false, not_false_eq_true, hj]
  rw [q2, Option.bind_some]
  have a4 : j < tN (askC X j i r p) 4 := by rw [e5 4 (by decide)]; exact hj
  have a37 : cd < tN (askC X j i r p) 37 := by rw [e5 37 (by decide)]; exact hcd
  have a35 : t < tN (askC X j i r p) 35 := by rw [e5 35 (by decide)]; exact ht
  have a10 : r < tN (askC X j i r p) 10 := by rw [e5 10 (by decide)]; exact hr
  have b5 : tI (askC X j i r p) 10 r 5 = m := by rw [e1 10 _ _ (by decide)]; exact h5
  have bT : tR (askC X j i r p) 37 cd 1 = some (35, t) := by rw [e2 37 _ _ (by decide) (by decide)]; exact hT
  generalize askC X j i r p = Y at *
  by_cases e : v4 = 0
  · simp (config := {decide := true}) only [gfI_enc, gfL_enc, gfR_enc, pfI_enc, pfL_enc, pfR_enc, Option.bind_some, cI_v, cL_v, cF_v, cD_v, cR_v, cV_v, cI_x, cL_x, cR_x, cV_x, gz_0, gz_1, acc_enc, tI_sI, tL_sI, tR_sI, tN_sI, tZ_sI, tC_sI, tc_sI, tz_sI, tI_sL, tL_sL, tR_sL, tN_sL, tZ_sL, tC_sL, tc_sL, tz_sL, tI_sR, tL_sR, tR_sR, tN_sR, tZ_sR, tC_sR, tc_sR, tz_sR, tI_sZ, tL_sZ, tR_sZ, tN_sZ, tZ_sZ, tC_sZ, tc_sZ, tz_sZ, tI_sC, tL_sC, tR_sC, tN_sC, tZ_sC, tC_sC, tc_sC, tz_sC, tI_aC, tL_aC, tR_aC, tN_aC, tZ_aC, tC_aC, tc_aC, tz_aC, tI_rmL, tL_rmL, tR_rmL, tN_rmL, tZ_rmL, tC_rmL, tc_rmL, tz_rmL, tI_mk, tL_mk, tR_mk, tN_mk, tZ_mk, tC_mk, tc_mk, tz_mk, tI_pushL, tL_pushL, tR_pushL, tN_pushL, tZ_pushL, tC_pushL, tc_pushL, tz_pushL, tI_pushB, tL_pushB, tR_pushB, tN_pushB, tZ_pushB, tC_pushB, tc_pushB, tz_pushB, tI_cpL, tL_cpL, tR_cpL, tN_cpL, tZ_cpL, tC_cpL, tc_cpL, tz_cpL, eq_self, true_and, and_true, false_and, and_false, if_true, if_false, reduceIte, ite_true, ite_false, not_true_eq_false, not_false_eq_true, e, gm i10, a10, b5, a37, bT, x30 m a4 a35, reduceCtorEq]
    unfold hldA
    rfl
  · simp (config := {decide := true}) only [gfI_enc, gfL_enc, gfR_enc, pfI_enc, pfL_enc, pfR_enc, Option.bind_some, cI_v, cL_v, cF_v, cD_v, cR_v, cV_v, cI_x, cL_x, cR_x, cV_x, gz_0, gz_1, acc_enc, tI_sI, tL_sI, tR_sI, tN_sI, tZ_sI, tC_sI, tc_sI, tz_sI, tI_sL, tL_sL, tR_sL, tN_sL, tZ_sL, tC_sL, tc_sL, tz_sL, tI_sR, tL_sR, tR_sR, tN_sR, tZ_sR, tC_sR, tc_sR, tz_sR, tI_sZ, tL_sZ, tR_sZ, tN_sZ, tZ_sZ, tC_sZ, tc_sZ, tz_sZ, tI_sC, tL_sC, tR_sC, tN_sC, tZ_sC, tC_sC, tc_sC, tz_sC, tI_aC, tL_aC, tR_aC, tN_aC, tZ_aC, tC_aC, tc_aC, tz_aC, tI_rmL, tL_rmL, tR_rmL, tN_rmL, tZ_rmL, tC_rmL, tc_rmL, tz_rmL, tI_mk, tL_mk, tR_mk, tN_mk, tZ_mk, tC_mk, tc_mk, tz_mk, tI_pushL, tL_pushL, tR_pushL, tN_pushL, tZ_pushL, tC_pushL, tc_pushL, tz_pushL, tI_pushB, tL_pushB, tR_pushB, tN_pushB, tZ_pushB, tC_pushB, tc_pushB, tz_pushB, tI_cpL, tL_cpL, tR_cpL, tN_cpL, tZ_cpL, tC_cpL, tc_cpL, tz_cpL, eq_self, true_and, and_true, false_and, and_false, if_true, if_false, reduceIte, ite_true, ite_false, not_true_eq_false, not_false_eq_true, e, reduceCtorEq]
theorem t19 {X : TS} {z : Hp} {j cd t c i r p : Nat} {m v4 : Int32} (hv : v4 = 0 ∨ v4 = 3 ∨ v4 = 4 ∨ v4 = 5 ∨ v4 = 6 ∨ v4 = 7) (hj : j < tN X 4) (hcd : cd < tN X 37) (hT : tR X 37 cd 1 = some (35, t)) (ht : t < tN X 35) (hr : r < tN X 10) (hb : bitOk (tI X 10 r 14) = true) (h1 : tI X 10 r 1 = Int32.ofNat p) (h5 : tI X 10 r 5 = m)
    (h4 : tI X 10 r 4 = Int32.ofNat c) (hc : c < 201) (hR : tR X 37 cd 15 = some (1, cd)) (hcd1 : cd < tN X 1) (hz : tZ X 1 cd = 201) :
    Ru 19 124 [(1, aR (some (10, r))), (2, aR (some (4, j))), (3, aR (some (37, cd))), (4, aI v4), (5, aR (some (5, i)))] [] (enc 1 X z) =
      some (.inl (some (aR (some (5, i)))), enc 1 (let Y := askC (if rsH v4 then heA X cd c (Int32.ofNat p) else X) j i r p; if v4 = 0 then hldA Y j t m else Y) z) := by
  have i10 : isM 10 := ⟨by decide +kernel, by decide +kernel⟩
  have g1 : ¬ Int32.ofNat c < 0 := o_lt0 (by omega)
  have g2 : (Int32.ofNat c).toNatClampNeg = c := o_ix (by omega)
  have y9 := fun z => x9 (z := z) hcd hR hcd1 hz i10 hr (by rw [h4]; exact g1) (by rw [h4, g2]; exact hc)
  rw [h4, g2, h1] at y9
  have f9 : ∀ z, Ex 9 [aR (some (37, cd)), aR (some (10, r))] (enc 1 X z) = some (.inl none, enc 1 (heA X cd c (Int32.ofNat p)) z) := fun z => y9 z
  have hH : Ru 19 146 [(1, aR (some (10, r))), (2, aR (some (4, j))), (3, aR (some (37, cd))), (4, aI v4), (5, aR (some (5, i)))] [] (enc 1 X z) = some (.inl (some (aR (some (5, i)))), enc 1 (if v4 = 0 then hldA (askC (heA X cd c (Int32.ofNat p)) j i r p) j t m else askC (heA X cd c (Int32.ofNat p)) j i r p) z) := by
    rw [lf_19_146, f9, cV_v, if_neg (fun q => nomatch q)]
    have w := heA_wr X cd c (Int32.ofNat p)
    have ch := heA_chF X cd c (Int32.ofNat p)
    have s10 : ∀ f, tI (heA X cd c (Int32.ofNat p)) 10 r f = tI X 10 r f := dIS ch (S := [10]) (P := []) (by decide) (by simp) r
    exact t19_ask (Nat.lt_of_lt_of_le hj (w.N 4)) (Nat.lt_of_lt_of_le hcd (w.N 37)) (by rw [dRP ch (S := []) (P := [(37, 0)]) (s := 37) (k := 0) (by decide) (by simp)]; exact hT) (Nat.lt_of_lt_of_le ht (w.N 35)) (Nat.lt_of_lt_of_le hr (w.N 10)) (by rw [s10]; exact hb) (by rw [s10]; exact h1) (by rw [s10]; exact h5)
  have hN : (gfI (nob (enc 1 X z) 6 6 [0, 0, 0, 0, 0, 0, 0, 0, 0, 0, 0, 0, 0, 0, 0]).2 (some (10, r)) 6 1).bind _ = _ := t19_ask (v4 := v4) (i := i) (z := z) hj hcd hT ht hr hb h1 h5
  rw [lf_19_124, if_neg (fun q => nomatch q)]
  dsimp only
  rcases hv with e | e | e | e | e | e
  · subst e
    rw [if_pos rfl, hH]
    rfl
  · subst e
    rw [if_neg (by decide), if_pos (by decide), if_neg (fun q => nomatch q), hN]
    rfl
  · subst e
    rw [if_neg (by decide), if_neg (by decide), if_neg (by decide), hH]
    rfl
  · subst e
    rw [if_neg (by decide), if_neg (by decide), if_neg (by decide), hH]
    rfl
  · subst e
    rw [if_neg (by decide), if_neg (by decide), if_neg (by decide), hH]
    rfl
  · subst e
    rw [if_neg (by decide), if_neg (by decide), if_pos (by decide), if_neg (fun q => nomatch q), hN]
    rfl
