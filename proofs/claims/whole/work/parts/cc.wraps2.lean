/-! ===== the law's wrappers: stolen, freeze, dispute, the mean ===== -/
section
variable {a b : TS} {w : Hp} {sc : List Int32} {n : Nat}
def st01 (x : Int32) : Int64 := if x = 0 then 0 else 1
theorem lw_stolen (h : IvH a b n) (hW : WK w sc) (p : Int32) : LwP aI st01 306 [aR (some (96, 0)), aI p, aR (some (98, 0))] 275 [aR (some (97, 0)), aI p] a b w sc n := by
  obtain ⟨C, hc, hp, ht, hB⟩ := h
  refine lp_L _ (pub_T hp ht hB (by omega) (pu_stolen hc p)) hW (fun v a1 hx => ?_) (fun r a1 r1 r3 hk hx => ?_)
  · refine (X_st (by decide +kernel) rfl).trans ((lf_306_0 ..).trans ?_)
    rw [hx, cI_v]
    unfold st01
    by_cases e : v = 0
    · rw [if_pos e, if_pos e]
    · rw [if_neg e, if_neg e]
  · refine ⟨(ct1 (h := JH a1 b w) r1 r3 hk).1, ?_⟩
    refine (X_st (by decide +kernel) rfl).trans ((lf_306_0 ..).trans ?_)
    rw [hx, cI_x]
    exact (ct1 r1 r3 hk).2
theorem lw_freeze (h : IvH a b n) (hW : WK w sc) (p q : Int32) (hq : bitOk q = true) : LwP aI st01 307 [aR (some (96, 0)), aI p, aI q, aR (some (98, 0))] 276 [aR (some (97, 0)), aI p, aI q] a b w sc n := by
  obtain ⟨C, hc, hp, ht, hB⟩ := h
  refine lp_L _ (pub_T hp ht hB (by omega) (pu_freeze hc p q hq)) hW (fun v a1 hx => ?_) (fun r a1 r1 r3 hk hx => ?_)
  · refine (X_st (by decide +kernel) rfl).trans ((lf_307_0 ..).trans ?_)
    rw [hx, cI_v]
    unfold st01
    by_cases e : v = 0
    · rw [if_pos e, if_pos e]
    · rw [if_neg e, if_neg e]
  · refine ⟨(ct1 (h := JH a1 b w) r1 r3 hk).1, ?_⟩
    refine (X_st (by decide +kernel) rfl).trans ((lf_307_0 ..).trans ?_)
    rw [hx, cI_x]
    exact (ct1 r1 r3 hk).2
theorem m121 (hR : R0 a b) (p : Int32) : ∃ v, (∀ z, Ex 121 [aR (some (96, 0)), aI p] (enc 1 a z) = some (.inl (some (aI v)), enc 1 a z)) ∧ v ≠ 2 := by
  have hF := r_FC hR
  have P1 := (r_P' hR).1
  have n10 : ¬ (1 : Int32) = 0 := by decide
  by_cases e0 : inR p 0 (Int32.ofNat (tZ a 29 0) - 1)
  · obtain ⟨q, hq, e⟩ := inR_ex e0 (by omega)
    subst e
    have hK : RK a b := hR.2.2.2.2.2.2.2.2.2.2.2.2.2.1
    obtain ⟨⟨K1, -, -⟩, -⟩ := hK
    obtain ⟨r1, r2, -⟩ := pay_at hR hq
    have g1 : (Int32.ofNat q).toNatClampNeg = q := o_ix (by omega)
    have g2 : ¬ Int32.ofNat q < 0 := o_lt0 (by omega)
    have f14 := fun z => x14 (a := a) (z := z) (n := q) hF (by omega)
    have f139 := fun h => x139_1 e0 h
    by_cases c1 : tI a 38 q 11 = 0
    · refine ⟨3, fun z => ?_, by decide⟩
      refine (X_in (by decide +kernel) (fcN_96 hF) rfl).trans ((lf_121_0 ..).trans ?_)
      simp (config := {decide := true}) only [gfI_enc, gfL_enc, gfR_enc, pfI_enc, pfL_enc, pfR_enc, Option.bind_some, cI_v, cL_v, cF_v, cD_v, cR_v, cV_v, cI_x, cL_x, cR_x, cV_x, gz_0, gz_1, acc_enc, tI_sI, tL_sI, tR_sI, tN_sI, tZ_sI, tC_sI, tc_sI, tz_sI, tI_sL, tL_sL, tR_sL, tN_sL, tZ_sL, tC_sL, tc_sL, tz_sL, tI_sR, tL_sR, tR_sR, tN_sR, tZ_sR, tC_sR, tc_sR, tz_sR, tI_sZ, tL_sZ, tR_sZ, tN_sZ, tZ_sZ, tC_sZ, tc_sZ, tz_sZ, tI_sC, tL_sC, tR_sC, tN_sC, tZ_sC, tC_sC, tc_sC, tz_sC, tI_aC, tL_aC, tR_aC, tN_aC, tZ_aC, tC_aC, tc_aC, tz_aC, tI_rmL, tL_rmL, tR_rmL, tN_rmL, tZ_rmL, tC_rmL, tc_rmL, tz_rmL, tI_mk, tL_mk, tR_mk, tN_mk, tZ_mk, tC_mk, tc_mk, tz_mk, tI_pushL, tL_pushL, tR_pushL, tN_pushL, tZ_pushL, tC_pushL, tc_pushL, tz_pushL, tI_pushB, tL_pushB, tR_pushB, tN_pushB, tZ_pushB, tC_pushB, tc_pushB, tz_pushB, tI_cpL, tL_cpL, tR_cpL, tN_cpL, tZ_cpL, tC_cpL, tc_cpL, tz_cpL, eq_self, true_and, and_true, false_and, and_false, if_true, if_false, reduceIte, ite_true, ite_false, not_true_eq_false, not_false_eq_true, fcN_96 hF, fcR_96_5 hF, fcR_96_6 hF, X405, X402, fcN_29 hF, f139, n10, f14, g1, g2, hq, r1, r2, c1]
    · rcases K1 q (by omega) with hno | ⟨j, j1, hj⟩
      · refine ⟨3, fun z => ?_, by decide⟩
        refine (X_in (by decide +kernel) (fcN_96 hF) rfl).trans ((lf_121_0 ..).trans ?_)
        simp (config := {decide := true}) only [gfI_enc, gfL_enc, gfR_enc, pfI_enc, pfL_enc, pfR_enc, Option.bind_some, cI_v, cL_v, cF_v, cD_v, cR_v, cV_v, cI_x, cL_x, cR_x, cV_x, gz_0, gz_1, acc_enc, tI_sI, tL_sI, tR_sI, tN_sI, tZ_sI, tC_sI, tc_sI, tz_sI, tI_sL, tL_sL, tR_sL, tN_sL, tZ_sL, tC_sL, tc_sL, tz_sL, tI_sR, tL_sR, tR_sR, tN_sR, tZ_sR, tC_sR, tc_sR, tz_sR, tI_sZ, tL_sZ, tR_sZ, tN_sZ, tZ_sZ, tC_sZ, tc_sZ, tz_sZ, tI_sC, tL_sC, tR_sC, tN_sC, tZ_sC, tC_sC, tc_sC, tz_sC, tI_aC, tL_aC, tR_aC, tN_aC, tZ_aC, tC_aC, tc_aC, tz_aC, tI_rmL, tL_rmL, tR_rmL, tN_rmL, tZ_rmL, tC_rmL, tc_rmL, tz_rmL, tI_mk, tL_mk, tR_mk, tN_mk, tZ_mk, tC_mk, tc_mk, tz_mk, tI_pushL, tL_pushL, tR_pushL, tN_pushL, tZ_pushL, tC_pushL, tc_pushL, tz_pushL, tI_pushB, tL_pushB, tR_pushB, tN_pushB, tZ_pushB, tC_pushB, tc_pushB, tz_pushB, tI_cpL, tL_cpL, tR_cpL, tN_cpL, tZ_cpL, tC_cpL, tc_cpL, tz_cpL, eq_self, true_and, and_true, false_and, and_false, if_true, if_false, reduceIte, ite_true, ite_false, not_true_eq_false, not_false_eq_true, fcN_96 hF, fcR_96_5 hF, fcR_96_6 hF, X405, X402, fcN_29 hF, f139, n10, f14, g1, g2, hq, r1, r2, c1, hno]
      · have f29 := fun z => x29 (a := a) (z := z) j1
        by_cases c2 : tR a 4 j 8 = none
        · refine ⟨3, fun z => ?_, by decide⟩
          simp only [if_pos c2] at f29
          refine (X_in (by decide +kernel) (fcN_96 hF) rfl).trans ((lf_121_0 ..).trans ?_)
          simp (config := {decide := true}) only [gfI_enc, gfL_enc, gfR_enc, pfI_enc, pfL_enc, pfR_enc, Option.bind_some, cI_v, cL_v, cF_v, cD_v, cR_v, cV_v, cI_x, cL_x, cR_x, cV_x, gz_0, gz_1, acc_enc, tI_sI, tL_sI, tR_sI, tN_sI, tZ_sI, tC_sI, tc_sI, tz_sI, tI_sL, tL_sL, tR_sL, tN_sL, tZ_sL, tC_sL, tc_sL, tz_sL, tI_sR, tL_sR, tR_sR, tN_sR, tZ_sR, tC_sR, tc_sR, tz_sR, tI_sZ, tL_sZ, tR_sZ, tN_sZ, tZ_sZ, tC_sZ, tc_sZ, tz_sZ, tI_sC, tL_sC, tR_sC, tN_sC, tZ_sC, tC_sC, tc_sC, tz_sC, tI_aC, tL_aC, tR_aC, tN_aC, tZ_aC, tC_aC, tc_aC, tz_aC, tI_rmL, tL_rmL, tR_rmL, tN_rmL, tZ_rmL, tC_rmL, tc_rmL, tz_rmL, tI_mk, tL_mk, tR_mk, tN_mk, tZ_mk, tC_mk, tc_mk, tz_mk, tI_pushL, tL_pushL, tR_pushL, tN_pushL, tZ_pushL, tC_pushL, tc_pushL, tz_pushL, tI_pushB, tL_pushB, tR_pushB, tN_pushB, tZ_pushB, tC_pushB, tc_pushB, tz_pushB, tI_cpL, tL_cpL, tR_cpL, tN_cpL, tZ_cpL, tC_cpL, tc_cpL, tz_cpL, eq_self, true_and, and_true, false_and, and_false, if_true, if_false, reduceIte, ite_true, ite_false, not_true_eq_false, not_false_eq_true, fcN_96 hF, fcR_96_5 hF, fcR_96_6 hF, X405, X402, fcN_29 hF, f139, n10, f14, g1, g2, hq, r1, r2, c1, hj, reduceCtorEq, f29]
        · simp only [if_neg c2] at f29
          by_cases c3 : tI a 4 j 7 = 0
          · by_cases c4 : (1 : Int32) < tI a 25 0 1 - tI a 4 j 12
            · refine ⟨3, fun z => ?_, by decide⟩
              refine (X_in (by decide +kernel) (fcN_96 hF) rfl).trans ((lf_121_0 ..).trans ?_)
              simp (config := {decide := true}) only [gfI_enc, gfL_enc, gfR_enc, pfI_enc, pfL_enc, pfR_enc, Option.bind_some, cI_v, cL_v, cF_v, cD_v, cR_v, cV_v, cI_x, cL_x, cR_x, cV_x, gz_0, gz_1, acc_enc, tI_sI, tL_sI, tR_sI, tN_sI, tZ_sI, tC_sI, tc_sI, tz_sI, tI_sL, tL_sL, tR_sL, tN_sL, tZ_sL, tC_sL, tc_sL, tz_sL, tI_sR, tL_sR, tR_sR, tN_sR, tZ_sR, tC_sR, tc_sR, tz_sR, tI_sZ, tL_sZ, tR_sZ, tN_sZ, tZ_sZ, tC_sZ, tc_sZ, tz_sZ, tI_sC, tL_sC, tR_sC, tN_sC, tZ_sC, tC_sC, tc_sC, tz_sC, tI_aC, tL_aC, tR_aC, tN_aC, tZ_aC, tC_aC, tc_aC, tz_aC, tI_rmL, tL_rmL, tR_rmL, tN_rmL, tZ_rmL, tC_rmL, tc_rmL, tz_rmL, tI_mk, tL_mk, tR_mk, tN_mk, tZ_mk, tC_mk, tc_mk, tz_mk, tI_pushL, tL_pushL, tR_pushL, tN_pushL, tZ_pushL, tC_pushL, tc_pushL, tz_pushL, tI_pushB, tL_pushB, tR_pushB, tN_pushB, tZ_pushB, tC_pushB, tc_pushB, tz_pushB, tI_cpL, tL_cpL, tR_cpL, tN_cpL, tZ_cpL, tC_cpL, tc_cpL, tz_cpL, eq_self, true_and, and_true, false_and, and_false, if_true, if_false, reduceIte, ite_true, ite_false, not_true_eq_false, not_false_eq_true, fcN_96 hF, fcR_96_5 hF, fcR_96_6 hF, X405, X402, fcN_29 hF, f139, n10, f14, g1, g2, hq, r1, r2, c1, hj, reduceCtorEq, f29, j1, c3, fcR_96_1 hF, fcN_25 hF, c4]
            · refine ⟨0, fun z => ?_, by decide⟩
              refine (X_in (by decide +kernel) (fcN_96 hF) rfl).trans ((lf_121_0 ..).trans ?_)
              simp (config := {decide := true}) only [gfI_enc, gfL_enc, gfR_enc, pfI_enc, pfL_enc, pfR_enc, Option.bind_some, cI_v, cL_v, cF_v, cD_v, cR_v, cV_v, cI_x, cL_x, cR_x, cV_x, gz_0, gz_1, acc_enc, tI_sI, tL_sI, tR_sI, tN_sI, tZ_sI, tC_sI, tc_sI, tz_sI, tI_sL, tL_sL, tR_sL, tN_sL, tZ_sL, tC_sL, tc_sL, tz_sL, tI_sR, tL_sR, tR_sR, tN_sR, tZ_sR, tC_sR, tc_sR, tz_sR, tI_sZ, tL_sZ, tR_sZ, tN_sZ, tZ_sZ, tC_sZ, tc_sZ, tz_sZ, tI_sC, tL_sC, tR_sC, tN_sC, tZ_sC, tC_sC, tc_sC, tz_sC, tI_aC, tL_aC, tR_aC, tN_aC, tZ_aC, tC_aC, tc_aC, tz_aC, tI_rmL, tL_rmL, tR_rmL, tN_rmL, tZ_rmL, tC_rmL, tc_rmL, tz_rmL, tI_mk, tL_mk, tR_mk, tN_mk, tZ_mk, tC_mk, tc_mk, tz_mk, tI_pushL, tL_pushL, tR_pushL, tN_pushL, tZ_pushL, tC_pushL, tc_pushL, tz_pushL, tI_pushB, tL_pushB, tR_pushB, tN_pushB, tZ_pushB, tC_pushB, tc_pushB, tz_pushB, tI_cpL, tL_cpL, tR_cpL, tN_cpL, tZ_cpL, tC_cpL, tc_cpL, tz_cpL, eq_self, true_and, and_true, false_and, and_false, if_true, if_false, reduceIte, ite_true, ite_false, not_true_eq_false, not_false_eq_true, fcN_96 hF, fcR_96_5 hF, fcR_96_6 hF, X405, X402, fcN_29 hF, f139, n10, f14, g1, g2, hq, r1, r2, c1, hj, reduceCtorEq, f29, j1, c3, fcR_96_1 hF, fcN_25 hF, c4]
          · refine ⟨3, fun z => ?_, by decide⟩
            refine (X_in (by decide +kernel) (fcN_96 hF) rfl).trans ((lf_121_0 ..).trans ?_)
            simp (config := {decide := true}) only [gfI_enc, gfL_enc, gfR_enc, pfI_enc, pfL_enc, pfR_enc, Option.bind_some, cI_v, cL_v, cF_v, cD_v, cR_v, cV_v, cI_x, cL_x, cR_x, cV_x, gz_0, gz_1, acc_enc, tI_sI, tL_sI, tR_sI, tN_sI, tZ_sI, tC_sI, tc_sI, tz_sI, tI_sL, tL_sL, tR_sL, tN_sL, tZ_sL, tC_sL, tc_sL, tz_sL, tI_sR, tL_sR, tR_sR, tN_sR, tZ_sR, tC_sR, tc_sR, tz_sR, tI_sZ, tL_sZ, tR_sZ, tN_sZ, tZ_sZ, tC_sZ, tc_sZ, tz_sZ, tI_sC, tL_sC, tR_sC, tN_sC, tZ_sC, tC_sC, tc_sC, tz_sC, tI_aC, tL_aC, tR_aC, tN_aC, tZ_aC, tC_aC, tc_aC, tz_aC, tI_rmL, tL_rmL, tR_rmL, tN_rmL, tZ_rmL, tC_rmL, tc_rmL, tz_rmL, tI_mk, tL_mk, tR_mk, tN_mk, tZ_mk, tC_mk, tc_mk, tz_mk, tI_pushL, tL_pushL, tR_pushL, tN_pushL, tZ_pushL, tC_pushL, tc_pushL, tz_pushL, tI_pushB, tL_pushB, tR_pushB, tN_pushB, tZ_pushB, tC_pushB, tc_pushB, tz_pushB, tI_cpL, tL_cpL, tR_cpL, tN_cpL, tZ_cpL, tC_cpL, tc_cpL, tz_cpL, eq_self, true_and, and_true, false_and, and_false, if_true, if_false, reduceIte, ite_true, ite_false, not_true_eq_false, not_false_eq_true, fcN_96 hF, fcR_96_5 hF, fcR_96_6 hF, X405, X402, fcN_29 hF, f139, n10, f14, g1, g2, hq, r1, r2, c1, hj, reduceCtorEq, f29, j1, c3]
  · refine ⟨1, fun z => ?_, by decide⟩
    have f139 := fun h => x139_0 e0 h
    refine (X_in (by decide +kernel) (fcN_96 hF) rfl).trans ((lf_121_0 ..).trans ?_)
    simp (config := {decide := true}) only [gfI_enc, gfL_enc, gfR_enc, pfI_enc, pfL_enc, pfR_enc, Option.bind_some, cI_v, cL_v, cF_v, cD_v, cR_v, cV_v, cI_x, cL_x, cR_x, cV_x, gz_0, gz_1, acc_enc, tI_sI, tL_sI, tR_sI, tN_sI, tZ_sI, tC_sI, tc_sI, tz_sI, tI_sL, tL_sL, tR_sL, tN_sL, tZ_sL, tC_sL, tc_sL, tz_sL, tI_sR, tL_sR, tR_sR, tN_sR, tZ_sR, tC_sR, tc_sR, tz_sR, tI_sZ, tL_sZ, tR_sZ, tN_sZ, tZ_sZ, tC_sZ, tc_sZ, tz_sZ, tI_sC, tL_sC, tR_sC, tN_sC, tZ_sC, tC_sC, tc_sC, tz_sC, tI_aC, tL_aC, tR_aC, tN_aC, tZ_aC, tC_aC, tc_aC, tz_aC, tI_rmL, tL_rmL, tR_rmL, tN_rmL, tZ_rmL, tC_rmL, tc_rmL, tz_rmL, tI_mk, tL_mk, tR_mk, tN_mk, tZ_mk, tC_mk, tc_mk, tz_mk, tI_pushL, tL_pushL, tR_pushL, tN_pushL, tZ_pushL, tC_pushL, tc_pushL, tz_pushL, tI_pushB, tL_pushB, tR_pushB, tN_pushB, tZ_pushB, tC_pushB, tc_pushB, tz_pushB, tI_cpL, tL_cpL, tR_cpL, tN_cpL, tZ_cpL, tC_cpL, tc_cpL, tz_cpL, eq_self, true_and, and_true, false_and, and_false, if_true, if_false, reduceIte, ite_true, ite_false, not_true_eq_false, not_false_eq_true, fcN_96 hF, fcR_96_5 hF, X405, fcN_29 hF, f139]
theorem pu_dispute2 {C : Nat} (h : Core a b C) (p : Int32) : PubR aI 120 [aR (some (96, 0)), aI p] 277 [aR (some (97, 0)), aI p] k13 a b C C := pub_op (OpR_kf (op_dispute h p) kf13) (fun _ r1 r3 hx => ok13 r1 r3 (ex_val (P := fun w => w ≠ 2) hx (m121 h.1.1 p))) (fun z => by refine (X_in (by decide +kernel) (fcN_96 (r_FC h.1.1)) rfl).trans ((lf_120_0 ..).trans ?_); rfl)
theorem ct13 {h : Hp} {r : Nat} (r1 : 1 ≤ r) (r3 : r ≤ 3) (hk : k13 (r + 10) ≠ 99) : ¬ Int32.ofNat (k13 r) = 0 ∧ xif (exN r) 32 (some (.inl (some (aI (1 : Int32))), hX h (exN r))) (xif (exN r) 31 (some (.inl (some (aI (2 : Int32))), hX h (exN r))) (xT (exN r) h)) = some (.inl (some (aI (Int32.ofNat (k13 r)))), hX h (exN r)) := by
  rcases r123 r1 r3 with e | e | e <;> subst e
  · exact ⟨by decide, rfl⟩
  · exact absurd rfl hk
  · exact ⟨by decide, rfl⟩
theorem lw_dispute (h : IvH a b n) (hW : WK w sc) (p : Int32) : LwP aI Int32.toInt64 308 [aR (some (96, 0)), aI p, aR (some (98, 0))] 277 [aR (some (97, 0)), aI p] a b w sc n := by
  obtain ⟨C, hc, hp, ht, hB⟩ := h
  refine lp_L _ (pub_T hp ht hB (by omega) (pu_dispute2 hc p)) hW (fun v a1 hx => ?_) (fun r a1 r1 r3 hk hx => ?_)
  · refine (X_st (by decide +kernel) rfl).trans ((lf_308_0 ..).trans ?_)
    rw [hx]
    rfl
  · refine ⟨(ct13 (h := JH a1 b w) r1 r3 hk).1, ?_⟩
    refine (X_st (by decide +kernel) rfl).trans ((lf_308_0 ..).trans ?_)
    rw [hx, cI_x]
    exact (ct13 r1 r3 hk).2
/-- the mean's wrapper keeps a double -/
theorem lw_mean (h : IvH a b n) (hW : WK w sc) (p : Int32) : ∃ a' b' w' k v, Ex 315 [aR (some (96, 0)), aI p, aR (some (99, 0))] (JH a b w) = some (.inl (some (aI k)), JH a' b w') ∧ Ex 288 [aR (some (97, 0)), aI p] (JH a' b w') = some (.inl (some (aD v)), JH a' b' w') ∧ tI b' 97 0 8 = k ∧ (k = 0 → gaD (JH a' b' w') (some (99, 0)) 1005 0 = some v) ∧ IvH a' b' (n + 1) ∧ WK w' sc ∧ LwS a b w a' b' w' := by
  obtain ⟨C, hc, hp, ht, hB⟩ := h
  rcases pub_T hp ht hB (by omega) (q_mean hc p) with ⟨r, v, a', b', r1, r3, hok, hx, hy, hk, hi, hw, hw'⟩ | ⟨v, a', b', hx, hy, hk, hi, hw, hw'⟩
  · refine ⟨aC a' 1 6, b', hX w (exN r), Int32.ofNat (k1 r), v, ?_, ?_, hk, fun q => absurd q (ct1 (h := w) r1 r3 hok).1, IvH_x hi, WK_X hW _, ⟨a', hw, Or.inr rfl⟩, hw', rfl⟩
    · have hx := hx _ (Zk_J1 (b := b) hW)
      have hx : Ex 132 [aR (some (96, 0)), aI p] (JH a b w) = some (.inr (exN r), JH (aC a' 1 6) b w) := hx
      refine (X_st (by decide +kernel) rfl).trans ((lf_315_0 ..).trans ?_)
      rw [hx, cD_x, (ct1 r1 r3 hok).2, hX_J]
    · rw [JH_c, JH_c, hy _ (Zk_J2 (WK_X hW _))]
  · obtain ⟨w1, w2⟩ := WK_D hW v
    refine ⟨a', b', hS w (99, 0) (1005, [aD v]), 0, v, ?_, ?_, hk, fun _ => ga_D w2, hi, w1, ⟨a', hw, Or.inl rfl⟩, hw', rfl⟩
    · have hx := hx _ (Zk_J1 (b := b) hW)
      have hx : Ex 132 [aR (some (96, 0)), aI p] (JH a b w) = some (.inl (some (aD v)), JH a' b w) := hx
      refine (X_st (by decide +kernel) rfl).trans ((lf_315_0 ..).trans ?_)
      rw [hx, cD_v, pa_D hW]
      rfl
    · rw [JH_c, JH_c, hy _ (Zk_J2 w1)]
end
