/-! ===== the issuer judges an ASK ===== -/
/-- the reason against an ASK of payment p, on a card cd with account t, of amount m; its stamp is right -/
def rsn (a : TS) (p cd t c : Nat) (m : Int32) : Int32 :=
  if kI a p 5 = 0 then (if kR a p 8 = none then (if oth a cd c (Int32.ofNat p) = 0 then (if tI a 37 cd 12 = 0 then (if tI a 35 t 2 = 0 then (if lg_cmp m.toInt64 (tL a 35 t 0 - tL a 35 t 1) ≤ 0 then 0 else 6) else 5) else 4) else 3) else 7) else 7
/-- is the counter heard, at that reason -/
def rsH (r : Int32) : Bool := r == 0 || r == 4 || r == 5 || r == 6
theorem rsn_cases (a : TS) (p cd t c : Nat) (m : Int32) : rsn a p cd t c m = 0 ∨ rsn a p cd t c m = 3 ∨ rsn a p cd t c m = 4 ∨ rsn a p cd t c m = 5 ∨ rsn a p cd t c m = 6 ∨ rsn a p cd t c m = 7 := by
  unfold rsn
  repeat' split
  all_goals simp
theorem x20 {a : TS} {z : Hp} {p j cd t c s r : Nat} {st m : Int32} (hj : j < tN a 4) (hk : tR a 3 0 p = some (4, j)) (hcd : cd < tN a 37) (hcd1 : cd < tN a 1) (hz : tZ a 1 cd = 201) (hR : tR a 37 cd 15 = some (1, cd)) (hT : tR a 37 cd 1 = some (35, t)) (ht : t < tN a 35)
    (hs : isM s) (hr : r < tN a s) (h1 : tI a s r 1 = Int32.ofNat p) (h4 : tI a s r 4 = Int32.ofNat c) (hc : c < 201) (h5 : tI a s r 5 = m) (h6 : tI a s r 6 = st) (hst : st = stp (tI a 37 cd 3).toInt64 (Int32.ofNat c) m (tI a s r 3) 2) :
    Ex 20 [aR (some (s, r)), aR (some (4, j)), aR (some (37, cd))] (enc 1 a z) = some (.inl (some (aI (rsn a p cd t c m))), enc 1 a z) := by
  have g1 : ¬ Int32.ofNat c < 0 := o_lt0 (by omega)
  have g2 : (Int32.ofNat c).toNatClampNeg = c := o_ix (by omega)
  have y8 := fun z => x8 (z := z) hcd hR hcd1 hz hs hr (by rw [h4]; exact g1) (by rw [h4, g2]; exact hc)
  rw [h4, g2, h1] at y8
  refine (X_st (by decide +kernel) rfl).trans ((lf_20_0 ..).trans ?_)
  unfold rsn oth
  rw [kI_at hk, kR_at hk]
  by_cases e1 : tI a 4 j 5 = 0
  · by_cases e2 : tR a 4 j 8 = none
    · by_cases e3 : tI a 1 cd c = 0
      · by_cases e4 : tI a 37 cd 12 = 0
        · by_cases e5 : tI a 35 t 2 = 0
          · simp (config := {decide := true}) only [gfI_enc, gfL_enc, gfR_enc, pfI_enc, pfL_enc, pfR_enc, Option.bind_some, cI_v, cL_v, cF_v, cD_v, cR_v, cV_v, cI_x, cL_x, cR_x, cV_x, gz_0, gz_1, acc_enc, tI_sI, tL_sI, tR_sI, tN_sI, tZ_sI, tC_sI, tc_sI, tz_sI, tI_sL, tL_sL, tR_sL, tN_sL, tZ_sL, tC_sL, tc_sL, tz_sL, tI_sR, tL_sR, tR_sR, tN_sR, tZ_sR, tC_sR, tc_sR, tz_sR, tI_sZ, tL_sZ, tR_sZ, tN_sZ, tZ_sZ, tC_sZ, tc_sZ, tz_sZ, tI_sC, tL_sC, tR_sC, tN_sC, tZ_sC, tC_sC, tc_sC, tz_sC, tI_aC, tL_aC, tR_aC, tN_aC, tZ_aC, tC_aC, tc_aC, tz_aC, tI_rmL, tL_rmL, tR_rmL, tN_rmL, tZ_rmL, tC_rmL, tc_rmL, tz_rmL, tI_mk, tL_mk, tR_mk, tN_mk, tZ_mk, tC_mk, tc_mk, tz_mk, tI_pushL, tL_pushL, tR_pushL, tN_pushL, tZ_pushL, tC_pushL, tc_pushL, tz_pushL, tI_pushB, tL_pushB, tR_pushB, tN_pushB, tZ_pushB, tC_pushB, tc_pushB, tz_pushB, tI_cpL, tL_cpL, tR_cpL, tN_cpL, tZ_cpL, tC_cpL, tc_cpL, tz_cpL, eq_self, true_and, and_true, false_and, and_false, if_true, if_false, reduceIte, ite_true, ite_false, not_true_eq_false, not_false_eq_true, hj, x29 hj, gm hs hr, h4, h5, h6, ← hst, x2 _ _ _ _ hcd, hcd, e1, e2, y8, e3, e4, e5, hT, ht, reduceCtorEq]
            split <;> rfl
          · simp (config := {decide := true}) only [gfI_enc, gfL_enc, gfR_enc, pfI_enc, pfL_enc, pfR_enc, Option.bind_some, cI_v, cL_v, cF_v, cD_v, cR_v, cV_v, cI_x, cL_x, cR_x, cV_x, gz_0, gz_1, acc_enc, tI_sI, tL_sI, tR_sI, tN_sI, tZ_sI, tC_sI, tc_sI, tz_sI, tI_sL, tL_sL, tR_sL, tN_sL, tZ_sL, tC_sL, tc_sL, tz_sL, tI_sR, tL_sR, tR_sR, tN_sR, tZ_sR, tC_sR, tc_sR, tz_sR, tI_sZ, tL_sZ, tR_sZ, tN_sZ, tZ_sZ, tC_sZ, tc_sZ, tz_sZ, tI_sC, tL_sC, tR_sC, tN_sC, tZ_sC, tC_sC, tc_sC, tz_sC, tI_aC, tL_aC, tR_aC, tN_aC, tZ_aC, tC_aC, tc_aC, tz_aC, tI_rmL, tL_rmL, tR_rmL, tN_rmL, tZ_rmL, tC_rmL, tc_rmL, tz_rmL, tI_mk, tL_mk, tR_mk, tN_mk, tZ_mk, tC_mk, tc_mk, tz_mk, tI_pushL, tL_pushL, tR_pushL, tN_pushL, tZ_pushL, tC_pushL, tc_pushL, tz_pushL, tI_pushB, tL_pushB, tR_pushB, tN_pushB, tZ_pushB, tC_pushB, tc_pushB, tz_pushB, tI_cpL, tL_cpL, tR_cpL, tN_cpL, tZ_cpL, tC_cpL, tc_cpL, tz_cpL, eq_self, true_and, and_true, false_and, and_false, if_true, if_false, reduceIte, ite_true, ite_false, not_true_eq_false, not_false_eq_true, hj, x29 hj, gm hs hr, h4, h5, h6, ← hst, x2 _ _ _ _ hcd, hcd, e1, e2, y8, e3, e4, e5, hT, ht, reduceCtorEq]
        · simp (config := {decide := true}) only [gfI_enc, gfL_enc, gfR_enc, pfI_enc, pfL_enc, pfR_enc, Option.bind_some, cI_v, cL_v, cF_v, cD_v, cR_v, cV_v, cI_x, cL_x, cR_x, cV_x, gz_0, gz_1, acc_enc, tI_sI, tL_sI, tR_sI, tN_sI, tZ_sI, tC_sI, tc_sI, tz_sI, tI_sL, tL_sL, tR_sL, tN_sL, tZ_sL, tC_sL, tc_sL, tz_sL, tI_sR, tL_sR, tR_sR, tN_sR, tZ_sR, tC_sR, tc_sR, tz_sR, tI_sZ, tL_sZ, tR_sZ, tN_sZ, tZ_sZ, tC_sZ, tc_sZ, tz_sZ, tI_sC, tL_sC, tR_sC, tN_sC, tZ_sC, tC_sC, tc_sC, tz_sC, tI_aC, tL_aC, tR_aC, tN_aC, tZ_aC, tC_aC, tc_aC, tz_aC, tI_rmL, tL_rmL, tR_rmL, tN_rmL, tZ_rmL, tC_rmL, tc_rmL, tz_rmL, tI_mk, tL_mk, tR_mk, tN_mk, tZ_mk, tC_mk, tc_mk, tz_mk, tI_pushL, tL_pushL, tR_pushL, tN_pushL, tZ_pushL, tC_pushL, tc_pushL, tz_pushL, tI_pushB, tL_pushB, tR_pushB, tN_pushB, tZ_pushB, tC_pushB, tc_pushB, tz_pushB, tI_cpL, tL_cpL, tR_cpL, tN_cpL, tZ_cpL, tC_cpL, tc_cpL, tz_cpL, eq_self, true_and, and_true, false_and, and_false, if_true, if_false, reduceIte, ite_true, ite_false, not_true_eq_false, not_false_eq_true, hj, x29 hj, gm hs hr, h4, h5, h6, ← hst, x2 _ _ _ _ hcd, hcd, e1, e2, y8, e3, e4, hT, ht, reduceCtorEq]
      · by_cases e3' : tI a 1 cd c = Int32.ofNat p + 1
        · have e3'' : ¬ Int32.ofNat p + 1 = 0 := fun q => e3 (e3'.trans q)
          by_cases e4 : tI a 37 cd 12 = 0
          · by_cases e5 : tI a 35 t 2 = 0
            · simp (config := {decide := true}) only [gfI_enc, gfL_enc, gfR_enc, pfI_enc, pfL_enc, pfR_enc, Option.bind_some, cI_v, cL_v, cF_v, cD_v, cR_v, cV_v, cI_x, cL_x, cR_x, cV_x, gz_0, gz_1, acc_enc, tI_sI, tL_sI, tR_sI, tN_sI, tZ_sI, tC_sI, tc_sI, tz_sI, tI_sL, tL_sL, tR_sL, tN_sL, tZ_sL, tC_sL, tc_sL, tz_sL, tI_sR, tL_sR, tR_sR, tN_sR, tZ_sR, tC_sR, tc_sR, tz_sR, tI_sZ, tL_sZ, tR_sZ, tN_sZ, tZ_sZ, tC_sZ, tc_sZ, tz_sZ, tI_sC, tL_sC, tR_sC, tN_sC, tZ_sC, tC_sC, tc_sC, tz_sC, tI_aC, tL_aC, tR_aC, tN_aC, tZ_aC, tC_aC, tc_aC, tz_aC, tI_rmL, tL_rmL, tR_rmL, tN_rmL, tZ_rmL, tC_rmL, tc_rmL, tz_rmL, tI_mk, tL_mk, tR_mk, tN_mk, tZ_mk, tC_mk, tc_mk, tz_mk, tI_pushL, tL_pushL, tR_pushL, tN_pushL, tZ_pushL, tC_pushL, tc_pushL, tz_pushL, tI_pushB, tL_pushB, tR_pushB, tN_pushB, tZ_pushB, tC_pushB, tc_pushB, tz_pushB, tI_cpL, tL_cpL, tR_cpL, tN_cpL, tZ_cpL, tC_cpL, tc_cpL, tz_cpL, eq_self, true_and, and_true, false_and, and_false, if_true, if_false, reduceIte, ite_true, ite_false, not_true_eq_false, not_false_eq_true, hj, x29 hj, gm hs hr, h4, h5, h6, ← hst, x2 _ _ _ _ hcd, hcd, e1, e2, y8, e3'', e3', e4, e5, hT, ht, reduceCtorEq]
              split <;> rfl
            · simp (config := {decide := true}) only [gfI_enc, gfL_enc, gfR_enc, pfI_enc, pfL_enc, pfR_enc, Option.bind_some, cI_v, cL_v, cF_v, cD_v, cR_v, cV_v, cI_x, cL_x, cR_x, cV_x, gz_0, gz_1, acc_enc, tI_sI, tL_sI, tR_sI, tN_sI, tZ_sI, tC_sI, tc_sI, tz_sI, tI_sL, tL_sL, tR_sL, tN_sL, tZ_sL, tC_sL, tc_sL, tz_sL, tI_sR, tL_sR, tR_sR, tN_sR, tZ_sR, tC_sR, tc_sR, tz_sR, tI_sZ, tL_sZ, tR_sZ, tN_sZ, tZ_sZ, tC_sZ, tc_sZ, tz_sZ, tI_sC, tL_sC, tR_sC, tN_sC, tZ_sC, tC_sC, tc_sC, tz_sC, tI_aC, tL_aC, tR_aC, tN_aC, tZ_aC, tC_aC, tc_aC, tz_aC, tI_rmL, tL_rmL, tR_rmL, tN_rmL, tZ_rmL, tC_rmL, tc_rmL, tz_rmL, tI_mk, tL_mk, tR_mk, tN_mk, tZ_mk, tC_mk, tc_mk, tz_mk, tI_pushL, tL_pushL, tR_pushL, tN_pushL, tZ_pushL, tC_pushL, tc_pushL, tz_pushL, tI_pushB, tL_pushB, tR_pushB, tN_pushB, tZ_pushB, tC_pushB, tc_pushB, tz_pushB, tI_cpL, tL_cpL, tR_cpL, tN_cpL, tZ_cpL, tC_cpL, tc_cpL, tz_cpL, eq_self, true_and, and_true, false_and, and_false, if_true, if_false, reduceIte, ite_true, ite_false, not_true_eq_false, not_false_eq_true, hj, x29 hj, gm hs hr, h4, h5, h6, ← hst, x2 _ _ _ _ hcd, hcd, e1, e2, y8, e3'', e3', e4, e5, hT, ht, reduceCtorEq]
          · simp (config := {decide := true}) only [gfI_enc, gfL_enc, gfR_enc, pfI_enc, pfL_enc, pfR_enc, Option.bind_some, cI_v, cL_v, cF_v, cD_v, cR_v, cV_v, cI_x, cL_x, cR_x, cV_x, gz_0, gz_1, acc_enc, tI_sI, tL_sI, tR_sI, tN_sI, tZ_sI, tC_sI, tc_sI, tz_sI, tI_sL, tL_sL, tR_sL, tN_sL, tZ_sL, tC_sL, tc_sL, tz_sL, tI_sR, tL_sR, tR_sR, tN_sR, tZ_sR, tC_sR, tc_sR, tz_sR, tI_sZ, tL_sZ, tR_sZ, tN_sZ, tZ_sZ, tC_sZ, tc_sZ, tz_sZ, tI_sC, tL_sC, tR_sC, tN_sC, tZ_sC, tC_sC, tc_sC, tz_sC, tI_aC, tL_aC, tR_aC, tN_aC, tZ_aC, tC_aC, tc_aC, tz_aC, tI_rmL, tL_rmL, tR_rmL, tN_rmL, tZ_rmL, tC_rmL, tc_rmL, tz_rmL, tI_mk, tL_mk, tR_mk, tN_mk, tZ_mk, tC_mk, tc_mk, tz_mk, tI_pushL, tL_pushL, tR_pushL, tN_pushL, tZ_pushL, tC_pushL, tc_pushL, tz_pushL, tI_pushB, tL_pushB, tR_pushB, tN_pushB, tZ_pushB, tC_pushB, tc_pushB, tz_pushB, tI_cpL, tL_cpL, tR_cpL, tN_cpL, tZ_cpL, tC_cpL, tc_cpL, tz_cpL, eq_self, true_and, and_true, false_and, and_false, if_true, if_false, reduceIte, ite_true, ite_false, not_true_eq_false, not_false_eq_true, hj, x29 hj, gm hs hr, h4, h5, h6, ← hst, x2 _ _ _ _ hcd, hcd, e1, e2, y8, e3'', e3', e4, hT, ht, reduceCtorEq]
        · simp (config := {decide := true}) only [gfI_enc, gfL_enc, gfR_enc, pfI_enc, pfL_enc, pfR_enc, Option.bind_some, cI_v, cL_v, cF_v, cD_v, cR_v, cV_v, cI_x, cL_x, cR_x, cV_x, gz_0, gz_1, acc_enc, tI_sI, tL_sI, tR_sI, tN_sI, tZ_sI, tC_sI, tc_sI, tz_sI, tI_sL, tL_sL, tR_sL, tN_sL, tZ_sL, tC_sL, tc_sL, tz_sL, tI_sR, tL_sR, tR_sR, tN_sR, tZ_sR, tC_sR, tc_sR, tz_sR, tI_sZ, tL_sZ, tR_sZ, tN_sZ, tZ_sZ, tC_sZ, tc_sZ, tz_sZ, tI_sC, tL_sC, tR_sC, tN_sC, tZ_sC, tC_sC, tc_sC, tz_sC, tI_aC, tL_aC, tR_aC, tN_aC, tZ_aC, tC_aC, tc_aC, tz_aC, tI_rmL, tL_rmL, tR_rmL, tN_rmL, tZ_rmL, tC_rmL, tc_rmL, tz_rmL, tI_mk, tL_mk, tR_mk, tN_mk, tZ_mk, tC_mk, tc_mk, tz_mk, tI_pushL, tL_pushL, tR_pushL, tN_pushL, tZ_pushL, tC_pushL, tc_pushL, tz_pushL, tI_pushB, tL_pushB, tR_pushB, tN_pushB, tZ_pushB, tC_pushB, tc_pushB, tz_pushB, tI_cpL, tL_cpL, tR_cpL, tN_cpL, tZ_cpL, tC_cpL, tc_cpL, tz_cpL, eq_self, true_and, and_true, false_and, and_false, if_true, if_false, reduceIte, ite_true, ite_false, not_true_eq_false, not_false_eq_true, hj, x29 hj, gm hs hr, h4, h5, h6, ← hst, x2 _ _ _ _ hcd, hcd, e1, e2, y8, e3, e3', hT, ht, reduceCtorEq]
    · simp (config := {decide := true}) only [gfI_enc, gfL_enc, gfR_enc, pfI_enc, pfL_enc, pfR_enc, Option.bind_some, cI_v, cL_v, cF_v, cD_v, cR_v, cV_v, cI_x, cL_x, cR_x, cV_x, gz_0, gz_1, acc_enc, tI_sI, tL_sI, tR_sI, tN_sI, tZ_sI, tC_sI, tc_sI, tz_sI, tI_sL, tL_sL, tR_sL, tN_sL, tZ_sL, tC_sL, tc_sL, tz_sL, tI_sR, tL_sR, tR_sR, tN_sR, tZ_sR, tC_sR, tc_sR, tz_sR, tI_sZ, tL_sZ, tR_sZ, tN_sZ, tZ_sZ, tC_sZ, tc_sZ, tz_sZ, tI_sC, tL_sC, tR_sC, tN_sC, tZ_sC, tC_sC, tc_sC, tz_sC, tI_aC, tL_aC, tR_aC, tN_aC, tZ_aC, tC_aC, tc_aC, tz_aC, tI_rmL, tL_rmL, tR_rmL, tN_rmL, tZ_rmL, tC_rmL, tc_rmL, tz_rmL, tI_mk, tL_mk, tR_mk, tN_mk, tZ_mk, tC_mk, tc_mk, tz_mk, tI_pushL, tL_pushL, tR_pushL, tN_pushL, tZ_pushL, tC_pushL, tc_pushL, tz_pushL, tI_pushB, tL_pushB, tR_pushB, tN_pushB, tZ_pushB, tC_pushB, tc_pushB, tz_pushB, tI_cpL, tL_cpL, tR_cpL, tN_cpL, tZ_cpL, tC_cpL, tc_cpL, tz_cpL, eq_self, true_and, and_true, false_and, and_false, if_true, if_false, reduceIte, ite_true, ite_false, not_true_eq_false, not_false_eq_true, hj, x29 hj, gm hs hr, e1, e2, reduceCtorEq]
  · simp (config := {decide := true}) only [gfI_enc, gfL_enc, gfR_enc, pfI_enc, pfL_enc, pfR_enc, Option.bind_some, cI_v, cL_v, cF_v, cD_v, cR_v, cV_v, cI_x, cL_x, cR_x, cV_x, gz_0, gz_1, acc_enc, tI_sI, tL_sI, tR_sI, tN_sI, tZ_sI, tC_sI, tc_sI, tz_sI, tI_sL, tL_sL, tR_sL, tN_sL, tZ_sL, tC_sL, tc_sL, tz_sL, tI_sR, tL_sR, tR_sR, tN_sR, tZ_sR, tC_sR, tc_sR, tz_sR, tI_sZ, tL_sZ, tR_sZ, tN_sZ, tZ_sZ, tC_sZ, tc_sZ, tz_sZ, tI_sC, tL_sC, tR_sC, tN_sC, tZ_sC, tC_sC, tc_sC, tz_sC, tI_aC, tL_aC, tR_aC, tN_aC, tZ_aC, tC_aC, tc_aC, tz_aC, tI_rmL, tL_rmL, tR_rmL, tN_rmL, tZ_rmL, tC_rmL, tc_rmL, tz_rmL, tI_mk, tL_mk, tR_mk, tN_mk, tZ_mk, tC_mk, tc_mk, tz_mk, tI_pushL, tL_pushL, tR_pushL, tN_pushL, tZ_pushL, tC_pushL, tc_pushL, tz_pushL, tI_pushB, tL_pushB, tR_pushB, tN_pushB, tZ_pushB, tC_pushB, tc_pushB, tz_pushB, tI_cpL, tL_cpL, tR_cpL, tN_cpL, tZ_cpL, tC_cpL, tc_cpL, tz_cpL, eq_self, true_and, and_true, false_and, and_false, if_true, if_false, reduceIte, ite_true, ite_false, not_true_eq_false, not_false_eq_true, hj, x29 hj, gm hs hr, e1, reduceCtorEq]
theorem y168 {a b : TS} {p j cd t c s : Nat} {st m : Int32} (hF : FxR b) (hG : RG a b) (hB : RB a b) (hC : RC a b) (hE : RE a b) (hP : tZ a 29 0 ≤ 200) (hp : p < tZ a 29 0) (hp1 : tI b 87 0 (10 * p + 1) = Int32.ofNat cd) (hp4 : tI b 87 0 (10 * p + 4) = Int32.ofNat c)
    (hj : j < tN b 61) (hk : tR b 53 0 p = some (61, j)) (hcd : cd < tZ a 28 0) (hc : c < 201) (h9 : kI a p 5 = hI b p 9) (h8 : hI b p 8 = 0 → kR a p 8 = none) (h8' : hI b p 8 ≠ 0 → kR a p 8 ≠ none) (ht : t < tZ a 26 0) (hT : tI b 86 0 (10 * cd + 9) = Int32.ofNat t)
    (hst : st = stp (keyL (Int32.ofNat cd)) (Int32.ofNat c) m (Int32.ofNat s) 2) :
    ∃ b', (∀ z, Ex 168 [aR (some (94, 0)), aR (some (61, j)), aI (Int32.ofNat s), aI (Int32.ofNat p), aI (Int32.ofNat cd), aI (Int32.ofNat c), aI m, aI st] (enc 2 b z) = some (.inl (some (aI (rsn a p cd t c m))), enc 2 b' z)) ∧ chF [54, 55, 56] [(94, 6)] b b' ∧ RG (if rsH (rsn a p cd t c m) then heA a cd c (Int32.ofNat p) else a) b' ∧ Wr b b' := by
  obtain ⟨c1, c2, c3, c4, c5⟩ := hC
  obtain ⟨b1, b2, b3, b4, b5, b6, b7⟩ := hB
  obtain ⟨k1, k2, k3, k4, k5⟩ := b5 t ht
  obtain ⟨e1, e2⟩ := hE
  obtain ⟨f1, f2, -⟩ := e1 cd hcd
  have h8c : cd < 8 := by omega
  have ht8 : t < 8 := by omega
  have i1 := o_ix (n := cd) (by omega)
  have i2 := o_lt0 (n := cd) (by omega)
  subst hst
  have y162 := fun z => y162 (z := z) (n := p) hF hG hcd c1 hc hP (by omega)
  by_cases d1 : kI a p 5 = 0
  · have d1' : tI b 61 j 9 = 0 := by rw [← hI_at hk, ← h9]; exact d1
    by_cases d2 : kR a p 8 = none
    · have d2' : tI b 61 j 8 = 0 := by
        rw [← hI_at hk]
        by_cases q : hI b p 8 = 0
        · exact q
        · exact absurd d2 (h8' q)
      by_cases d3 : oth a cd c (Int32.ofNat p) = 0
      · obtain ⟨b', y, yG, yF, yW⟩ := y163 hF hG hcd c1 hc hP hp hp1 hp4
        have hF' : FxR b' := FxR_s hF yW yF (by decide)
        have q58 : tI b' 58 0 cd = tI a 37 cd 12 := (dIS yF (S := [58]) (P := []) (by decide) (by simp) 0 cd).trans f1.symm
        have q47 : tI b' 47 0 t = tI a 35 t 2 := (dIS yF (S := [47]) (P := []) (by decide) (by simp) 0 t).trans k4.symm
        have q43 : tL b' 43 0 t = tL a 35 t 0 := (dLS yF (S := [43]) (P := []) (by decide) (by simp) 0 t).trans k2.symm
        have q44 : tL b' 44 0 t = tL a 35 t 1 := (dLS yF (S := [44]) (P := []) (by decide) (by simp) 0 t).trans k3.symm
        have q86 : tI b' 86 0 (10 * cd + 9) = Int32.ofNat t := (dIS yF (S := [86]) (P := []) (by decide) (by simp) 0 _).trans hT
        have q47b : bitOk (tI b' 47 0 t) = true := by rw [q47, k4]; exact k5
        refine ⟨b', fun z => ?_, yF, ?_, yW⟩
        · refine (X_in (by decide +kernel) (frN_94 hF) rfl).trans ((lf_168_0 ..).trans ?_)
          unfold rsn
          rw [if_pos d1, if_pos d2, if_pos d3]
          simp (config := {decide := true}) only [gfI_enc, gfL_enc, gfR_enc, pfI_enc, pfL_enc, pfR_enc, Option.bind_some, cI_v, cL_v, cF_v, cD_v, cR_v, cV_v, cI_x, cL_x, cR_x, cV_x, gz_0, gz_1, acc_enc, tI_sI, tL_sI, tR_sI, tN_sI, tZ_sI, tC_sI, tc_sI, tz_sI, tI_sL, tL_sL, tR_sL, tN_sL, tZ_sL, tC_sL, tc_sL, tz_sL, tI_sR, tL_sR, tR_sR, tN_sR, tZ_sR, tC_sR, tc_sR, tz_sR, tI_sZ, tL_sZ, tR_sZ, tN_sZ, tZ_sZ, tC_sZ, tc_sZ, tz_sZ, tI_sC, tL_sC, tR_sC, tN_sC, tZ_sC, tC_sC, tc_sC, tz_sC, tI_aC, tL_aC, tR_aC, tN_aC, tZ_aC, tC_aC, tc_aC, tz_aC, tI_rmL, tL_rmL, tR_rmL, tN_rmL, tZ_rmL, tC_rmL, tc_rmL, tz_rmL, tI_mk, tL_mk, tR_mk, tN_mk, tZ_mk, tC_mk, tc_mk, tz_mk, tI_pushL, tL_pushL, tR_pushL, tN_pushL, tZ_pushL, tC_pushL, tc_pushL, tz_pushL, tI_pushB, tL_pushB, tR_pushB, tN_pushB, tZ_pushB, tC_pushB, tc_pushB, tz_pushB, tI_cpL, tL_cpL, tR_cpL, tN_cpL, tZ_cpL, tC_cpL, tc_cpL, tz_cpL, eq_self, true_and, and_true, false_and, and_false, if_true, if_false, reduceIte, ite_true, ite_false, not_true_eq_false, not_false_eq_true, frN_94 hF, hj, d1', d2', y159 hF c4 c1 hcd, y160 _ _ _ _ _ _ hF, y162, d3, y, frN_94 hF', frR_94_0 hF', frR_94_1 hF', frR_94_8 hF', frN_58 hF', frZ_58 hF', gaI_enc, i1, i2, h8c, y233 hF' h8c, q86, q58, y146 hF' ht8 q47b, q47, y144 hF' ht8, y145 hF' ht8, q43, q44]
          by_cases d4 : tI a 37 cd 12 = 0
          · rw [if_pos d4, if_pos d4]
            by_cases d5 : tI a 35 t 2 = 0
            · rw [if_pos d5, if_pos d5]
              split <;> rfl
            · rw [if_neg d5, if_neg d5]
          · rw [if_neg d4, if_neg d4]
        · have : rsH (rsn a p cd t c m) = true := by
            unfold rsn
            rw [if_pos d1, if_pos d2, if_pos d3]
            repeat' split
            all_goals rfl
          rw [if_pos this]
          exact yG
      · have d3' : oth a cd c (Int32.ofNat p) = 1 := by
          unfold oth at *
          repeat' split
          all_goals first | rfl | (rename_i q1 q2; rw [if_neg q1, if_pos q2] at d3; exact absurd rfl d3) | (rename_i q1; rw [if_pos q1] at d3; exact absurd rfl d3)
        have e : rsn a p cd t c m = 3 := by
          unfold rsn
          rw [if_pos d1, if_pos d2, if_neg d3]
        refine ⟨b, fun z => ?_, chF_r _ _ _, ?_, Wr.rf b⟩
        · refine (X_in (by decide +kernel) (frN_94 hF) rfl).trans ((lf_168_0 ..).trans ?_)
          rw [e]
          simp (config := {decide := true}) only [gfI_enc, gfL_enc, gfR_enc, pfI_enc, pfL_enc, pfR_enc, Option.bind_some, cI_v, cL_v, cF_v, cD_v, cR_v, cV_v, cI_x, cL_x, cR_x, cV_x, gz_0, gz_1, acc_enc, tI_sI, tL_sI, tR_sI, tN_sI, tZ_sI, tC_sI, tc_sI, tz_sI, tI_sL, tL_sL, tR_sL, tN_sL, tZ_sL, tC_sL, tc_sL, tz_sL, tI_sR, tL_sR, tR_sR, tN_sR, tZ_sR, tC_sR, tc_sR, tz_sR, tI_sZ, tL_sZ, tR_sZ, tN_sZ, tZ_sZ, tC_sZ, tc_sZ, tz_sZ, tI_sC, tL_sC, tR_sC, tN_sC, tZ_sC, tC_sC, tc_sC, tz_sC, tI_aC, tL_aC, tR_aC, tN_aC, tZ_aC, tC_aC, tc_aC, tz_aC, tI_rmL, tL_rmL, tR_rmL, tN_rmL, tZ_rmL, tC_rmL, tc_rmL, tz_rmL, tI_mk, tL_mk, tR_mk, tN_mk, tZ_mk, tC_mk, tc_mk, tz_mk, tI_pushL, tL_pushL, tR_pushL, tN_pushL, tZ_pushL, tC_pushL, tc_pushL, tz_pushL, tI_pushB, tL_pushB, tR_pushB, tN_pushB, tZ_pushB, tC_pushB, tc_pushB, tz_pushB, tI_cpL, tL_cpL, tR_cpL, tN_cpL, tZ_cpL, tC_cpL, tc_cpL, tz_cpL, eq_self, true_and, and_true, false_and, and_false, if_true, if_false, reduceIte, ite_true, ite_false, not_true_eq_false, not_false_eq_true, frN_94 hF, hj, d1', d2', y159 hF c4 c1 hcd, y160 _ _ _ _ _ _ hF, y162, d3']
        · rw [e, if_neg (by decide)]
          exact hG
    · have d2' : ¬ tI b 61 j 8 = 0 := by
        rw [← hI_at hk]
        exact fun q => d2 (h8 q)
      have e : rsn a p cd t c m = 7 := by
        unfold rsn
        rw [if_pos d1, if_neg d2]
      refine ⟨b, fun z => ?_, chF_r _ _ _, ?_, Wr.rf b⟩
      · refine (X_in (by decide +kernel) (frN_94 hF) rfl).trans ((lf_168_0 ..).trans ?_)
        rw [e]
        simp (config := {decide := true}) only [gfI_enc, gfL_enc, gfR_enc, pfI_enc, pfL_enc, pfR_enc, Option.bind_some, cI_v, cL_v, cF_v, cD_v, cR_v, cV_v, cI_x, cL_x, cR_x, cV_x, gz_0, gz_1, acc_enc, tI_sI, tL_sI, tR_sI, tN_sI, tZ_sI, tC_sI, tc_sI, tz_sI, tI_sL, tL_sL, tR_sL, tN_sL, tZ_sL, tC_sL, tc_sL, tz_sL, tI_sR, tL_sR, tR_sR, tN_sR, tZ_sR, tC_sR, tc_sR, tz_sR, tI_sZ, tL_sZ, tR_sZ, tN_sZ, tZ_sZ, tC_sZ, tc_sZ, tz_sZ, tI_sC, tL_sC, tR_sC, tN_sC, tZ_sC, tC_sC, tc_sC, tz_sC, tI_aC, tL_aC, tR_aC, tN_aC, tZ_aC, tC_aC, tc_aC, tz_aC, tI_rmL, tL_rmL, tR_rmL, tN_rmL, tZ_rmL, tC_rmL, tc_rmL, tz_rmL, tI_mk, tL_mk, tR_mk, tN_mk, tZ_mk, tC_mk, tc_mk, tz_mk, tI_pushL, tL_pushL, tR_pushL, tN_pushL, tZ_pushL, tC_pushL, tc_pushL, tz_pushL, tI_pushB, tL_pushB, tR_pushB, tN_pushB, tZ_pushB, tC_pushB, tc_pushB, tz_pushB, tI_cpL, tL_cpL, tR_cpL, tN_cpL, tZ_cpL, tC_cpL, tc_cpL, tz_cpL, eq_self, true_and, and_true, false_and, and_false, if_true, if_false, reduceIte, ite_true, ite_false, not_true_eq_false, not_false_eq_true, frN_94 hF, hj, d1', d2']
      · rw [e, if_neg (by decide)]
        exact hG
  · have d1' : ¬ tI b 61 j 9 = 0 := by rw [← hI_at hk, ← h9]; exact d1
    have e : rsn a p cd t c m = 7 := by
      unfold rsn
      rw [if_neg d1]
    refine ⟨b, fun z => ?_, chF_r _ _ _, ?_, Wr.rf b⟩
    · refine (X_in (by decide +kernel) (frN_94 hF) rfl).trans ((lf_168_0 ..).trans ?_)
      rw [e]
      simp (config := {decide := true}) only [gfI_enc, gfL_enc, gfR_enc, pfI_enc, pfL_enc, pfR_enc, Option.bind_some, cI_v, cL_v, cF_v, cD_v, cR_v, cV_v, cI_x, cL_x, cR_x, cV_x, gz_0, gz_1, acc_enc, tI_sI, tL_sI, tR_sI, tN_sI, tZ_sI, tC_sI, tc_sI, tz_sI, tI_sL, tL_sL, tR_sL, tN_sL, tZ_sL, tC_sL, tc_sL, tz_sL, tI_sR, tL_sR, tR_sR, tN_sR, tZ_sR, tC_sR, tc_sR, tz_sR, tI_sZ, tL_sZ, tR_sZ, tN_sZ, tZ_sZ, tC_sZ, tc_sZ, tz_sZ, tI_sC, tL_sC, tR_sC, tN_sC, tZ_sC, tC_sC, tc_sC, tz_sC, tI_aC, tL_aC, tR_aC, tN_aC, tZ_aC, tC_aC, tc_aC, tz_aC, tI_rmL, tL_rmL, tR_rmL, tN_rmL, tZ_rmL, tC_rmL, tc_rmL, tz_rmL, tI_mk, tL_mk, tR_mk, tN_mk, tZ_mk, tC_mk, tc_mk, tz_mk, tI_pushL, tL_pushL, tR_pushL, tN_pushL, tZ_pushL, tC_pushL, tc_pushL, tz_pushL, tI_pushB, tL_pushB, tR_pushB, tN_pushB, tZ_pushB, tC_pushB, tc_pushB, tz_pushB, tI_cpL, tL_cpL, tR_cpL, tN_cpL, tZ_cpL, tC_cpL, tc_cpL, tz_cpL, eq_self, true_and, and_true, false_and, and_false, if_true, if_false, reduceIte, ite_true, ite_false, not_true_eq_false, not_false_eq_true, frN_94 hF, hj, d1']
    · rw [e, if_neg (by decide)]
      exact hG
