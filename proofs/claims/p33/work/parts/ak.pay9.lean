/-! ===== a payment: the class's whole row ===== -/
theorem x69 {X a' : TS} {p sh cd : Nat} (h36 : sh < tN X 36) (h6 : tR X 36 sh 6 = some (18, sh)) (h4 : tR X 36 sh 4 = some (21, sh)) (h18 : sh < tN X 18) (hz : tZ X 18 sh < 30000) (hc : tZ X 18 sh ≤ tC X 18 sh) (hk : tC X 18 sh < 50000) (hp : p < tN X 38) (h1 : tR X 38 p 1 = some (37, cd)) (hcd : cd < tN X 37)
    (hy : ∀ z, Ex 37 [aR (some (21, sh)), aR (some (11, tN X 11))] (enc 1 (msA 11 (pushL X 18 sh (some (38, p))) 1 (tI X 38 p 0) (tI X 37 cd 0) (tI X 38 p 4) (tI X 38 p 3) (tI X 38 p 5)) z) = some (.inl none, enc 1 a' z)) (z : Hp) :
    Ex 69 [aR (some (36, sh)), aR (some (38, p))] (enc 1 X z) = some (.inl none, enc 1 a' z) := by
  have f401 := fun z => X401 (w := 1) (s := 18) (i := sh) (m := X) (z := z) (v := some (38, p)) (by decide +kernel) h18 hz hc hk rfl
  have f48 := fun z => x48 (a := pushL X 18 sh (some (38, p))) (z := z) (p := p) (cd := cd) (by rw [tN_pushL]; exact hp) (by rw [tR_pushL, if_neg (fun q => absurd q.1 (by decide))]; exact h1) (by rw [tN_pushL]; exact hcd)
  rw [tN_pushL, tI_pushL, tI_pushL, tI_pushL, tI_pushL, tI_pushL] at f48
  refine (X_in (by decide +kernel) (h36) rfl).trans ((lf_69_0 ..).trans ?_)
  simp (config := {decide := true}) only [gfI_enc, gfL_enc, gfR_enc, pfI_enc, pfL_enc, pfR_enc, Option.bind_some, cI_v, cL_v, cF_v, cD_v, cR_v, cV_v, cI_x, cL_x, cR_x, cV_x, gz_0, gz_1, acc_enc, tI_sI, tL_sI, tR_sI, tN_sI, tZ_sI, tC_sI, tc_sI, tz_sI, tI_sL, tL_sL, tR_sL, tN_sL, tZ_sL, tC_sL, tc_sL, tz_sL, tI_sR, tL_sR, tR_sR, tN_sR, tZ_sR, tC_sR, tc_sR, tz_sR, tI_sZ, tL_sZ, tR_sZ, tN_sZ, tZ_sZ, tC_sZ, tc_sZ, tz_sZ, tI_sC, tL_sC, tR_sC, tN_sC, tZ_sC, tC_sC, tc_sC, tz_sC, tI_aC, tL_aC, tR_aC, tN_aC, tZ_aC, tC_aC, tc_aC, tz_aC, tI_rmL, tL_rmL, tR_rmL, tN_rmL, tZ_rmL, tC_rmL, tc_rmL, tz_rmL, tI_mk, tL_mk, tR_mk, tN_mk, tZ_mk, tC_mk, tc_mk, tz_mk, tI_pushL, tL_pushL, tR_pushL, tN_pushL, tZ_pushL, tC_pushL, tc_pushL, tz_pushL, tI_pushB, tL_pushB, tR_pushB, tN_pushB, tZ_pushB, tC_pushB, tc_pushB, tz_pushB, tI_cpL, tL_cpL, tR_cpL, tN_cpL, tZ_cpL, tC_cpL, tc_cpL, tz_cpL, eq_self, true_and, and_true, false_and, and_false, if_true, if_false, reduceIte, ite_true, ite_false, not_true_eq_false, not_false_eq_true, h36, h6, f401, h4, f48, hy]
/-- the last part of the class's row -/
theorem x96_tail {S : TS} {p cd sh : Nat} {m q v10 : Int32} {R : Res} {z : Hp} (hS : sh < tN S 36) (h10 : tI S 36 sh 10 = v10)
    (f68 : Ex 68 [aR (some (36, sh)), aI m] (enc 1 S z) = some (.inl (some (aI q)), enc 1 S z))
    (hR : (if q = 0 then
              cI (Ex 5 [aR (some (37, cd)), aI m] (enc 1 (sI S 36 sh 10 (v10 + 1)) z)) (fun x29 h28 =>
              if x29 = 0 then
                cV (Ex 44 [aR (some (38, p))] h28) (fun h30 =>
                cV (Ex 69 [aR (some (36, sh)), aR (some (38, p))] h30) (fun h31 =>
                (gfI h31 (some (38, p)) 7 0).bind (fun x32 =>
                some (.inl (some (aI x32)), h31))) xT) xT
              else
                cV (Ex 43 [aR (some (38, p))] h28) (fun h33 =>
                (gfI h33 (some (38, p)) 7 0).bind (fun x34 =>
                some (.inl (some (aI x34)), h33))) xT) xT
            else
              cV (Ex 44 [aR (some (38, p))] (enc 1 (sI S 36 sh 10 (v10 + 1)) z)) (fun h35 =>
              cV (Ex 69 [aR (some (36, sh)), aR (some (38, p))] h35) (fun h36 =>
              (gfI h36 (some (38, p)) 7 0).bind (fun x37 =>
              some (.inl (some (aI x37)), h36))) xT) xT) = R) :
    (cI (Ex 68 [aR (some (36, sh)), aI m] (enc 1 S z)) (fun x25 h24 =>
            (gfI h24 (some (36, sh)) 10 10).bind (fun x26 =>
            (pf h24 (some (36, sh)) 10 10 (aI (x26 + (1 : Int32)))).bind (fun h27 =>
            if x25 = 0 then
              cI (Ex 5 [aR (some (37, cd)), aI m] h27) (fun x29 h28 =>
              if x29 = 0 then
                cV (Ex 44 [aR (some (38, p))] h28) (fun h30 =>
                cV (Ex 69 [aR (some (36, sh)), aR (some (38, p))] h30) (fun h31 =>
                (gfI h31 (some (38, p)) 7 0).bind (fun x32 =>
                some (.inl (some (aI x32)), h31))) xT) xT
              else
                cV (Ex 43 [aR (some (38, p))] h28) (fun h33 =>
                (gfI h33 (some (38, p)) 7 0).bind (fun x34 =>
                some (.inl (some (aI x34)), h33))) xT) xT
            else
              cV (Ex 44 [aR (some (38, p))] h27) (fun h35 =>
              cV (Ex 69 [aR (some (36, sh)), aR (some (38, p))] h35) (fun h36 =>
              (gfI h36 (some (38, p)) 7 0).bind (fun x37 =>
              some (.inl (some (aI x37)), h36))) xT) xT))) xT) = R := by
  have k1 : gfI (enc 1 S z) (some (36, sh)) 10 10 = some v10 := by
    subst h10
    simp (config := {decide := true}) only [gfI_enc, gfL_enc, gfR_enc, pfI_enc, pfL_enc, pfR_enc, Option.bind_some, cI_v, cL_v, cF_v, cD_v, cR_v, cV_v, cI_x, cL_x, cR_x, cV_x, gz_0, gz_1, acc_enc, tI_sI, tL_sI, tR_sI, tN_sI, tZ_sI, tC_sI, tc_sI, tz_sI, tI_sL, tL_sL, tR_sL, tN_sL, tZ_sL, tC_sL, tc_sL, tz_sL, tI_sR, tL_sR, tR_sR, tN_sR, tZ_sR, tC_sR, tc_sR, tz_sR, tI_sZ, tL_sZ, tR_sZ, tN_sZ, tZ_sZ, tC_sZ, tc_sZ, tz_sZ, tI_sC, tL_sC, tR_sC, tN_sC, tZ_sC, tC_sC, tc_sC, tz_sC, tI_aC, tL_aC, tR_aC, tN_aC, tZ_aC, tC_aC, tc_aC, tz_aC, tI_rmL, tL_rmL, tR_rmL, tN_rmL, tZ_rmL, tC_rmL, tc_rmL, tz_rmL, tI_mk, tL_mk, tR_mk, tN_mk, tZ_mk, tC_mk, tc_mk, tz_mk, tI_pushL, tL_pushL, tR_pushL, tN_pushL, tZ_pushL, tC_pushL, tc_pushL, tz_pushL, tI_pushB, tL_pushB, tR_pushB, tN_pushB, tZ_pushB, tC_pushB, tc_pushB, tz_pushB, tI_cpL, tL_cpL, tR_cpL, tN_cpL, tZ_cpL, tC_cpL, tc_cpL, tz_cpL, eq_self, true_and, and_true, false_and, and_false, if_true, if_false, reduceIte, ite_true, ite_false, not_true_eq_false, not_false_eq_true, hS]
  have k2 : pf (enc 1 S z) (some (36, sh)) 10 10 (aI (v10 + 1)) = some (enc 1 (sI S 36 sh 10 (v10 + 1)) z) := by simp (config := {decide := true}) only [gfI_enc, gfL_enc, gfR_enc, pfI_enc, pfL_enc, pfR_enc, Option.bind_some, cI_v, cL_v, cF_v, cD_v, cR_v, cV_v, cI_x, cL_x, cR_x, cV_x, gz_0, gz_1, acc_enc, tI_sI, tL_sI, tR_sI, tN_sI, tZ_sI, tC_sI, tc_sI, tz_sI, tI_sL, tL_sL, tR_sL, tN_sL, tZ_sL, tC_sL, tc_sL, tz_sL, tI_sR, tL_sR, tR_sR, tN_sR, tZ_sR, tC_sR, tc_sR, tz_sR, tI_sZ, tL_sZ, tR_sZ, tN_sZ, tZ_sZ, tC_sZ, tc_sZ, tz_sZ, tI_sC, tL_sC, tR_sC, tN_sC, tZ_sC, tC_sC, tc_sC, tz_sC, tI_aC, tL_aC, tR_aC, tN_aC, tZ_aC, tC_aC, tc_aC, tz_aC, tI_rmL, tL_rmL, tR_rmL, tN_rmL, tZ_rmL, tC_rmL, tc_rmL, tz_rmL, tI_mk, tL_mk, tR_mk, tN_mk, tZ_mk, tC_mk, tc_mk, tz_mk, tI_pushL, tL_pushL, tR_pushL, tN_pushL, tZ_pushL, tC_pushL, tc_pushL, tz_pushL, tI_pushB, tL_pushB, tR_pushB, tN_pushB, tZ_pushB, tC_pushB, tc_pushB, tz_pushB, tI_cpL, tL_cpL, tR_cpL, tN_cpL, tZ_cpL, tC_cpL, tc_cpL, tz_cpL, eq_self, true_and, and_true, false_and, and_false, if_true, if_false, reduceIte, ite_true, ite_false, not_true_eq_false, not_false_eq_true, hS]
  rw [f68, cI_v, k1, Option.bind_some, k2, Option.bind_some]
  exact hR
