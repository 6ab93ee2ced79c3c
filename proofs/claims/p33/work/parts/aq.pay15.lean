/-! ===== a payment: how it ends, in the class and in the reference ===== -/
theorem pay_tailA {S a' : TS} {p cd sh : Nat} {m q st st1 : Int32} {G : Prop} [Decidable G] (p38 : p < tN S 38) (r1 : tR S 38 p 1 = some (37, cd)) (h37 : cd < tN S 37) (r2 : tR S 38 p 2 = some (36, sh)) (h36 : sh < tN S 36) (i0 : tI S 38 p 0 = Int32.ofNat p)
    (hst : stp (tI S 37 cd 3).toInt64 (tI S 38 p 4) (tI S 38 p 3) (tI S 36 sh 0) 2 = st) (hst1 : stp (tI S 37 cd 3).toInt64 (tI S 38 p 4) (tI S 38 p 3) (tI S 36 sh 0) 1 = st1)
    (h69 : ∀ z, Ex 69 [aR (some (36, sh)), aR (some (38, p))] (enc 1 (sI (sI S 38 p 7 1) 38 p 5 st) z) = some (.inl none, enc 1 a' z)) (ha0 : tI a' 38 p 0 = Int32.ofNat p) (ha1 : p < tN a' 38)
    (hG : G ↔ (q = 0 ∧ ¬ tI S 37 cd 4 ≤ tI S 37 cd 9 ∧ tI S 37 cd 10 + m ≤ tI S 37 cd 5)) (z : Hp) :
    (if q = 0 then
              cI (Ex 5 [aR (some (37, cd)), aI m] (enc 1 S z)) (fun x29 h28 =>
              if x29 = 0 then
                cV (Ex 44 [aR (some (38, p))] h28) (fun h30 =>
                cV (Ex 69 [aR (some (36, sh)), aR (some (38, p))] h30) (fun h31 =>
                (gfI h31 (some (38, p)) 7 0).bind (fun x32 =>
                some (.inl (some (aI x32)), h31))) xT) xT
              else
                cV (Ex 43 [aR (some (38, p))] h28) (fun h33 =>
                (gfI h33 (some (38, p)) 7 0).bind (fun x34 =>
                some (.inl (some (aI x34)), h33))) xT) xT
            else
              cV (Ex 44 [aR (some (38, p))] (enc 1 S z)) (fun h35 =>
              cV (Ex 69 [aR (some (36, sh)), aR (some (38, p))] h35) (fun h36 =>
              (gfI h36 (some (38, p)) 7 0).bind (fun x37 =>
              some (.inl (some (aI x37)), h36))) xT) xT) = some (.inl (some (aI (Int32.ofNat p))), enc 1 (if G then paA S p cd m st1 else a') z) := by
  have f44 := x44 (S := S) (z := z) p38 r1 h37 r2 h36
  rw [hst] at f44
  have k0 : gfI (enc 1 a' z) (some (38, p)) 7 0 = some (Int32.ofNat p) := by
    rw [← ha0]
    simp (config := {decide := true}) only [gfI_enc, gfL_enc, gfR_enc, pfI_enc, pfL_enc, pfR_enc, Option.bind_some, cI_v, cL_v, cF_v, cD_v, cR_v, cV_v, cI_x, cL_x, cR_x, cV_x, gz_0, gz_1, acc_enc, tI_sI, tL_sI, tR_sI, tN_sI, tZ_sI, tC_sI, tc_sI, tz_sI, tI_sL, tL_sL, tR_sL, tN_sL, tZ_sL, tC_sL, tc_sL, tz_sL, tI_sR, tL_sR, tR_sR, tN_sR, tZ_sR, tC_sR, tc_sR, tz_sR, tI_sZ, tL_sZ, tR_sZ, tN_sZ, tZ_sZ, tC_sZ, tc_sZ, tz_sZ, tI_sC, tL_sC, tR_sC, tN_sC, tZ_sC, tC_sC, tc_sC, tz_sC, tI_aC, tL_aC, tR_aC, tN_aC, tZ_aC, tC_aC, tc_aC, tz_aC, tI_rmL, tL_rmL, tR_rmL, tN_rmL, tZ_rmL, tC_rmL, tc_rmL, tz_rmL, tI_mk, tL_mk, tR_mk, tN_mk, tZ_mk, tC_mk, tc_mk, tz_mk, tI_pushL, tL_pushL, tR_pushL, tN_pushL, tZ_pushL, tC_pushL, tc_pushL, tz_pushL, tI_pushB, tL_pushB, tR_pushB, tN_pushB, tZ_pushB, tC_pushB, tc_pushB, tz_pushB, tI_cpL, tL_cpL, tR_cpL, tN_cpL, tZ_cpL, tC_cpL, tc_cpL, tz_cpL, eq_self, true_and, and_true, false_and, and_false, if_true, if_false, reduceIte, ite_true, ite_false, not_true_eq_false, not_false_eq_true, ha1]
  have n10 : ¬ (1 : Int32) = 0 := by decide
  by_cases eq : q = 0
  · rw [if_pos eq, x5 m h37]
    by_cases e4 : tI S 37 cd 4 ≤ tI S 37 cd 9
    · rw [if_neg (fun g => (hG.mp g).2.1 e4), if_pos e4, cI_v, if_pos rfl, f44, cV_v, h69, cV_v, k0, Option.bind_some]
    · by_cases e5 : tI S 37 cd 10 + m ≤ tI S 37 cd 5
      · have f43 := x43 (S := sI (sI S 37 cd 9 (tI S 37 cd 9 + 1)) 37 cd 10 (tI S 37 cd 10 + m)) (z := z) (p := p) (cd := cd) (sh := sh) p38 r1 h37 r2 h36
        have j1 : tI (sI (sI S 37 cd 9 (tI S 37 cd 9 + 1)) 37 cd 10 (tI S 37 cd 10 + m)) 37 cd 3 = tI S 37 cd 3 := by rw [tI_sI, if_neg (fun q => absurd q.2.2 (by decide)), tI_sI, if_neg (fun q => absurd q.2.2 (by decide))]
        have j2 : ∀ f, tI (sI (sI S 37 cd 9 (tI S 37 cd 9 + 1)) 37 cd 10 (tI S 37 cd 10 + m)) 38 p f = tI S 38 p f := fun f => by rw [tI_sI, if_neg (fun q => absurd q.1 (by decide)), tI_sI, if_neg (fun q => absurd q.1 (by decide))]
        have j3 : tI (sI (sI S 37 cd 9 (tI S 37 cd 9 + 1)) 37 cd 10 (tI S 37 cd 10 + m)) 36 sh 0 = tI S 36 sh 0 := by rw [tI_sI, if_neg (fun q => absurd q.1 (by decide)), tI_sI, if_neg (fun q => absurd q.1 (by decide))]
        rw [j1, j2, j2, j3, hst1] at f43
        have k1 : gfI (enc 1 (paA S p cd m st1) z) (some (38, p)) 7 0 = some (Int32.ofNat p) := by
          unfold paA
          rw [← i0]
          simp (config := {decide := true}) only [gfI_enc, gfL_enc, gfR_enc, pfI_enc, pfL_enc, pfR_enc, Option.bind_some, cI_v, cL_v, cF_v, cD_v, cR_v, cV_v, cI_x, cL_x, cR_x, cV_x, gz_0, gz_1, acc_enc, tI_sI, tL_sI, tR_sI, tN_sI, tZ_sI, tC_sI, tc_sI, tz_sI, tI_sL, tL_sL, tR_sL, tN_sL, tZ_sL, tC_sL, tc_sL, tz_sL, tI_sR, tL_sR, tR_sR, tN_sR, tZ_sR, tC_sR, tc_sR, tz_sR, tI_sZ, tL_sZ, tR_sZ, tN_sZ, tZ_sZ, tC_sZ, tc_sZ, tz_sZ, tI_sC, tL_sC, tR_sC, tN_sC, tZ_sC, tC_sC, tc_sC, tz_sC, tI_aC, tL_aC, tR_aC, tN_aC, tZ_aC, tC_aC, tc_aC, tz_aC, tI_rmL, tL_rmL, tR_rmL, tN_rmL, tZ_rmL, tC_rmL, tc_rmL, tz_rmL, tI_mk, tL_mk, tR_mk, tN_mk, tZ_mk, tC_mk, tc_mk, tz_mk, tI_pushL, tL_pushL, tR_pushL, tN_pushL, tZ_pushL, tC_pushL, tc_pushL, tz_pushL, tI_pushB, tL_pushB, tR_pushB, tN_pushB, tZ_pushB, tC_pushB, tc_pushB, tz_pushB, tI_cpL, tL_cpL, tR_cpL, tN_cpL, tZ_cpL, tC_cpL, tc_cpL, tz_cpL, eq_self, true_and, and_true, false_and, and_false, if_true, if_false, reduceIte, ite_true, ite_false, not_true_eq_false, not_false_eq_true, p38]
        rw [if_pos (hG.mpr ⟨eq, e4, e5⟩), if_neg e4, if_pos e5, cI_v, if_neg n10, f43, cV_v]
        unfold paA at k1
        unfold paA
        rw [k1, Option.bind_some]
      · rw [if_neg (fun g => e5 (hG.mp g).2.2), if_neg e4, if_neg e5, cI_v, if_pos rfl, f44, cV_v, h69, cV_v, k0, Option.bind_some]
  · rw [if_neg eq, if_neg (fun g => eq (hG.mp g).1), f44, cV_v, h69, cV_v, k0, Option.bind_some]
