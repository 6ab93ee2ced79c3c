/-! ===== all that comes up at a tick ===== -/
theorem fcR_96_1' {a : TS} (hF : FxC a) : tR a 96 0 1 = some (25, 0) := fcR_96_1 hF
/-- a step of the class's loop -/
theorem x107_13 {a : TS} {z : Hp} {sh m k r : Nat} (hF : FxC a) (h36 : sh < tN a 36) (h0 : tI a 36 sh 0 = Int32.ofNat sh) (hP : LnP a 21 sh (2 * sh) (2 * sh)) (hL : LO a) (hk : k < m) (hz : m ≤ tZ a 9 (2 * sh)) (hr : tR a 9 (2 * sh) k = some (10, r)) (hr2 : r < tN a 10) :
    Ru 107 13 [(0, aR (some (96, 0))), (1, aR (some (36, sh))), (2, aR (some (21, sh))), (3, aI (Int32.ofNat m)), (4, aI (Int32.ofNat k))] [] (enc 1 a z) =
      if tI a 10 r 12 = tI a 25 0 0 then bodyA sh r (enc 1 (sI a 10 r 3 (Int32.ofNat sh)) z) (fun h => Ru 107 13 [(0, aR (some (96, 0))), (1, aR (some (36, sh))), (2, aR (some (21, sh))), (3, aI (Int32.ofNat m)), (4, aI (Int32.ofNat (k + 1)))] [] h)
      else Ru 107 13 [(0, aR (some (96, 0))), (1, aR (some (36, sh))), (2, aR (some (21, sh))), (3, aI (Int32.ofNat m)), (4, aI (Int32.ofNat (k + 1)))] [] (enc 1 a z) := by
  obtain ⟨p1, p2, p3, p4, p5, p6, p7, p8, p9⟩ := hP
  have hz2 := hL.2.2 (2 * sh) p9
  have i10 : isM 10 := ⟨by decide +kernel, by decide +kernel⟩
  have g1 : (Int32.ofNat k).toNatClampNeg = k := o_ix (by omega)
  have g2 : ¬ Int32.ofNat k < 0 := o_lt0 (by omega)
  have g3 : ¬ Int32.ofNat m ≤ Int32.ofNat k := by rw [o_le (by omega) (by omega)]; omega
  have g4 : k < tZ a 9 (2 * sh) := by omega
  rw [lf_107_13]
  unfold bodyA
  by_cases e : tI a 10 r 12 = tI a 25 0 0
  · simp (config := {decide := true}) only [gfI_enc, gfL_enc, gfR_enc, pfI_enc, pfL_enc, pfR_enc, Option.bind_some, cI_v, cL_v, cF_v, cD_v, cR_v, cV_v, cI_x, cL_x, cR_x, cV_x, gz_0, gz_1, acc_enc, tI_sI, tL_sI, tR_sI, tN_sI, tZ_sI, tC_sI, tc_sI, tz_sI, tI_sL, tL_sL, tR_sL, tN_sL, tZ_sL, tC_sL, tc_sL, tz_sL, tI_sR, tL_sR, tR_sR, tN_sR, tZ_sR, tC_sR, tc_sR, tz_sR, tI_sZ, tL_sZ, tR_sZ, tN_sZ, tZ_sZ, tC_sZ, tc_sZ, tz_sZ, tI_sC, tL_sC, tR_sC, tN_sC, tZ_sC, tC_sC, tc_sC, tz_sC, tI_aC, tL_aC, tR_aC, tN_aC, tZ_aC, tC_aC, tc_aC, tz_aC, tI_rmL, tL_rmL, tR_rmL, tN_rmL, tZ_rmL, tC_rmL, tc_rmL, tz_rmL, tI_mk, tL_mk, tR_mk, tN_mk, tZ_mk, tC_mk, tc_mk, tz_mk, tI_pushL, tL_pushL, tR_pushL, tN_pushL, tZ_pushL, tC_pushL, tc_pushL, tz_pushL, tI_pushB, tL_pushB, tR_pushB, tN_pushB, tZ_pushB, tC_pushB, tc_pushB, tz_pushB, tI_cpL, tL_cpL, tR_cpL, tN_cpL, tZ_cpL, tC_cpL, tc_cpL, tz_cpL, eq_self, true_and, and_true, false_and, and_false, if_true, if_false, reduceIte, ite_true, ite_false, not_true_eq_false, not_false_eq_true, gR_o p1, p2, p8, p9, X402, g1, g2, g3, g4, hr, acc_m i10, hr2, gm i10 hr2, fcN_96 hF, fcR_96_1 hF, fcN_25 hF, e, h36, h0, pm i10, o_s]
  · simp (config := {decide := true}) only [gfI_enc, gfL_enc, gfR_enc, pfI_enc, pfL_enc, pfR_enc, Option.bind_some, cI_v, cL_v, cF_v, cD_v, cR_v, cV_v, cI_x, cL_x, cR_x, cV_x, gz_0, gz_1, acc_enc, tI_sI, tL_sI, tR_sI, tN_sI, tZ_sI, tC_sI, tc_sI, tz_sI, tI_sL, tL_sL, tR_sL, tN_sL, tZ_sL, tC_sL, tc_sL, tz_sL, tI_sR, tL_sR, tR_sR, tN_sR, tZ_sR, tC_sR, tc_sR, tz_sR, tI_sZ, tL_sZ, tR_sZ, tN_sZ, tZ_sZ, tC_sZ, tc_sZ, tz_sZ, tI_sC, tL_sC, tR_sC, tN_sC, tZ_sC, tC_sC, tc_sC, tz_sC, tI_aC, tL_aC, tR_aC, tN_aC, tZ_aC, tC_aC, tc_aC, tz_aC, tI_rmL, tL_rmL, tR_rmL, tN_rmL, tZ_rmL, tC_rmL, tc_rmL, tz_rmL, tI_mk, tL_mk, tR_mk, tN_mk, tZ_mk, tC_mk, tc_mk, tz_mk, tI_pushL, tL_pushL, tR_pushL, tN_pushL, tZ_pushL, tC_pushL, tc_pushL, tz_pushL, tI_pushB, tL_pushB, tR_pushB, tN_pushB, tZ_pushB, tC_pushB, tc_pushB, tz_pushB, tI_cpL, tL_cpL, tR_cpL, tN_cpL, tZ_cpL, tC_cpL, tc_cpL, tz_cpL, eq_self, true_and, and_true, false_and, and_false, if_true, if_false, reduceIte, ite_true, ite_false, not_true_eq_false, not_false_eq_true, gR_o p1, p2, p8, p9, X402, g1, g2, g3, g4, hr, acc_m i10, hr2, gm i10 hr2, fcN_96 hF, fcR_96_1 hF, fcN_25 hF, e, o_s]
/-- the class's loop is through -/
theorem x107_end {a : TS} {z : Hp} {sh m : Nat} (v2 : Option (Nat × Nat)) : Ru 107 13 [(0, aR (some (96, 0))), (1, aR (some (36, sh))), (2, aR v2), (3, aI (Int32.ofNat m)), (4, aI (Int32.ofNat m))] [] (enc 1 a z) = cV (Ex 39 [aR v2] (enc 1 a z)) (fun h => some (.inl none, h)) xT := by
  rw [lf_107_13, if_pos (Int32.le_refl _)]
/-- the reference takes what comes next up a line, and goes on -/
noncomputable def RefU (sh : Nat) (t : Int32) (b : TS) (z : Hp) : Res := cR (Ex 156 [aR (some (74, sh)), aI t] (enc 2 b z)) (fun x h => Ru 205 26 [(0, aR (some (95, 0))), (1, aI (Int32.ofNat sh)), (2, aR x)] [] h) xT
noncomputable def RefD (sh : Nat) (t : Int32) (b : TS) (z : Hp) : Res := cR (Ex 156 [aR (some (75, sh)), aI t] (enc 2 b z)) (fun x h => Ru 205 73 [(0, aR (some (95, 0))), (1, aI (Int32.ofNat sh)), (2, aR x)] [] h) xT
theorem RefU_s {b b1 b2 : TS} {z : Hp} {sh : Nat} {t : Int32} {q : Nat × Nat} (hF : FxR b2) (hs : sh < 4) (h65 : tR b2 65 0 (2 * sh) = some (74, sh)) (ht : tI b2 95 0 1 = t) (h1 : ∀ z, Ex 156 [aR (some (74, sh)), aI t] (enc 2 b z) = some (.inl (some (aR (some q))), enc 2 b1 z)) (h2 : ∀ z, Ex 206 [aR (some (95, 0)), aI (Int32.ofNat sh), aR (some q)] (enc 2 b1 z) = some (.inl none, enc 2 b2 z)) : RefU sh t b z = RefU sh t b2 z := by
  have g1 : (Int32.ofNat (2 * sh)).toNatClampNeg = 2 * sh := o_ix (by omega)
  have g2 : ¬ Int32.ofNat (2 * sh) < 0 := o_lt0 (by omega)
  have g3 : 2 * sh < 8 := by omega
  unfold RefU
  rw [h1, cR_v, lf_205_26]
  simp (config := {decide := true}) only [gfI_enc, gfL_enc, gfR_enc, pfI_enc, pfL_enc, pfR_enc, Option.bind_some, cI_v, cL_v, cF_v, cD_v, cR_v, cV_v, cI_x, cL_x, cR_x, cV_x, gz_0, gz_1, acc_enc, tI_sI, tL_sI, tR_sI, tN_sI, tZ_sI, tC_sI, tc_sI, tz_sI, tI_sL, tL_sL, tR_sL, tN_sL, tZ_sL, tC_sL, tc_sL, tz_sL, tI_sR, tL_sR, tR_sR, tN_sR, tZ_sR, tC_sR, tc_sR, tz_sR, tI_sZ, tL_sZ, tR_sZ, tN_sZ, tZ_sZ, tC_sZ, tc_sZ, tz_sZ, tI_sC, tL_sC, tR_sC, tN_sC, tZ_sC, tC_sC, tc_sC, tz_sC, tI_aC, tL_aC, tR_aC, tN_aC, tZ_aC, tC_aC, tc_aC, tz_aC, tI_rmL, tL_rmL, tR_rmL, tN_rmL, tZ_rmL, tC_rmL, tc_rmL, tz_rmL, tI_mk, tL_mk, tR_mk, tN_mk, tZ_mk, tC_mk, tc_mk, tz_mk, tI_pushL, tL_pushL, tR_pushL, tN_pushL, tZ_pushL, tC_pushL, tc_pushL, tz_pushL, tI_pushB, tL_pushB, tR_pushB, tN_pushB, tZ_pushB, tC_pushB, tc_pushB, tz_pushB, tI_cpL, tL_cpL, tR_cpL, tN_cpL, tZ_cpL, tC_cpL, tc_cpL, tz_cpL, eq_self, true_and, and_true, false_and, and_false, if_true, if_false, reduceIte, ite_true, ite_false, not_true_eq_false, not_false_eq_true, reduceCtorEq, h2, frN_95 hF, frR_95_10 hF, frN_65 hF, frZ_65 hF, gaR_enc, two_o, g1, g2, g3, h65, ht]
theorem RefU_n {b b1 : TS} {z : Hp} {sh : Nat} {t : Int32} (hF : FxR b1) (hs : sh < 4) (h65 : tR b1 65 0 (2 * sh + 1) = some (75, sh)) (ht : tI b1 95 0 1 = t) (h1 : ∀ z, Ex 156 [aR (some (74, sh)), aI t] (enc 2 b z) = some (.inl (some (aR none)), enc 2 b1 z)) : RefU sh t b z = RefD sh t b1 z := by
  have ix : (2 : Int32) * Int32.ofNat sh + 1 = Int32.ofNat (2 * sh + 1) := by rw [← o_s, Int32.ofNat_mul]; rfl
  have g1 : (Int32.ofNat (2 * sh + 1)).toNatClampNeg = 2 * sh + 1 := o_ix (by omega)
  have g2 : ¬ Int32.ofNat (2 * sh + 1) < 0 := o_lt0 (by omega)
  have g3 : 2 * sh + 1 < 8 := by omega
  unfold RefU RefD
  rw [h1, cR_v, lf_205_26]
  simp (config := {decide := true}) only [gfI_enc, gfL_enc, gfR_enc, pfI_enc, pfL_enc, pfR_enc, Option.bind_some, cI_v, cL_v, cF_v, cD_v, cR_v, cV_v, cI_x, cL_x, cR_x, cV_x, gz_0, gz_1, acc_enc, tI_sI, tL_sI, tR_sI, tN_sI, tZ_sI, tC_sI, tc_sI, tz_sI, tI_sL, tL_sL, tR_sL, tN_sL, tZ_sL, tC_sL, tc_sL, tz_sL, tI_sR, tL_sR, tR_sR, tN_sR, tZ_sR, tC_sR, tc_sR, tz_sR, tI_sZ, tL_sZ, tR_sZ, tN_sZ, tZ_sZ, tC_sZ, tc_sZ, tz_sZ, tI_sC, tL_sC, tR_sC, tN_sC, tZ_sC, tC_sC, tc_sC, tz_sC, tI_aC, tL_aC, tR_aC, tN_aC, tZ_aC, tC_aC, tc_aC, tz_aC, tI_rmL, tL_rmL, tR_rmL, tN_rmL, tZ_rmL, tC_rmL, tc_rmL, tz_rmL, tI_mk, tL_mk, tR_mk, tN_mk, tZ_mk, tC_mk, tc_mk, tz_mk, tI_pushL, tL_pushL, tR_pushL, tN_pushL, tZ_pushL, tC_pushL, tc_pushL, tz_pushL, tI_pushB, tL_pushB, tR_pushB, tN_pushB, tZ_pushB, tC_pushB, tc_pushB, tz_pushB, tI_cpL, tL_cpL, tR_cpL, tN_cpL, tZ_cpL, tC_cpL, tc_cpL, tz_cpL, eq_self, true_and, and_true, false_and, and_false, if_true, if_false, reduceIte, ite_true, ite_false, not_true_eq_false, not_false_eq_true, frN_95 hF, frR_95_10 hF, frN_65 hF, frZ_65 hF, gaR_enc, ix, g1, g2, g3, h65, ht]
theorem RefD_s {b b1 b2 : TS} {z : Hp} {sh : Nat} {t : Int32} {q : Nat × Nat} (hF : FxR b2) (hs : sh < 4) (h65 : tR b2 65 0 (2 * sh + 1) = some (75, sh)) (ht : tI b2 95 0 1 = t) (h1 : ∀ z, Ex 156 [aR (some (75, sh)), aI t] (enc 2 b z) = some (.inl (some (aR (some q))), enc 2 b1 z)) (h2 : ∀ z, Ex 209 [aR (some (95, 0)), aI (Int32.ofNat sh), aR (some q)] (enc 2 b1 z) = some (.inl none, enc 2 b2 z)) : RefD sh t b z = RefD sh t b2 z := by
  have ix : (2 : Int32) * Int32.ofNat sh + 1 = Int32.ofNat (2 * sh + 1) := by rw [← o_s, Int32.ofNat_mul]; rfl
  have g1 : (Int32.ofNat (2 * sh + 1)).toNatClampNeg = 2 * sh + 1 := o_ix (by omega)
  have g2 : ¬ Int32.ofNat (2 * sh + 1) < 0 := o_lt0 (by omega)
  have g3 : 2 * sh + 1 < 8 := by omega
  unfold RefD
  rw [h1, cR_v, lf_205_73]
  simp (config := {decide := true}) only [gfI_enc, gfL_enc, gfR_enc, pfI_enc, pfL_enc, pfR_enc, Option.bind_some, cI_v, cL_v, cF_v, cD_v, cR_v, cV_v, cI_x, cL_x, cR_x, cV_x, gz_0, gz_1, acc_enc, tI_sI, tL_sI, tR_sI, tN_sI, tZ_sI, tC_sI, tc_sI, tz_sI, tI_sL, tL_sL, tR_sL, tN_sL, tZ_sL, tC_sL, tc_sL, tz_sL, tI_sR, tL_sR, tR_sR, tN_sR, tZ_sR, tC_sR, tc_sR, tz_sR, tI_sZ, tL_sZ, tR_sZ, tN_sZ, tZ_sZ, tC_sZ, tc_sZ, tz_sZ, tI_sC, tL_sC, tR_sC, tN_sC, tZ_sC, tC_sC, tc_sC, tz_sC, tI_aC, tL_aC, tR_aC, tN_aC, tZ_aC, tC_aC, tc_aC, tz_aC, tI_rmL, tL_rmL, tR_rmL, tN_rmL, tZ_rmL, tC_rmL, tc_rmL, tz_rmL, tI_mk, tL_mk, tR_mk, tN_mk, tZ_mk, tC_mk, tc_mk, tz_mk, tI_pushL, tL_pushL, tR_pushL, tN_pushL, tZ_pushL, tC_pushL, tc_pushL, tz_pushL, tI_pushB, tL_pushB, tR_pushB, tN_pushB, tZ_pushB, tC_pushB, tc_pushB, tz_pushB, tI_cpL, tL_cpL, tR_cpL, tN_cpL, tZ_cpL, tC_cpL, tc_cpL, tz_cpL, eq_self, true_and, and_true, false_and, and_false, if_true, if_false, reduceIte, ite_true, ite_false, not_true_eq_false, not_false_eq_true, reduceCtorEq, h2, frN_95 hF, frR_95_10 hF, frN_65 hF, frZ_65 hF, gaR_enc, ix, g1, g2, g3, h65, ht]
theorem RefD_n {b b1 : TS} {z : Hp} {sh : Nat} {t : Int32} (h1 : ∀ z, Ex 156 [aR (some (75, sh)), aI t] (enc 2 b z) = some (.inl (some (aR none)), enc 2 b1 z)) : RefD sh t b z = Ru 205 2 [(0, aR (some (95, 0))), (1, aI (Int32.ofNat (sh + 1)))] [] (enc 2 b1 z) := by
  unfold RefD
  rw [h1, cR_v, lf_205_73, if_pos rfl, o_s]
theorem Ref_2 {b : TS} {z : Hp} {sh : Nat} (hF : FxR b) (hs : sh < 4) {n : Nat} (hn : sh < n) (hn4 : n ≤ 4) (h9 : tI b 95 0 9 = Int32.ofNat n) (h65 : tR b 65 0 (2 * sh) = some (74, sh)) : Ru 205 2 [(0, aR (some (95, 0))), (1, aI (Int32.ofNat sh))] [] (enc 2 b z) = RefU sh (tI b 95 0 1) b z := by
  have g1 : (Int32.ofNat (2 * sh)).toNatClampNeg = 2 * sh := o_ix (by omega)
  have g2 : ¬ Int32.ofNat (2 * sh) < 0 := o_lt0 (by omega)
  have g3 : 2 * sh < 8 := by omega
  have g4 : ¬ Int32.ofNat n ≤ Int32.ofNat sh := by rw [o_le (by omega) (by omega)]; omega
  unfold RefU
  rw [lf_205_2]
  simp (config := {decide := true}) only [gfI_enc, gfL_enc, gfR_enc, pfI_enc, pfL_enc, pfR_enc, Option.bind_some, cI_v, cL_v, cF_v, cD_v, cR_v, cV_v, cI_x, cL_x, cR_x, cV_x, gz_0, gz_1, acc_enc, tI_sI, tL_sI, tR_sI, tN_sI, tZ_sI, tC_sI, tc_sI, tz_sI, tI_sL, tL_sL, tR_sL, tN_sL, tZ_sL, tC_sL, tc_sL, tz_sL, tI_sR, tL_sR, tR_sR, tN_sR, tZ_sR, tC_sR, tc_sR, tz_sR, tI_sZ, tL_sZ, tR_sZ, tN_sZ, tZ_sZ, tC_sZ, tc_sZ, tz_sZ, tI_sC, tL_sC, tR_sC, tN_sC, tZ_sC, tC_sC, tc_sC, tz_sC, tI_aC, tL_aC, tR_aC, tN_aC, tZ_aC, tC_aC, tc_aC, tz_aC, tI_rmL, tL_rmL, tR_rmL, tN_rmL, tZ_rmL, tC_rmL, tc_rmL, tz_rmL, tI_mk, tL_mk, tR_mk, tN_mk, tZ_mk, tC_mk, tc_mk, tz_mk, tI_pushL, tL_pushL, tR_pushL, tN_pushL, tZ_pushL, tC_pushL, tc_pushL, tz_pushL, tI_pushB, tL_pushB, tR_pushB, tN_pushB, tZ_pushB, tC_pushB, tc_pushB, tz_pushB, tI_cpL, tL_cpL, tR_cpL, tN_cpL, tZ_cpL, tC_cpL, tc_cpL, tz_cpL, eq_self, true_and, and_true, false_and, and_false, if_true, if_false, reduceIte, ite_true, ite_false, not_true_eq_false, not_false_eq_true, frN_95 hF, frR_95_10 hF, frN_65 hF, frZ_65 hF, gaR_enc, two_o, g1, g2, g3, g4, h65, h9]
theorem Ref_2e {b : TS} {z : Hp} {n : Nat} (hF : FxR b) (h9 : tI b 95 0 9 = Int32.ofNat n) : Ru 205 2 [(0, aR (some (95, 0))), (1, aI (Int32.ofNat n))] [] (enc 2 b z) = some (.inl none, enc 2 b z) := by
  have g4 : Int32.ofNat n ≤ Int32.ofNat n := Int32.le_refl _
  rw [lf_205_2]
  simp (config := {decide := true}) only [gfI_enc, gfL_enc, gfR_enc, pfI_enc, pfL_enc, pfR_enc, Option.bind_some, cI_v, cL_v, cF_v, cD_v, cR_v, cV_v, cI_x, cL_x, cR_x, cV_x, gz_0, gz_1, acc_enc, tI_sI, tL_sI, tR_sI, tN_sI, tZ_sI, tC_sI, tc_sI, tz_sI, tI_sL, tL_sL, tR_sL, tN_sL, tZ_sL, tC_sL, tc_sL, tz_sL, tI_sR, tL_sR, tR_sR, tN_sR, tZ_sR, tC_sR, tc_sR, tz_sR, tI_sZ, tL_sZ, tR_sZ, tN_sZ, tZ_sZ, tC_sZ, tc_sZ, tz_sZ, tI_sC, tL_sC, tR_sC, tN_sC, tZ_sC, tC_sC, tc_sC, tz_sC, tI_aC, tL_aC, tR_aC, tN_aC, tZ_aC, tC_aC, tc_aC, tz_aC, tI_rmL, tL_rmL, tR_rmL, tN_rmL, tZ_rmL, tC_rmL, tc_rmL, tz_rmL, tI_mk, tL_mk, tR_mk, tN_mk, tZ_mk, tC_mk, tc_mk, tz_mk, tI_pushL, tL_pushL, tR_pushL, tN_pushL, tZ_pushL, tC_pushL, tc_pushL, tz_pushL, tI_pushB, tL_pushB, tR_pushB, tN_pushB, tZ_pushB, tC_pushB, tc_pushB, tz_pushB, tI_cpL, tL_cpL, tR_cpL, tN_cpL, tZ_cpL, tC_cpL, tc_cpL, tz_cpL, eq_self, true_and, and_true, false_and, and_false, if_true, if_false, reduceIte, ite_true, ite_false, not_true_eq_false, not_false_eq_true, frN_95 hF, h9, g4]
/-- a take leaves the rest as it is -/
theorem take_R {a b b' : TS} {c : Nat} {l : List (Int32 × (Nat → Int32))} (hR : R0 a b) (hN : Nt a b) (hL : Ln0 a b) (hK : CtK b b' (2 * tZ a 27 0) c l) : R0 a b' ∧ Nt a b' ∧ Ln0 a b' ∧ PS a a b b' ∧ groQ b b' ∧ chF [49, 50, 51, 52, 74, 75] [] b b' ∧ Wr b b' := by
  obtain ⟨k1, k2, k3, k4, k5, k6, k7, k8, k9⟩ := hK
  have hb : chF [49, 50, 51, 52, 74, 75] [] b b' := chF_g k4
  have ha : chF [] [] a a := chF_r _ _ _
  have gq : groQ b b' := groQ_c hb (by decide +kernel)
  have hP : PS a a b b' := PS_c ha hb (by decide) (by decide)
  refine ⟨put_R0 hR (chF_r _ _ _) (chF_m hb (by decide) (by simp)) (fun _ _ => rfl) (Wr.rf _) k7, Nt_c hN ha hb (by decide) (by decide) hP.1 (gro_r _ _) gq, ?_, hP, gq, hb, k7⟩
  obtain ⟨l1, l2, l3, l4, l5, l6, l7⟩ := hL
  refine ⟨l1, k1, fun s hs => ?_, fun c hc => ?_, fun c hc => ?_, ?_, by simp only [k5]; exact l7⟩
  · rw [dR hb (S := [65]) (P := []) (s := 65) (by decide) (by simp), dR hb (S := [65]) (P := []) (s := 65) (by decide) (by simp)]
    exact l3 s hs
  · rw [l4 c hc]
    funext k
    exact (dIS hb (S := [48]) (P := []) (s := 48) (by decide) (by simp) c k).symm
  · rw [k8]
    exact l5 c hc
  · rw [k9, sumC_eq (fun c _ => k8 c)]
    exact l6
