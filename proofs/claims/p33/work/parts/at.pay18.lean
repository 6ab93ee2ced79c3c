/-- the class refuses a payment -/
theorem x96_no {a a' : TS} {cd sh w : Nat} {m pin : Int32} (hFa : FxC a) (hsh : sh < tZ a 27 0) (h27 : tR a 27 0 sh = some (36, sh)) (h36 : sh < tN a 36) (hcd : cd < tZ a 28 0) (h28 : tR a 28 0 cd = some (37, cd)) (h37 : cd < tN a 37) (hs4 : sh < 4) (hc8 : cd < 8)
    (hw : (1 ≤ w ∧ w ≤ 4 ∧ ∀ z, Ex 3 [aR (some (37, cd)), aI m, aI pin] (enc 1 a z) = some (.inl (some (aI (Int32.ofNat w))), enc 1 a' z)) ∨ (w = 5 ∧ a' = a ∧ tZ a 29 0 = 200 ∧ ∀ z, Ex 3 [aR (some (37, cd)), aI m, aI pin] (enc 1 a z) = some (.inl (some (aI 0)), enc 1 a z))) (z : Hp) :
    Ex 96 [aR (some (96, 0)), aI (Int32.ofNat cd), aI (Int32.ofNat sh), aI m, aI pin] (enc 1 a z) = some (.inl (some (aI (-(Int32.ofNat w)))), enc 1 a' z) := by
  have g1 : (Int32.ofNat cd).toNatClampNeg = cd := o_ix (by omega)
  have g2 : ¬ Int32.ofNat cd < 0 := o_lt0 (by omega)
  have g3 : (Int32.ofNat sh).toNatClampNeg = sh := o_ix (by omega)
  have g4 : ¬ Int32.ofNat sh < 0 := o_lt0 (by omega)
  have s4 : gfR (enc 1 a z) (some (96, 0)) 11 4 = some (some (28, 0)) := by simp (config := {decide := true}) only [gfI_enc, gfL_enc, gfR_enc, pfI_enc, pfL_enc, pfR_enc, Option.bind_some, cI_v, cL_v, cF_v, cD_v, cR_v, cV_v, cI_x, cL_x, cR_x, cV_x, gz_0, gz_1, acc_enc, tI_sI, tL_sI, tR_sI, tN_sI, tZ_sI, tC_sI, tc_sI, tz_sI, tI_sL, tL_sL, tR_sL, tN_sL, tZ_sL, tC_sL, tc_sL, tz_sL, tI_sR, tL_sR, tR_sR, tN_sR, tZ_sR, tC_sR, tc_sR, tz_sR, tI_sZ, tL_sZ, tR_sZ, tN_sZ, tZ_sZ, tC_sZ, tc_sZ, tz_sZ, tI_sC, tL_sC, tR_sC, tN_sC, tZ_sC, tC_sC, tc_sC, tz_sC, tI_aC, tL_aC, tR_aC, tN_aC, tZ_aC, tC_aC, tc_aC, tz_aC, tI_rmL, tL_rmL, tR_rmL, tN_rmL, tZ_rmL, tC_rmL, tc_rmL, tz_rmL, tI_mk, tL_mk, tR_mk, tN_mk, tZ_mk, tC_mk, tc_mk, tz_mk, tI_pushL, tL_pushL, tR_pushL, tN_pushL, tZ_pushL, tC_pushL, tc_pushL, tz_pushL, tI_pushB, tL_pushB, tR_pushB, tN_pushB, tZ_pushB, tC_pushB, tc_pushB, tz_pushB, tI_cpL, tL_cpL, tR_cpL, tN_cpL, tZ_cpL, tC_cpL, tc_cpL, tz_cpL, eq_self, true_and, and_true, false_and, and_false, if_true, if_false, reduceIte, ite_true, ite_false, not_true_eq_false, not_false_eq_true, fcN_96 hFa, fcR_96_4 hFa]
  have s3 : gfR (enc 1 a z) (some (96, 0)) 11 3 = some (some (27, 0)) := by simp (config := {decide := true}) only [gfI_enc, gfL_enc, gfR_enc, pfI_enc, pfL_enc, pfR_enc, Option.bind_some, cI_v, cL_v, cF_v, cD_v, cR_v, cV_v, cI_x, cL_x, cR_x, cV_x, gz_0, gz_1, acc_enc, tI_sI, tL_sI, tR_sI, tN_sI, tZ_sI, tC_sI, tc_sI, tz_sI, tI_sL, tL_sL, tR_sL, tN_sL, tZ_sL, tC_sL, tc_sL, tz_sL, tI_sR, tL_sR, tR_sR, tN_sR, tZ_sR, tC_sR, tc_sR, tz_sR, tI_sZ, tL_sZ, tR_sZ, tN_sZ, tZ_sZ, tC_sZ, tc_sZ, tz_sZ, tI_sC, tL_sC, tR_sC, tN_sC, tZ_sC, tC_sC, tc_sC, tz_sC, tI_aC, tL_aC, tR_aC, tN_aC, tZ_aC, tC_aC, tc_aC, tz_aC, tI_rmL, tL_rmL, tR_rmL, tN_rmL, tZ_rmL, tC_rmL, tc_rmL, tz_rmL, tI_mk, tL_mk, tR_mk, tN_mk, tZ_mk, tC_mk, tc_mk, tz_mk, tI_pushL, tL_pushL, tR_pushL, tN_pushL, tZ_pushL, tC_pushL, tc_pushL, tz_pushL, tI_pushB, tL_pushB, tR_pushB, tN_pushB, tZ_pushB, tC_pushB, tc_pushB, tz_pushB, tI_cpL, tL_cpL, tR_cpL, tN_cpL, tZ_cpL, tC_cpL, tc_cpL, tz_cpL, eq_self, true_and, and_true, false_and, and_false, if_true, if_false, reduceIte, ite_true, ite_false, not_true_eq_false, not_false_eq_true, fcN_96 hFa, fcR_96_3 hFa]
  have s5 : gfR (enc 1 a z) (some (96, 0)) 11 5 = some (some (29, 0)) := by simp (config := {decide := true}) only [gfI_enc, gfL_enc, gfR_enc, pfI_enc, pfL_enc, pfR_enc, Option.bind_some, cI_v, cL_v, cF_v, cD_v, cR_v, cV_v, cI_x, cL_x, cR_x, cV_x, gz_0, gz_1, acc_enc, tI_sI, tL_sI, tR_sI, tN_sI, tZ_sI, tC_sI, tc_sI, tz_sI, tI_sL, tL_sL, tR_sL, tN_sL, tZ_sL, tC_sL, tc_sL, tz_sL, tI_sR, tL_sR, tR_sR, tN_sR, tZ_sR, tC_sR, tc_sR, tz_sR, tI_sZ, tL_sZ, tR_sZ, tN_sZ, tZ_sZ, tC_sZ, tc_sZ, tz_sZ, tI_sC, tL_sC, tR_sC, tN_sC, tZ_sC, tC_sC, tc_sC, tz_sC, tI_aC, tL_aC, tR_aC, tN_aC, tZ_aC, tC_aC, tc_aC, tz_aC, tI_rmL, tL_rmL, tR_rmL, tN_rmL, tZ_rmL, tC_rmL, tc_rmL, tz_rmL, tI_mk, tL_mk, tR_mk, tN_mk, tZ_mk, tC_mk, tc_mk, tz_mk, tI_pushL, tL_pushL, tR_pushL, tN_pushL, tZ_pushL, tC_pushL, tc_pushL, tz_pushL, tI_pushB, tL_pushB, tR_pushB, tN_pushB, tZ_pushB, tC_pushB, tc_pushB, tz_pushB, tI_cpL, tL_cpL, tR_cpL, tN_cpL, tZ_cpL, tC_cpL, tc_cpL, tz_cpL, eq_self, true_and, and_true, false_and, and_false, if_true, if_false, reduceIte, ite_true, ite_false, not_true_eq_false, not_false_eq_true, fcN_96 hFa, fcR_96_5 hFa]
  have t4 : Ex 402 [aR (some (28, 0)), aI (Int32.ofNat cd)] (enc 1 a z) = some (.inl (some (aR (some (37, cd)))), enc 1 a z) := by
    simp (config := {decide := true}) only [gfI_enc, gfL_enc, gfR_enc, pfI_enc, pfL_enc, pfR_enc, Option.bind_some, cI_v, cL_v, cF_v, cD_v, cR_v, cV_v, cI_x, cL_x, cR_x, cV_x, gz_0, gz_1, acc_enc, tI_sI, tL_sI, tR_sI, tN_sI, tZ_sI, tC_sI, tc_sI, tz_sI, tI_sL, tL_sL, tR_sL, tN_sL, tZ_sL, tC_sL, tc_sL, tz_sL, tI_sR, tL_sR, tR_sR, tN_sR, tZ_sR, tC_sR, tc_sR, tz_sR, tI_sZ, tL_sZ, tR_sZ, tN_sZ, tZ_sZ, tC_sZ, tc_sZ, tz_sZ, tI_sC, tL_sC, tR_sC, tN_sC, tZ_sC, tC_sC, tc_sC, tz_sC, tI_aC, tL_aC, tR_aC, tN_aC, tZ_aC, tC_aC, tc_aC, tz_aC, tI_rmL, tL_rmL, tR_rmL, tN_rmL, tZ_rmL, tC_rmL, tc_rmL, tz_rmL, tI_mk, tL_mk, tR_mk, tN_mk, tZ_mk, tC_mk, tc_mk, tz_mk, tI_pushL, tL_pushL, tR_pushL, tN_pushL, tZ_pushL, tC_pushL, tc_pushL, tz_pushL, tI_pushB, tL_pushB, tR_pushB, tN_pushB, tZ_pushB, tC_pushB, tc_pushB, tz_pushB, tI_cpL, tL_cpL, tR_cpL, tN_cpL, tZ_cpL, tC_cpL, tc_cpL, tz_cpL, eq_self, true_and, and_true, false_and, and_false, if_true, if_false, reduceIte, ite_true, ite_false, not_true_eq_false, not_false_eq_true, X402, fcN_28 hFa, g1, g2, hcd, h28]
  have t3 : Ex 402 [aR (some (27, 0)), aI (Int32.ofNat sh)] (enc 1 a z) = some (.inl (some (aR (some (36, sh)))), enc 1 a z) := by
    simp (config := {decide := true}) only [gfI_enc, gfL_enc, gfR_enc, pfI_enc, pfL_enc, pfR_enc, Option.bind_some, cI_v, cL_v, cF_v, cD_v, cR_v, cV_v, cI_x, cL_x, cR_x, cV_x, gz_0, gz_1, acc_enc, tI_sI, tL_sI, tR_sI, tN_sI, tZ_sI, tC_sI, tc_sI, tz_sI, tI_sL, tL_sL, tR_sL, tN_sL, tZ_sL, tC_sL, tc_sL, tz_sL, tI_sR, tL_sR, tR_sR, tN_sR, tZ_sR, tC_sR, tc_sR, tz_sR, tI_sZ, tL_sZ, tR_sZ, tN_sZ, tZ_sZ, tC_sZ, tc_sZ, tz_sZ, tI_sC, tL_sC, tR_sC, tN_sC, tZ_sC, tC_sC, tc_sC, tz_sC, tI_aC, tL_aC, tR_aC, tN_aC, tZ_aC, tC_aC, tc_aC, tz_aC, tI_rmL, tL_rmL, tR_rmL, tN_rmL, tZ_rmL, tC_rmL, tc_rmL, tz_rmL, tI_mk, tL_mk, tR_mk, tN_mk, tZ_mk, tC_mk, tc_mk, tz_mk, tI_pushL, tL_pushL, tR_pushL, tN_pushL, tZ_pushL, tC_pushL, tc_pushL, tz_pushL, tI_pushB, tL_pushB, tR_pushB, tN_pushB, tZ_pushB, tC_pushB, tc_pushB, tz_pushB, tI_cpL, tL_cpL, tR_cpL, tN_cpL, tZ_cpL, tC_cpL, tc_cpL, tz_cpL, eq_self, true_and, and_true, false_and, and_false, if_true, if_false, reduceIte, ite_true, ite_false, not_true_eq_false, not_false_eq_true, X402, fcN_27 hFa, g3, g4, hsh, h27]
  have a4 : ∀ r, acc (some (37, cd)) 1 (enc 1 a z) r = r := fun r => by simp (config := {decide := true}) only [gfI_enc, gfL_enc, gfR_enc, pfI_enc, pfL_enc, pfR_enc, Option.bind_some, cI_v, cL_v, cF_v, cD_v, cR_v, cV_v, cI_x, cL_x, cR_x, cV_x, gz_0, gz_1, acc_enc, tI_sI, tL_sI, tR_sI, tN_sI, tZ_sI, tC_sI, tc_sI, tz_sI, tI_sL, tL_sL, tR_sL, tN_sL, tZ_sL, tC_sL, tc_sL, tz_sL, tI_sR, tL_sR, tR_sR, tN_sR, tZ_sR, tC_sR, tc_sR, tz_sR, tI_sZ, tL_sZ, tR_sZ, tN_sZ, tZ_sZ, tC_sZ, tc_sZ, tz_sZ, tI_sC, tL_sC, tR_sC, tN_sC, tZ_sC, tC_sC, tc_sC, tz_sC, tI_aC, tL_aC, tR_aC, tN_aC, tZ_aC, tC_aC, tc_aC, tz_aC, tI_rmL, tL_rmL, tR_rmL, tN_rmL, tZ_rmL, tC_rmL, tc_rmL, tz_rmL, tI_mk, tL_mk, tR_mk, tN_mk, tZ_mk, tC_mk, tc_mk, tz_mk, tI_pushL, tL_pushL, tR_pushL, tN_pushL, tZ_pushL, tC_pushL, tc_pushL, tz_pushL, tI_pushB, tL_pushB, tR_pushB, tN_pushB, tZ_pushB, tC_pushB, tc_pushB, tz_pushB, tI_cpL, tL_cpL, tR_cpL, tN_cpL, tZ_cpL, tC_cpL, tc_cpL, tz_cpL, eq_self, true_and, and_true, false_and, and_false, if_true, if_false, reduceIte, ite_true, ite_false, not_true_eq_false, not_false_eq_true, h37]
  have a3 : ∀ r, acc (some (36, sh)) 10 (enc 1 a z) r = r := fun r => by simp (config := {decide := true}) only [gfI_enc, gfL_enc, gfR_enc, pfI_enc, pfL_enc, pfR_enc, Option.bind_some, cI_v, cL_v, cF_v, cD_v, cR_v, cV_v, cI_x, cL_x, cR_x, cV_x, gz_0, gz_1, acc_enc, tI_sI, tL_sI, tR_sI, tN_sI, tZ_sI, tC_sI, tc_sI, tz_sI, tI_sL, tL_sL, tR_sL, tN_sL, tZ_sL, tC_sL, tc_sL, tz_sL, tI_sR, tL_sR, tR_sR, tN_sR, tZ_sR, tC_sR, tc_sR, tz_sR, tI_sZ, tL_sZ, tR_sZ, tN_sZ, tZ_sZ, tC_sZ, tc_sZ, tz_sZ, tI_sC, tL_sC, tR_sC, tN_sC, tZ_sC, tC_sC, tc_sC, tz_sC, tI_aC, tL_aC, tR_aC, tN_aC, tZ_aC, tC_aC, tc_aC, tz_aC, tI_rmL, tL_rmL, tR_rmL, tN_rmL, tZ_rmL, tC_rmL, tc_rmL, tz_rmL, tI_mk, tL_mk, tR_mk, tN_mk, tZ_mk, tC_mk, tc_mk, tz_mk, tI_pushL, tL_pushL, tR_pushL, tN_pushL, tZ_pushL, tC_pushL, tc_pushL, tz_pushL, tI_pushB, tL_pushB, tR_pushB, tN_pushB, tZ_pushB, tC_pushB, tc_pushB, tz_pushB, tI_cpL, tL_cpL, tR_cpL, tN_cpL, tZ_cpL, tC_cpL, tc_cpL, tz_cpL, eq_self, true_and, and_true, false_and, and_false, if_true, if_false, reduceIte, ite_true, ite_false, not_true_eq_false, not_false_eq_true, h36]
  have t5 : Ex 405 [aR (some (29, 0))] (enc 1 a z) = some (.inl (some (aI (Int32.ofNat (tZ a 29 0)))), enc 1 a z) := by simp (config := {decide := true}) only [gfI_enc, gfL_enc, gfR_enc, pfI_enc, pfL_enc, pfR_enc, Option.bind_some, cI_v, cL_v, cF_v, cD_v, cR_v, cV_v, cI_x, cL_x, cR_x, cV_x, gz_0, gz_1, acc_enc, tI_sI, tL_sI, tR_sI, tN_sI, tZ_sI, tC_sI, tc_sI, tz_sI, tI_sL, tL_sL, tR_sL, tN_sL, tZ_sL, tC_sL, tc_sL, tz_sL, tI_sR, tL_sR, tR_sR, tN_sR, tZ_sR, tC_sR, tc_sR, tz_sR, tI_sZ, tL_sZ, tR_sZ, tN_sZ, tZ_sZ, tC_sZ, tc_sZ, tz_sZ, tI_sC, tL_sC, tR_sC, tN_sC, tZ_sC, tC_sC, tc_sC, tz_sC, tI_aC, tL_aC, tR_aC, tN_aC, tZ_aC, tC_aC, tc_aC, tz_aC, tI_rmL, tL_rmL, tR_rmL, tN_rmL, tZ_rmL, tC_rmL, tc_rmL, tz_rmL, tI_mk, tL_mk, tR_mk, tN_mk, tZ_mk, tC_mk, tc_mk, tz_mk, tI_pushL, tL_pushL, tR_pushL, tN_pushL, tZ_pushL, tC_pushL, tc_pushL, tz_pushL, tI_pushB, tL_pushB, tR_pushB, tN_pushB, tZ_pushB, tC_pushB, tc_pushB, tz_pushB, tI_cpL, tL_cpL, tR_cpL, tN_cpL, tZ_cpL, tC_cpL, tc_cpL, tz_cpL, eq_self, true_and, and_true, false_and, and_false, if_true, if_false, reduceIte, ite_true, ite_false, not_true_eq_false, not_false_eq_true, X405, fcN_29 hFa]
  refine (X_in (by decide +kernel) (fcN_96 hFa) rfl).trans ((lf_96_0 ..).trans ?_)
  rw [s4, Option.bind_some, t4, cR_v, a4, s3, Option.bind_some, t3, cR_v, a3]
  rcases hw with ⟨w1, w2, f3⟩ | ⟨w1, w2, w3, f3⟩
  · have n0 : ¬ Int32.ofNat w = 0 := fun q => by
      have := o_inj (by omega) (by omega) (show Int32.ofNat w = Int32.ofNat 0 from q)
      omega
    rw [f3, cI_v, if_neg n0, if_neg n0]
  · rw [w1, w2]
    have l200 : ¬ Int32.ofNat (tZ a 29 0) < 200 := fun q => by
      have := (o_lt (n := tZ a 29 0) (k := 200) (by omega) (by omega)).mp q
      omega
    have z0 : (0 : Int32) = 0 := rfl
    have n50 : ¬ (5 : Int32) = 0 := by decide
    rw [f3, cI_v, if_pos z0, s5, Option.bind_some, t5, cI_v, if_neg l200, if_neg n50]
    rfl
theorem op_pay {a b : TS} {C : Nat} (h : Core a b C) (p0 p1 p2 p3 : Int32) : OpR 95 [aR (some (96, 0)), aI p0, aI p1, aI p2, aI p3] 96 [aR (some (96, 0)), aI p0, aI p1, aI p2, aI p3] 266 [aR (some (97, 0)), aI p0, aI p1, aI p2, aI p3] (fun r => r) a b C C := by
  have hR := h.1.1
  have hF := r_FC hR
  have hFR := r_FR hR
  obtain ⟨C1, -, ⟨C3, -⟩, C6, C7⟩ := r_C hR
  obtain ⟨S1, -, ⟨S2, -⟩, ⟨-, S4, -⟩, S5⟩ := r_S hR
  have f266 : ∀ {v : Int32} {b' : TS}, FxR b' → (∀ z, Ex 242 [aR (some (93, 0)), aI p0, aI p1, aI p2, aI p3] (enc 2 b z) = some (.inl (some (aI v)), enc 2 b' z)) → ∀ z, Ex 266 [aR (some (97, 0)), aI p0, aI p1, aI p2, aI p3] (enc 2 b z) = some (.inl (some (aI v)), enc 2 (sI b' 97 0 8 (tI b' 93 0 10)) z) := fun {v b'} hF' hy z => by
    have f255 := fun v z => y255 (b := b') (z := z) (v := v) hF'
    refine (X_in (by decide +kernel) (frN_97 hFR) rfl).trans ((lf_266_0 ..).trans ?_)
    simp (config := {decide := true}) only [gfI_enc, gfL_enc, gfR_enc, pfI_enc, pfL_enc, pfR_enc, Option.bind_some, cI_v, cL_v, cF_v, cD_v, cR_v, cV_v, cI_x, cL_x, cR_x, cV_x, gz_0, gz_1, acc_enc, tI_sI, tL_sI, tR_sI, tN_sI, tZ_sI, tC_sI, tc_sI, tz_sI, tI_sL, tL_sL, tR_sL, tN_sL, tZ_sL, tC_sL, tc_sL, tz_sL, tI_sR, tL_sR, tR_sR, tN_sR, tZ_sR, tC_sR, tc_sR, tz_sR, tI_sZ, tL_sZ, tR_sZ, tN_sZ, tZ_sZ, tC_sZ, tc_sZ, tz_sZ, tI_sC, tL_sC, tR_sC, tN_sC, tZ_sC, tC_sC, tc_sC, tz_sC, tI_aC, tL_aC, tR_aC, tN_aC, tZ_aC, tC_aC, tc_aC, tz_aC, tI_rmL, tL_rmL, tR_rmL, tN_rmL, tZ_rmL, tC_rmL, tc_rmL, tz_rmL, tI_mk, tL_mk, tR_mk, tN_mk, tZ_mk, tC_mk, tc_mk, tz_mk, tI_pushL, tL_pushL, tR_pushL, tN_pushL, tZ_pushL, tC_pushL, tc_pushL, tz_pushL, tI_pushB, tL_pushB, tR_pushB, tN_pushB, tZ_pushB, tC_pushB, tc_pushB, tz_pushB, tI_cpL, tL_cpL, tR_cpL, tN_cpL, tZ_cpL, tC_cpL, tc_cpL, tz_cpL, eq_self, true_and, and_true, false_and, and_false, if_true, if_false, reduceIte, ite_true, ite_false, not_true_eq_false, not_false_eq_true, frN_97 hFR, frR_97_2 hFR, hy, f255]
  have bad : ∀ r, 1 ≤ r → r ≤ 2 → (∀ z, Ex 95 [aR (some (96, 0)), aI p0, aI p1, aI p2, aI p3] (enc 1 a z) = some (.inl (some (aI (Int32.ofNat r))), enc 1 a z)) → (∀ z, Ex 242 [aR (some (93, 0)), aI p0, aI p1, aI p2, aI p3] (enc 2 b z) = some (.inl (some (aI 0)), enc 2 (sI b 93 0 10 (Int32.ofNat r)) z)) → OpR 95 [aR (some (96, 0)), aI p0, aI p1, aI p2, aI p3] 96 [aR (some (96, 0)), aI p0, aI p1, aI p2, aI p3] 266 [aR (some (97, 0)), aI p0, aI p1, aI p2, aI p3] (fun r => r) a b C C := fun r r1 r2 hx hy => by
    have hF' : FxR (sI b 93 0 10 (Int32.ofNat r)) := FxR_s hFR th93_w (th93_c (b := b) (v := Int32.ofNat r)) (by decide)
    have hy2 := f266 hF' hy
    have e : tI (sI b 93 0 10 (Int32.ofNat r)) 93 0 10 = Int32.ofNat r := by rw [tI_sI, if_pos ⟨rfl, rfl, rfl⟩]
    rw [e] at hy2
    exact OpR_bad h r r1 (by omega) hx hy2 (chF_t th93_c th_c) (th93_w.t th_w) th_v
  have n10 : ¬ (1 : Int32) = 0 := by decide
  have z00 : (0 : Int32) = 0 := rfl
  by_cases e0 : inR p0 0 (Int32.ofNat (tZ a 28 0) - 1)
  · have x0 := x139_1 e0
    by_cases e1 : inR p1 0 (Int32.ofNat (tZ a 27 0) - 1)
    · have x1 := x139_1 e1
      by_cases e23 : inR p2 1 100000 ∧ inR p3 (-1) 9999
      · have x2 := x139_1 e23.1
        have x3 := x139_1 e23.2
        have hx95 : ∀ z, Ex 95 [aR (some (96, 0)), aI p0, aI p1, aI p2, aI p3] (enc 1 a z) = some (.inl (some (aI 0)), enc 1 a z) := fun z => by
          refine (X_in (by decide +kernel) (fcN_96 hF) rfl).trans ((lf_95_0 ..).trans ?_)
          simp (config := {decide := true}) only [gfI_enc, gfL_enc, gfR_enc, pfI_enc, pfL_enc, pfR_enc, Option.bind_some, cI_v, cL_v, cF_v, cD_v, cR_v, cV_v, cI_x, cL_x, cR_x, cV_x, gz_0, gz_1, acc_enc, tI_sI, tL_sI, tR_sI, tN_sI, tZ_sI, tC_sI, tc_sI, tz_sI, tI_sL, tL_sL, tR_sL, tN_sL, tZ_sL, tC_sL, tc_sL, tz_sL, tI_sR, tL_sR, tR_sR, tN_sR, tZ_sR, tC_sR, tc_sR, tz_sR, tI_sZ, tL_sZ, tR_sZ, tN_sZ, tZ_sZ, tC_sZ, tc_sZ, tz_sZ, tI_sC, tL_sC, tR_sC, tN_sC, tZ_sC, tC_sC, tc_sC, tz_sC, tI_aC, tL_aC, tR_aC, tN_aC, tZ_aC, tC_aC, tc_aC, tz_aC, tI_rmL, tL_rmL, tR_rmL, tN_rmL, tZ_rmL, tC_rmL, tc_rmL, tz_rmL, tI_mk, tL_mk, tR_mk, tN_mk, tZ_mk, tC_mk, tc_mk, tz_mk, tI_pushL, tL_pushL, tR_pushL, tN_pushL, tZ_pushL, tC_pushL, tc_pushL, tz_pushL, tI_pushB, tL_pushB, tR_pushB, tN_pushB, tZ_pushB, tC_pushB, tc_pushB, tz_pushB, tI_cpL, tL_cpL, tR_cpL, tN_cpL, tZ_cpL, tC_cpL, tc_cpL, tz_cpL, eq_self, true_and, and_true, false_and, and_false, if_true, if_false, reduceIte, ite_true, ite_false, not_true_eq_false, not_false_eq_true, fcN_96 hF, fcR_96_3 hF, fcR_96_4 hF, X405, fcN_27 hF, fcN_28 hF, x0, x1, x2, x3, n10]
        have head := fun z => y242_head (z := z) (s1 := 0) (s2 := 0) hFR C6 S4 (fun _ => rfl) (fun q => absurd ⟨e0, e1⟩ q) (fun _ => rfl) (fun q => absurd e23 q)
        have hm : 0 < p2 ∧ p2 ≤ 100000 := by
          obtain ⟨k, k1, k2, k3⟩ := inR_nat (lo := 1) (hi := 100000) e23.1 (by omega) (by omega)
          subst k3
          exact ⟨(o_lt (n := 0) (k := k) (by omega) (by omega)).mpr (by omega), (o_le (n := k) (k := 100000) (by omega) (by omega)).mpr k2⟩
        obtain ⟨cd, hcd, ecd⟩ := inR_ex e0 (by omega)
        obtain ⟨sh, hsh, esh⟩ := inR_ex e1 (by omega)
        subst ecd esh
        have hb : Core a (sI b 93 0 10 0) C := Core_th h th93_c th93_w
        have hRb := hb.1.1
        obtain ⟨-, -, d7, d8, -, -, d11, ⟨b5, b1, b2⟩, -⟩ := (r_D hRb).1 cd hcd
        obtain ⟨-, -, -, -, c7⟩ := r_C hRb
        obtain ⟨-, -, -, c72, -⟩ := c7 cd hcd
        obtain ⟨-, -, -, P4, -⟩ := r_P' hRb
        have P1 : tZ a 29 0 ≤ 200 := (r_P' hR).1
        have f3 := fun z => x3w (a := a) (z := z) (cd := cd) (m := p2) (p := p3) (by omega)
        have f239 := fun z => y239 (b := sI b 93 0 10 0) (z := z) (cd := cd) (m := p2) (p := p3) (r_FR hRb) (by omega) b5 (by rcases b1 with q | q | q | q <;> rw [q] <;> decide) (by rcases b2 with q | q | q | q | q | q <;> rw [q] <;> decide)
        have hw := why_full (tI a 37 cd 11) (tI a 37 cd 7) (tI a 37 cd 8) (tI a 37 cd 2) p2 p3 (decide (tI (sI b 93 0 10 0) 93 0 8 = 200))
        have h3 := @why_3 (tI a 37 cd 11) (tI a 37 cd 7) (tI a 37 cd 8) (tI a 37 cd 2) p2 p3
        have h4 := why_le (tI a 37 cd 11) (tI a 37 cd 7) (tI a 37 cd 8) (tI a 37 cd 2) p2 p3
        have h00 := @why_0 (tI a 37 cd 11) (tI a 37 cd 7) (tI a 37 cd 8) (tI a 37 cd 2) p2 p3
        have ew : whyN (tI (sI b 93 0 10 0) 86 0 (10 * cd + 5)) (tI (sI b 93 0 10 0) 86 0 (10 * cd + 1)) (tI (sI b 93 0 10 0) 86 0 (10 * cd + 2)) (tI (sI b 93 0 10 0) 86 0 (10 * cd + 7)) p2 p3 (decide (tI (sI b 93 0 10 0) 93 0 8 = 200)) = whyN (tI a 37 cd 11) (tI a 37 cd 7) (tI a 37 cd 8) (tI a 37 cd 2) p2 p3 (decide (tI (sI b 93 0 10 0) 93 0 8 = 200)) := by
          rw [← d11, ← d7, ← d8, ← c72]
        rw [ew, hw, P4] at f239
        generalize whyN (tI a 37 cd 11) (tI a 37 cd 7) (tI a 37 cd 8) (tI a 37 cd 2) p2 p3 false = w at *
        have refuse : ∀ (v : Nat) (a' b' : TS), 1 ≤ v → v ≤ 5 → (∀ z, Ex 239 [aR (some (93, 0)), aI (Int32.ofNat cd), aI p2, aI p3] (enc 2 (sI b 93 0 10 0) z) = some (.inl (some (aI (Int32.ofNat v))), enc 2 b' z)) → (∀ z, Ex 96 [aR (some (96, 0)), aI (Int32.ofNat cd), aI (Int32.ofNat sh), aI p2, aI p3] (enc 1 a z) = some (.inl (some (aI (-(Int32.ofNat v)))), enc 1 a' z)) → Core a' b' C → Wr a a' → Wr (sI b 93 0 10 0) b' → sam txA a a' → sam txB (sI b 93 0 10 0) b' → tI b' 93 0 10 = 0 →
            OpR 95 [aR (some (96, 0)), aI (Int32.ofNat cd), aI (Int32.ofNat sh), aI p2, aI p3] 96 [aR (some (96, 0)), aI (Int32.ofNat cd), aI (Int32.ofNat sh), aI p2, aI p3] 266 [aR (some (97, 0)), aI (Int32.ofNat cd), aI (Int32.ofNat sh), aI p2, aI p3] (fun r => r) a b C C := fun v a' b' v1 v2 hy hx hc hwa hwb hsa hsb h0 => by
          have n0 : ¬ Int32.ofNat v ≤ 0 := fun q => by
            have := (o_le (n := v) (k := 0) (by omega) (by omega)).mp q
            omega
          have hy2 := f266 (v := -(Int32.ofNat v)) (b' := b') (r_FR hc.1.1) (fun z => by rw [head, lf_242_61, y225_0 hFR, cI_v, if_pos z00, hy, cI_v, if_neg n0])
          rw [h0] at hy2
          exact Or.inr (done_of hx95 ⟨_, a', _, hx, hy2, th_v, Core_th hc th_c th_w, hwa, (th93_w.t hwb).t th_w, hsa, sam_t (sam_t (sam_c th93_c (by decide)) hsb) th_s⟩)
        have n03 : ¬ (0 : Nat) = 3 := by decide
        have n53 : ¬ (5 : Nat) = 3 := by decide
        have nff : ¬ (false = true) := by decide
        have ntt : true = true := rfl
        have q0 : ∀ h : Hp, (some (.inl (some (aI (Int32.ofNat 0))), h) : Res) = some (.inl (some (aI 0)), h) := fun h => rfl
        have e930 : tI (sI b 93 0 10 0) 93 0 10 = 0 := by rw [tI_sI, if_pos ⟨rfl, rfl, rfl⟩]
        have nw := fun (v : Nat) (a1 : TS) hw z => x96_no (a := a) (a' := a1) (w := v) (cd := cd) (sh := sh) (m := p2) (pin := p3) hF hsh (S5 sh hsh).1 (by omega) hcd (C7 cd hcd).1 (by omega) (by omega) (by omega) hw z
        by_cases w0 : w = 0
        · have f3' : ∀ z, Ex 3 [aR (some (37, cd)), aI p2, aI p3] (enc 1 a z) = some (.inl (some (aI 0)), enc 1 a z) := fun z => by
            rw [f3 z, w0, if_neg n03]
            exact q0 _
          by_cases l2 : tZ a 29 0 < 200
          · have nd : decide (Int32.ofNat (tZ a 29 0) = 200) = false := decide_eq_false (fun q => by
              have := o_inj (by omega) (by omega) (show Int32.ofNat (tZ a 29 0) = Int32.ofNat 200 from q)
              omega)
            have f239' : ∀ z, Ex 239 [aR (some (93, 0)), aI (Int32.ofNat cd), aI p2, aI p3] (enc 2 (sI b 93 0 10 0) z) = some (.inl (some (aI 0)), enc 2 (sI b 93 0 10 0) z) := fun z => by
              rw [f239 z, if_pos w0, nd, if_neg nff, if_neg n03]
              exact q0 _
            have b86 : tI (sI b 93 0 10 0) 86 0 (10 * cd + 2) = tI b 86 0 (10 * cd + 2) := by rw [tI_sI, if_neg (fun q => absurd q.1 (by decide))]
            obtain ⟨a', b', q1, q2, q3, q4, q5, q6, q7, q8⟩ := pay_done hFR hb l2 hcd hsh hm (fun ep q => h00 w0 ep (d8.trans (b86.trans q))) f3' f239'
            have hy2 := f266 (r_FR q3.1.1) (fun z => by rw [head]; exact q2 z)
            rw [q8] at hy2
            exact Or.inr (done_of hx95 ⟨_, a', _, q1, hy2, th_v, Core_th q3 th_c th_w, q4, (th93_w.t q5).t th_w, q6, sam_t (sam_t (sam_c th93_c (by decide)) q7) th_s⟩)
          · have l2' : tZ a 29 0 = 200 := by omega
            refine refuse 5 a (sI b 93 0 10 0) (by omega) (by omega) (fun z => ?_) (nw _ _ (Or.inr ⟨rfl, rfl, l2', f3'⟩)) hb (Wr.rf _) (Wr.rf _) (sam_r _ _) (sam_r _ _) e930
            have nd : decide (Int32.ofNat (tZ a 29 0) = 200) = true := by rw [l2']; rfl
            rw [f239 z, if_pos w0, nd, if_pos ntt, if_neg n53]
        · by_cases w3 : w = 3
          · refine refuse 3 (sI a 37 cd 7 (tI a 37 cd 7 - 1)) (sI (sI b 93 0 10 0) 86 0 (10 * cd + 1) (tI (sI b 93 0 10 0) 86 0 (10 * cd + 1) + -1)) (by omega) (by omega) (fun z => by rw [f239 z, if_neg w0, if_pos w3, w3]) (nw _ _ (Or.inl ⟨by omega, by omega, fun z => by rw [f3 z, if_pos w3, w3]⟩)) (core_try hb hcd (h3 w3)) ((Wr.rf _).cI _ _ _ _) ((Wr.rf _).cI _ _ _ _) (sam_c (D := []) (F := [(37, 7)]) (chF_I (by simp) (chF_r _ _ _)) (by decide)) (sam_c (D := [86]) (F := []) (chF_I (by simp) (chF_r _ _ _)) (by decide)) ?_
            rw [tI_sI, if_neg (fun q => absurd q.1 (by decide))]
            exact e930
          · exact refuse w a (sI b 93 0 10 0) (by omega) (by omega) (fun z => by rw [f239 z, if_neg w0, if_neg w3]) (nw _ _ (Or.inl ⟨by omega, h4, fun z => by rw [f3 z, if_neg w3]⟩)) hb (Wr.rf _) (Wr.rf _) (sam_r _ _) (sam_r _ _) e930
      · refine bad 2 (by omega) (by omega) (fun z => ?_) (fun z => by rw [y242_head hFR C6 S4 (s1 := 0) (s2 := 1) (fun _ => rfl) (fun q => absurd ⟨e0, e1⟩ q) (fun q => absurd q e23) (fun _ => rfl)]; exact y242_bad hFR (Or.inr ⟨rfl, rfl, rfl⟩))
        refine (X_in (by decide +kernel) (fcN_96 hF) rfl).trans ((lf_95_0 ..).trans ?_)
        by_cases e2 : inR p2 1 100000
        · have x2 := x139_1 e2
          have x3 := x139_0 (fun q => e23 ⟨e2, q⟩)
          simp (config := {decide := true}) only [gfI_enc, gfL_enc, gfR_enc, pfI_enc, pfL_enc, pfR_enc, Option.bind_some, cI_v, cL_v, cF_v, cD_v, cR_v, cV_v, cI_x, cL_x, cR_x, cV_x, gz_0, gz_1, acc_enc, tI_sI, tL_sI, tR_sI, tN_sI, tZ_sI, tC_sI, tc_sI, tz_sI, tI_sL, tL_sL, tR_sL, tN_sL, tZ_sL, tC_sL, tc_sL, tz_sL, tI_sR, tL_sR, tR_sR, tN_sR, tZ_sR, tC_sR, tc_sR, tz_sR, tI_sZ, tL_sZ, tR_sZ, tN_sZ, tZ_sZ, tC_sZ, tc_sZ, tz_sZ, tI_sC, tL_sC, tR_sC, tN_sC, tZ_sC, tC_sC, tc_sC, tz_sC, tI_aC, tL_aC, tR_aC, tN_aC, tZ_aC, tC_aC, tc_aC, tz_aC, tI_rmL, tL_rmL, tR_rmL, tN_rmL, tZ_rmL, tC_rmL, tc_rmL, tz_rmL, tI_mk, tL_mk, tR_mk, tN_mk, tZ_mk, tC_mk, tc_mk, tz_mk, tI_pushL, tL_pushL, tR_pushL, tN_pushL, tZ_pushL, tC_pushL, tc_pushL, tz_pushL, tI_pushB, tL_pushB, tR_pushB, tN_pushB, tZ_pushB, tC_pushB, tc_pushB, tz_pushB, tI_cpL, tL_cpL, tR_cpL, tN_cpL, tZ_cpL, tC_cpL, tc_cpL, tz_cpL, eq_self, true_and, and_true, false_and, and_false, if_true, if_false, reduceIte, ite_true, ite_false, not_true_eq_false, not_false_eq_true, fcN_96 hF, fcR_96_3 hF, fcR_96_4 hF, X405, fcN_27 hF, fcN_28 hF, x0, x1, x2, x3, n10]
          rfl
        · have x2 := x139_0 e2
          simp (config := {decide := true}) only [gfI_enc, gfL_enc, gfR_enc, pfI_enc, pfL_enc, pfR_enc, Option.bind_some, cI_v, cL_v, cF_v, cD_v, cR_v, cV_v, cI_x, cL_x, cR_x, cV_x, gz_0, gz_1, acc_enc, tI_sI, tL_sI, tR_sI, tN_sI, tZ_sI, tC_sI, tc_sI, tz_sI, tI_sL, tL_sL, tR_sL, tN_sL, tZ_sL, tC_sL, tc_sL, tz_sL, tI_sR, tL_sR, tR_sR, tN_sR, tZ_sR, tC_sR, tc_sR, tz_sR, tI_sZ, tL_sZ, tR_sZ, tN_sZ, tZ_sZ, tC_sZ, tc_sZ, tz_sZ, tI_sC, tL_sC, tR_sC, tN_sC, tZ_sC, tC_sC, tc_sC, tz_sC, tI_aC, tL_aC, tR_aC, tN_aC, tZ_aC, tC_aC, tc_aC, tz_aC, tI_rmL, tL_rmL, tR_rmL, tN_rmL, tZ_rmL, tC_rmL, tc_rmL, tz_rmL, tI_mk, tL_mk, tR_mk, tN_mk, tZ_mk, tC_mk, tc_mk, tz_mk, tI_pushL, tL_pushL, tR_pushL, tN_pushL, tZ_pushL, tC_pushL, tc_pushL, tz_pushL, tI_pushB, tL_pushB, tR_pushB, tN_pushB, tZ_pushB, tC_pushB, tc_pushB, tz_pushB, tI_cpL, tL_cpL, tR_cpL, tN_cpL, tZ_cpL, tC_cpL, tc_cpL, tz_cpL, eq_self, true_and, and_true, false_and, and_false, if_true, if_false, reduceIte, ite_true, ite_false, not_true_eq_false, not_false_eq_true, fcN_96 hF, fcR_96_3 hF, fcR_96_4 hF, X405, fcN_27 hF, fcN_28 hF, x0, x1, x2, n10]
          rfl
    · have x1 := x139_0 e1
      obtain ⟨s2, h2, h2'⟩ : ∃ s2 : Int32, ((inR p2 1 100000 ∧ inR p3 (-1) 9999) → s2 = 0) ∧ (¬ (inR p2 1 100000 ∧ inR p3 (-1) 9999) → s2 = 1) := by
        by_cases q : inR p2 1 100000 ∧ inR p3 (-1) 9999
        · exact ⟨0, fun _ => rfl, fun q' => absurd q q'⟩
        · exact ⟨1, fun q' => absurd q' q, fun _ => rfl⟩
      refine bad 1 (by omega) (by omega) (fun z => ?_) (fun z => by rw [y242_head hFR C6 S4 (s1 := 1) (s2 := s2) (fun q => absurd q.2 e1) (fun _ => rfl) h2 h2']; exact y242_bad hFR (Or.inl ⟨rfl, rfl⟩))
      refine (X_in (by decide +kernel) (fcN_96 hF) rfl).trans ((lf_95_0 ..).trans ?_)
      simp (config := {decide := true}) only [gfI_enc, gfL_enc, gfR_enc, pfI_enc, pfL_enc, pfR_enc, Option.bind_some, cI_v, cL_v, cF_v, cD_v, cR_v, cV_v, cI_x, cL_x, cR_x, cV_x, gz_0, gz_1, acc_enc, tI_sI, tL_sI, tR_sI, tN_sI, tZ_sI, tC_sI, tc_sI, tz_sI, tI_sL, tL_sL, tR_sL, tN_sL, tZ_sL, tC_sL, tc_sL, tz_sL, tI_sR, tL_sR, tR_sR, tN_sR, tZ_sR, tC_sR, tc_sR, tz_sR, tI_sZ, tL_sZ, tR_sZ, tN_sZ, tZ_sZ, tC_sZ, tc_sZ, tz_sZ, tI_sC, tL_sC, tR_sC, tN_sC, tZ_sC, tC_sC, tc_sC, tz_sC, tI_aC, tL_aC, tR_aC, tN_aC, tZ_aC, tC_aC, tc_aC, tz_aC, tI_rmL, tL_rmL, tR_rmL, tN_rmL, tZ_rmL, tC_rmL, tc_rmL, tz_rmL, tI_mk, tL_mk, tR_mk, tN_mk, tZ_mk, tC_mk, tc_mk, tz_mk, tI_pushL, tL_pushL, tR_pushL, tN_pushL, tZ_pushL, tC_pushL, tc_pushL, tz_pushL, tI_pushB, tL_pushB, tR_pushB, tN_pushB, tZ_pushB, tC_pushB, tc_pushB, tz_pushB, tI_cpL, tL_cpL, tR_cpL, tN_cpL, tZ_cpL, tC_cpL, tc_cpL, tz_cpL, eq_self, true_and, and_true, false_and, and_false, if_true, if_false, reduceIte, ite_true, ite_false, not_true_eq_false, not_false_eq_true, fcN_96 hF, fcR_96_3 hF, fcR_96_4 hF, X405, fcN_27 hF, fcN_28 hF, x0, x1, n10]
      rfl
  · have x0 := x139_0 e0
    obtain ⟨s2, h2, h2'⟩ : ∃ s2 : Int32, ((inR p2 1 100000 ∧ inR p3 (-1) 9999) → s2 = 0) ∧ (¬ (inR p2 1 100000 ∧ inR p3 (-1) 9999) → s2 = 1) := by
      by_cases q : inR p2 1 100000 ∧ inR p3 (-1) 9999
      · exact ⟨0, fun _ => rfl, fun q' => absurd q q'⟩
      · exact ⟨1, fun q' => absurd q' q, fun _ => rfl⟩
    refine bad 1 (by omega) (by omega) (fun z => ?_) (fun z => by rw [y242_head hFR C6 S4 (s1 := 1) (s2 := s2) (fun q => absurd q.1 e0) (fun _ => rfl) h2 h2']; exact y242_bad hFR (Or.inl ⟨rfl, rfl⟩))
    refine (X_in (by decide +kernel) (fcN_96 hF) rfl).trans ((lf_95_0 ..).trans ?_)
    simp (config := {decide := true}) only [gfI_enc, gfL_enc, gfR_enc, pfI_enc, pfL_enc, pfR_enc, Option.bind_some, cI_v, cL_v, cF_v, cD_v, cR_v, cV_v, cI_x, cL_x, cR_x, cV_x, gz_0, gz_1, acc_enc, tI_sI, tL_sI, tR_sI, tN_sI, tZ_sI, tC_sI, tc_sI, tz_sI, tI_sL, tL_sL, tR_sL, tN_sL, tZ_sL, tC_sL, tc_sL, tz_sL, tI_sR, tL_sR, tR_sR, tN_sR, tZ_sR, tC_sR, tc_sR, tz_sR, tI_sZ, tL_sZ, tR_sZ, tN_sZ, tZ_sZ, tC_sZ, tc_sZ, tz_sZ, tI_sC, tL_sC, tR_sC, tN_sC, tZ_sC, tC_sC, tc_sC, tz_sC, tI_aC, tL_aC, tR_aC, tN_aC, tZ_aC, tC_aC, tc_aC, tz_aC, tI_rmL, tL_rmL, tR_rmL, tN_rmL, tZ_rmL, tC_rmL, tc_rmL, tz_rmL, tI_mk, tL_mk, tR_mk, tN_mk, tZ_mk, tC_mk, tc_mk, tz_mk, tI_pushL, tL_pushL, tR_pushL, tN_pushL, tZ_pushL, tC_pushL, tc_pushL, tz_pushL, tI_pushB, tL_pushB, tR_pushB, tN_pushB, tZ_pushB, tC_pushB, tc_pushB, tz_pushB, tI_cpL, tL_cpL, tR_cpL, tN_cpL, tZ_cpL, tC_cpL, tc_cpL, tz_cpL, eq_self, true_and, and_true, false_and, and_false, if_true, if_false, reduceIte, ite_true, ite_false, not_true_eq_false, not_false_eq_true, fcN_96 hF, fcR_96_4 hF, X405, fcN_28 hF, x0, n10]
    rfl
