/-! ===== what comes up is heard alike ===== -/
/-- the tails of the reference's hearing -/
theorem y206_ans {b : TS} {z : Hp} {p sh qs qi : Nat} (hF : FxR b) (hq : isQ qs) (hqi : qi < tN b qs) (q1 : tI b qs qi 1 = Int32.ofNat p) (hw : bitOk (tI b 94 0 14) = true) :
    (gfI (nob (enc 2 b z) 79 17 [0, 0, 0, 0, 0, 0, 0, 0, 0, 0, 0, 0, 0, 0]).2 (some (qs, qi)) 17 1).bind (fun x12 =>
        cV (Ex 214 [aR (nob (enc 2 b z) 79 17 [0, 0, 0, 0, 0, 0, 0, 0, 0, 0, 0, 0, 0, 0]).1, aI (4 : Int32), aI x12] (nob (enc 2 b z) 79 17 [0, 0, 0, 0, 0, 0, 0, 0, 0, 0, 0, 0, 0, 0]).2) (fun h13 =>
        (pf h13 (nob (enc 2 b z) 79 17 [0, 0, 0, 0, 0, 0, 0, 0, 0, 0, 0, 0, 0, 0]).1 17 12 (aI (1 : Int32))).bind (fun h14 =>
        (gfR h14 (some (95, 0)) 16 8).bind (fun x15 =>
        (gfI h14 x15 14 14).bind (fun x16 =>
        gz x16 ((pf h14 (nob (enc 2 b z) 79 17 [0, 0, 0, 0, 0, 0, 0, 0, 0, 0, 0, 0, 0, 0]).1 17 11 (aI x16)).bind (fun h17 =>
        (gfR h17 (some (95, 0)) 16 8).bind (fun x18 =>
        (gfI h17 x18 14 15).bind (fun x19 =>
        (pf h17 (nob (enc 2 b z) 79 17 [0, 0, 0, 0, 0, 0, 0, 0, 0, 0, 0, 0, 0, 0]).1 17 9 (aI x19)).bind (fun h20 =>
        (gfR h20 (some (95, 0)) 16 8).bind (fun x21 =>
        (gfI h20 x21 14 16).bind (fun x22 =>
        (pf h20 (nob (enc 2 b z) 79 17 [0, 0, 0, 0, 0, 0, 0, 0, 0, 0, 0, 0, 0, 0]).1 17 5 (aI x22)).bind (fun h23 =>
        (gfR h23 (some (95, 0)) 16 8).bind (fun x24 =>
        (gfI h23 x24 14 17).bind (fun x25 =>
        (pf h23 (nob (enc 2 b z) 79 17 [0, 0, 0, 0, 0, 0, 0, 0, 0, 0, 0, 0, 0, 0]).1 17 10 (aI x25)).bind (fun h26 =>
        cV (Ex 194 [aR (some (95, 0)), aI (Int32.ofNat sh), aR (nob (enc 2 b z) 79 17 [0, 0, 0, 0, 0, 0, 0, 0, 0, 0, 0, 0, 0, 0]).1] h26) (fun h27 =>
        some (.inl none, h27)) xT))))))))))))))) xT) =
      cV (Ex 194 [aR (some (95, 0)), aI (Int32.ofNat sh), aR (some (79, tN b 79))] (enc 2 (mlA b (Int32.ofNat p) (tI b 94 0 14) (tI b 94 0 15) (tI b 94 0 16) (tI b 94 0 17)) z)) (fun h27 => some (.inl none, h27)) xT := by
  have o79 : isO 2 17 79 := ⟨by decide +kernel, by decide +kernel⟩
  have hnF : nF 17 = 14 := rfl
  have f214 := fun z => y214 (b := mk b 79 0 0 14) (z := z) (s := 79) (i := tN b 79) 4 (Int32.ofNat p) o79 (by rw [tN_mk, if_pos rfl]; omega)
  have q79 : ¬ (qs = 79 ∧ qi = tN b 79) := fun e => by rw [e.1, e.2] at hqi; exact Nat.lt_irrefl _ hqi
  have qm : gfI (enc 2 (mk b 79 0 0 14) z) (some (qs, qi)) 17 1 = some (Int32.ofNat p) := by
    rw [gq hq (by rw [tN_mk]; split; rename_i e; rw [e] at hqi; omega; exact hqi) (by decide), tI_mk, if_neg q79, q1]
  have n79 : tN b 79 < tN b 79 + 1 := by omega
  rw [nob_enc (by decide +kernel), hnF]
  dsimp only
  rw [qm, Option.bind_some, f214, cV_v]
  unfold mlA
  simp (config := {decide := true}) only [gfI_enc, gfL_enc, gfR_enc, pfI_enc, pfL_enc, pfR_enc, Option.bind_some, cI_v, cL_v, cF_v, cD_v, cR_v, cV_v, cI_x, cL_x, cR_x, cV_x, gz_0, gz_1, acc_enc, tI_sI, tL_sI, tR_sI, tN_sI, tZ_sI, tC_sI, tc_sI, tz_sI, tI_sL, tL_sL, tR_sL, tN_sL, tZ_sL, tC_sL, tc_sL, tz_sL, tI_sR, tL_sR, tR_sR, tN_sR, tZ_sR, tC_sR, tc_sR, tz_sR, tI_sZ, tL_sZ, tR_sZ, tN_sZ, tZ_sZ, tC_sZ, tc_sZ, tz_sZ, tI_sC, tL_sC, tR_sC, tN_sC, tZ_sC, tC_sC, tc_sC, tz_sC, tI_aC, tL_aC, tR_aC, tN_aC, tZ_aC, tC_aC, tc_aC, tz_aC, tI_rmL, tL_rmL, tR_rmL, tN_rmL, tZ_rmL, tC_rmL, tc_rmL, tz_rmL, tI_mk, tL_mk, tR_mk, tN_mk, tZ_mk, tC_mk, tc_mk, tz_mk, tI_pushL, tL_pushL, tR_pushL, tN_pushL, tZ_pushL, tC_pushL, tc_pushL, tz_pushL, tI_pushB, tL_pushB, tR_pushB, tN_pushB, tZ_pushB, tC_pushB, tc_pushB, tz_pushB, tI_cpL, tL_cpL, tR_cpL, tN_cpL, tZ_cpL, tC_cpL, tc_cpL, tz_cpL, eq_self, true_and, and_true, false_and, and_false, if_true, if_false, reduceIte, ite_true, ite_false, not_true_eq_false, not_false_eq_true, n79, frN_95 hF, frN_94 hF, frR_95_8 hF, gz_b hw]
theorem y206_dn {b : TS} {z : Hp} {sh qs qi : Nat} {p so nu fg : Int32} (hF : FxR b) (hq : isQ qs) (hqi : qi < tN b qs) (q1 : tI b qs qi 1 = p) (q0 : tI b qs qi 0 = so) (q7 : tI b qs qi 7 = nu) (q13 : tI b qs qi 13 = fg) (hw : bitOk fg = true) :
    (gfI (nob (enc 2 b z) 80 17 [0, 0, 0, 0, 0, 0, 0, 0, 0, 0, 0, 0, 0, 0]).2 (some (qs, qi)) 17 1).bind (fun x31 =>
        cV (Ex 214 [aR (nob (enc 2 b z) 80 17 [0, 0, 0, 0, 0, 0, 0, 0, 0, 0, 0, 0, 0, 0]).1, aI (5 : Int32), aI x31] (nob (enc 2 b z) 80 17 [0, 0, 0, 0, 0, 0, 0, 0, 0, 0, 0, 0, 0, 0]).2) (fun h32 =>
        (gfI h32 (some (qs, qi)) 17 0).bind (fun x33 =>
        (pf h32 (nob (enc 2 b z) 80 17 [0, 0, 0, 0, 0, 0, 0, 0, 0, 0, 0, 0, 0, 0]).1 17 8 (aI x33)).bind (fun h34 =>
        (gfI h34 (some (qs, qi)) 17 7).bind (fun x35 =>
        (pf h34 (nob (enc 2 b z) 80 17 [0, 0, 0, 0, 0, 0, 0, 0, 0, 0, 0, 0, 0, 0]).1 17 7 (aI x35)).bind (fun h36 =>
        (gfI h36 (some (qs, qi)) 17 13).bind (fun x37 =>
        gz x37 ((pf h36 (nob (enc 2 b z) 80 17 [0, 0, 0, 0, 0, 0, 0, 0, 0, 0, 0, 0, 0, 0]).1 17 13 (aI x37)).bind (fun h38 =>
        cV (Ex 194 [aR (some (95, 0)), aI (Int32.ofNat sh), aR (nob (enc 2 b z) 80 17 [0, 0, 0, 0, 0, 0, 0, 0, 0, 0, 0, 0, 0, 0]).1] h38) (fun h39 =>
        some (.inl none, h39)) xT)))))))) xT) =
      cV (Ex 194 [aR (some (95, 0)), aI (Int32.ofNat sh), aR (some (80, tN b 80))] (enc 2 (mlD b p so nu fg) z)) (fun h27 => some (.inl none, h27)) xT := by
  have o80 : isO 2 17 80 := ⟨by decide +kernel, by decide +kernel⟩
  have hnF : nF 17 = 14 := rfl
  have f214 := fun z => y214 (b := mk b 80 0 0 14) (z := z) (s := 80) (i := tN b 80) 5 p o80 (by rw [tN_mk, if_pos rfl]; omega)
  have q80 : ¬ (qs = 80 ∧ qi = tN b 80) := fun e => by rw [e.1, e.2] at hqi; exact Nat.lt_irrefl _ hqi
  have q80' : ∀ k, ¬ (qs = 80 ∧ qi = tN b 80 ∧ k) := fun k e => q80 ⟨e.1, e.2.1⟩
  have qN : qi < tN (mk b 80 0 0 14) qs := by rw [tN_mk]; split; rename_i e; rw [e] at hqi; omega; exact hqi
  have qm : gfI (enc 2 (mk b 80 0 0 14) z) (some (qs, qi)) 17 1 = some p := by
    rw [gq hq qN (by decide), tI_mk, if_neg q80, q1]
  have n80 : tN b 80 < tN b 80 + 1 := by omega
  rw [nob_enc (by decide +kernel), hnF]
  dsimp only
  rw [qm, Option.bind_some, f214, cV_v]
  have gI : ∀ k, tI (mk b 80 0 0 14) qs qi k = tI b qs qi k := fun k => by rw [tI_mk, if_neg q80]
  have e0 : ∀ M : TS, qi < tN M qs → (∀ k, tI M qs qi k = tI b qs qi k) → ∀ z, gfI (enc 2 M z) (some (qs, qi)) 17 0 = some so ∧ gfI (enc 2 M z) (some (qs, qi)) 17 7 = some nu ∧ gfI (enc 2 M z) (some (qs, qi)) 17 13 = some fg := fun M h1 h2 z => ⟨by rw [gq hq h1 (by decide), h2, q0], by rw [gq hq h1 (by decide), h2, q7], by rw [gq hq h1 (by decide), h2, q13]⟩
  generalize hM : mk b 80 0 0 14 = M at *
  have nM : tN b 80 < tN M 80 := by rw [← hM, tN_mk, if_pos rfl]; omega
  have s1 := e0 (sI (sI M 80 (tN b 80) 0 5) 80 (tN b 80) 1 p) qN (fun k => by simp (config := {decide := true}) only [gfI_enc, gfL_enc, gfR_enc, pfI_enc, pfL_enc, pfR_enc, Option.bind_some, cI_v, cL_v, cF_v, cD_v, cR_v, cV_v, cI_x, cL_x, cR_x, cV_x, gz_0, gz_1, acc_enc, tI_sI, tL_sI, tR_sI, tN_sI, tZ_sI, tC_sI, tc_sI, tz_sI, tI_sL, tL_sL, tR_sL, tN_sL, tZ_sL, tC_sL, tc_sL, tz_sL, tI_sR, tL_sR, tR_sR, tN_sR, tZ_sR, tC_sR, tc_sR, tz_sR, tI_sZ, tL_sZ, tR_sZ, tN_sZ, tZ_sZ, tC_sZ, tc_sZ, tz_sZ, tI_sC, tL_sC, tR_sC, tN_sC, tZ_sC, tC_sC, tc_sC, tz_sC, tI_aC, tL_aC, tR_aC, tN_aC, tZ_aC, tC_aC, tc_aC, tz_aC, tI_rmL, tL_rmL, tR_rmL, tN_rmL, tZ_rmL, tC_rmL, tc_rmL, tz_rmL, tI_mk, tL_mk, tR_mk, tN_mk, tZ_mk, tC_mk, tc_mk, tz_mk, tI_pushL, tL_pushL, tR_pushL, tN_pushL, tZ_pushL, tC_pushL, tc_pushL, tz_pushL, tI_pushB, tL_pushB, tR_pushB, tN_pushB, tZ_pushB, tC_pushB, tc_pushB, tz_pushB, tI_cpL, tL_cpL, tR_cpL, tN_cpL, tZ_cpL, tC_cpL, tc_cpL, tz_cpL, eq_self, true_and, and_true, false_and, and_false, if_true, if_false, reduceIte, ite_true, ite_false, not_true_eq_false, not_false_eq_true, q80']; exact gI k) z
  have s2 := e0 (sI (sI (sI M 80 (tN b 80) 0 5) 80 (tN b 80) 1 p) 80 (tN b 80) 8 so) qN (fun k => by simp (config := {decide := true}) only [gfI_enc, gfL_enc, gfR_enc, pfI_enc, pfL_enc, pfR_enc, Option.bind_some, cI_v, cL_v, cF_v, cD_v, cR_v, cV_v, cI_x, cL_x, cR_x, cV_x, gz_0, gz_1, acc_enc, tI_sI, tL_sI, tR_sI, tN_sI, tZ_sI, tC_sI, tc_sI, tz_sI, tI_sL, tL_sL, tR_sL, tN_sL, tZ_sL, tC_sL, tc_sL, tz_sL, tI_sR, tL_sR, tR_sR, tN_sR, tZ_sR, tC_sR, tc_sR, tz_sR, tI_sZ, tL_sZ, tR_sZ, tN_sZ, tZ_sZ, tC_sZ, tc_sZ, tz_sZ, tI_sC, tL_sC, tR_sC, tN_sC, tZ_sC, tC_sC, tc_sC, tz_sC, tI_aC, tL_aC, tR_aC, tN_aC, tZ_aC, tC_aC, tc_aC, tz_aC, tI_rmL, tL_rmL, tR_rmL, tN_rmL, tZ_rmL, tC_rmL, tc_rmL, tz_rmL, tI_mk, tL_mk, tR_mk, tN_mk, tZ_mk, tC_mk, tc_mk, tz_mk, tI_pushL, tL_pushL, tR_pushL, tN_pushL, tZ_pushL, tC_pushL, tc_pushL, tz_pushL, tI_pushB, tL_pushB, tR_pushB, tN_pushB, tZ_pushB, tC_pushB, tc_pushB, tz_pushB, tI_cpL, tL_cpL, tR_cpL, tN_cpL, tZ_cpL, tC_cpL, tc_cpL, tz_cpL, eq_self, true_and, and_true, false_and, and_false, if_true, if_false, reduceIte, ite_true, ite_false, not_true_eq_false, not_false_eq_true, q80']; exact gI k) z
  have s3 := e0 (sI (sI (sI (sI M 80 (tN b 80) 0 5) 80 (tN b 80) 1 p) 80 (tN b 80) 8 so) 80 (tN b 80) 7 nu) qN (fun k => by simp (config := {decide := true}) only [gfI_enc, gfL_enc, gfR_enc, pfI_enc, pfL_enc, pfR_enc, Option.bind_some, cI_v, cL_v, cF_v, cD_v, cR_v, cV_v, cI_x, cL_x, cR_x, cV_x, gz_0, gz_1, acc_enc, tI_sI, tL_sI, tR_sI, tN_sI, tZ_sI, tC_sI, tc_sI, tz_sI, tI_sL, tL_sL, tR_sL, tN_sL, tZ_sL, tC_sL, tc_sL, tz_sL, tI_sR, tL_sR, tR_sR, tN_sR, tZ_sR, tC_sR, tc_sR, tz_sR, tI_sZ, tL_sZ, tR_sZ, tN_sZ, tZ_sZ, tC_sZ, tc_sZ, tz_sZ, tI_sC, tL_sC, tR_sC, tN_sC, tZ_sC, tC_sC, tc_sC, tz_sC, tI_aC, tL_aC, tR_aC, tN_aC, tZ_aC, tC_aC, tc_aC, tz_aC, tI_rmL, tL_rmL, tR_rmL, tN_rmL, tZ_rmL, tC_rmL, tc_rmL, tz_rmL, tI_mk, tL_mk, tR_mk, tN_mk, tZ_mk, tC_mk, tc_mk, tz_mk, tI_pushL, tL_pushL, tR_pushL, tN_pushL, tZ_pushL, tC_pushL, tc_pushL, tz_pushL, tI_pushB, tL_pushB, tR_pushB, tN_pushB, tZ_pushB, tC_pushB, tc_pushB, tz_pushB, tI_cpL, tL_cpL, tR_cpL, tN_cpL, tZ_cpL, tC_cpL, tc_cpL, tz_cpL, eq_self, true_and, and_true, false_and, and_false, if_true, if_false, reduceIte, ite_true, ite_false, not_true_eq_false, not_false_eq_true, q80']; exact gI k) z
  unfold mlD
  rw [hM]
  simp (config := {decide := true}) only [gfI_enc, gfL_enc, gfR_enc, pfI_enc, pfL_enc, pfR_enc, Option.bind_some, cI_v, cL_v, cF_v, cD_v, cR_v, cV_v, cI_x, cL_x, cR_x, cV_x, gz_0, gz_1, acc_enc, tI_sI, tL_sI, tR_sI, tN_sI, tZ_sI, tC_sI, tc_sI, tz_sI, tI_sL, tL_sL, tR_sL, tN_sL, tZ_sL, tC_sL, tc_sL, tz_sL, tI_sR, tL_sR, tR_sR, tN_sR, tZ_sR, tC_sR, tc_sR, tz_sR, tI_sZ, tL_sZ, tR_sZ, tN_sZ, tZ_sZ, tC_sZ, tc_sZ, tz_sZ, tI_sC, tL_sC, tR_sC, tN_sC, tZ_sC, tC_sC, tc_sC, tz_sC, tI_aC, tL_aC, tR_aC, tN_aC, tZ_aC, tC_aC, tc_aC, tz_aC, tI_rmL, tL_rmL, tR_rmL, tN_rmL, tZ_rmL, tC_rmL, tc_rmL, tz_rmL, tI_mk, tL_mk, tR_mk, tN_mk, tZ_mk, tC_mk, tc_mk, tz_mk, tI_pushL, tL_pushL, tR_pushL, tN_pushL, tZ_pushL, tC_pushL, tc_pushL, tz_pushL, tI_pushB, tL_pushB, tR_pushB, tN_pushB, tZ_pushB, tC_pushB, tc_pushB, tz_pushB, tI_cpL, tL_cpL, tR_cpL, tN_cpL, tZ_cpL, tC_cpL, tc_cpL, tz_cpL, eq_self, true_and, and_true, false_and, and_false, if_true, if_false, reduceIte, ite_true, ite_false, not_true_eq_false, not_false_eq_true, s1.1, nM, s2.2.1, s3.2.2, gz_b hw]
