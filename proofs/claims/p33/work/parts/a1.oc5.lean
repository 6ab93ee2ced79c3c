/-! ===== BACK MONEY is sent (class alone) ===== -/
set_option maxHeartbeats 4000000 in
theorem oc_back {a b : TS} {C sh p : Nat} {p2 : Int32} (h : Core a b C) (hsh : sh < tZ a 27 0) (hp : p < tZ a 29 0) (G2 : inR p2 1 100000) :
    (tI b 87 0 (10 * p + 2) ≠ Int32.ofNat sh ∧ ∀ z, Ex 99 [aR (some (96, 0)), aI (Int32.ofNat sh), aI (Int32.ofNat p), aI p2] (enc 1 a z) = some (.inr (exN 2), enc 1 (aC a 1 6) z)) ∨
    (tI b 87 0 (10 * p + 2) = Int32.ofNat sh ∧ ∀ z, Ex 99 [aR (some (96, 0)), aI (Int32.ofNat sh), aI (Int32.ofNat p), aI p2] (enc 1 a z) = some (.inr (exN 3), enc 1 (aC a 1 6) z)) ∨
    (tI b 87 0 (10 * p + 2) = Int32.ofNat sh ∧ ∃ m a' b', m < 100 ∧ (∀ z, Ex 99 [aR (some (96, 0)), aI (Int32.ofNat sh), aI (Int32.ofNat p), aI p2] (enc 1 a z) = some (.inl (some (aI (Int32.ofNat m))), enc 1 a' z)) ∧ Core a' b' C ∧ Wr a a' ∧ EvB a b a' b') := by
  have hR := h.1.1
  have hF := r_FC hR
  obtain ⟨S1, S2, ⟨S3, S4, S5', S6, S7, S8⟩, S9, S10⟩ := r_S hR
  obtain ⟨P1, P2, P3, P4, P5, P6, P7⟩ := r_P' hR
  have x0 := x139_1 (inR_mk (k := sh) hsh (by omega))
  obtain ⟨r1, r2, r3⟩ := shop_at hR hsh
  have x1 := x139_1 (inR_mk (k := p) hp (by omega))
  obtain ⟨t1, t2, t3⟩ := paym_at hR hp
  obtain ⟨-, -, -, ⟨s', v1, v2, v3⟩, -⟩ := P5 p hp
  have u2 : tI a 36 s' 0 = Int32.ofNat s' := (S10 s' v1).2.1
  have u3 : s' < tN a 36 := by omega
  have g1 : (Int32.ofNat sh).toNatClampNeg = sh := o_ix (by omega)
  have g2 : ¬ Int32.ofNat sh < 0 := o_lt0 (by omega)
  have g3 : (Int32.ofNat p).toNatClampNeg = p := o_ix (by omega)
  have g4 : ¬ Int32.ofNat p < 0 := o_lt0 (by omega)
  have l99 : ∀ z, Ex 99 [aR (some (96, 0)), aI (Int32.ofNat sh), aI (Int32.ofNat p), aI p2] (enc 1 a z) = cI (Ex 100 [aR (some (96, 0)), aI (Int32.ofNat sh), aI (Int32.ofNat p), aI p2] (enc 1 a z)) (fun x h1 => cV (Ex 142 [aI x] h1) (fun h3 => cI (Ex 101 [aR (some (96, 0)), aI (Int32.ofNat sh), aI (Int32.ofNat p), aI p2] h3) (fun x5 h4 => some (.inl (some (aI x5)), h4)) xT) xT) xT := fun z => by
    refine (X_in (by decide +kernel) (fcN_96 hF) rfl).trans ((lf_99_0 ..).trans ?_)
    rfl
  have x2 := x139_1 G2
  have k1 : ¬ p2 < 1 := G2.1
  have hv0 : ¬ p2 < 0 := fun q => k1 (Int32.lt_trans q (by decide))
  by_cases es : Int32.ofNat s' = Int32.ofNat sh
  · have G1 : s' = sh := o_inj (by omega) (by omega) es
    subst G1
    have eqs : (Int32.ofNat s' = Int32.ofNat s') = True := eq_true rfl
    obtain ⟨⟨m, hm, w1, w2⟩, -⟩ := (r_M hR).1 s' hsh
    have o100 : (100 : Int32) = Int32.ofNat 100 := rfl
    by_cases hm1 : m < 100
    · have c1 : Int32.ofNat m < 100 := by rw [o100, o_lt (by omega) (by omega)]; exact hm1
      obtain ⟨a', b', x, y, hc, wa, wb, sa, sb, ⟨ra1, ra2⟩, ⟨rb1, rb2⟩, rb3⟩ := core_back h hsh hp v3 hm1 w1 hv0
      have hnF : nF 6 = 15 := rfl
      have l39 : tN a 39 < tN a 39 + 1 := Nat.lt_succ_self _
      have i39 : isM 39 := ⟨by decide +kernel, by decide +kernel⟩
      have f40 := fun z => x40 (a := mk a 39 0 0 15) (z := z) (s := 39) (i := tN a 39) 4 (Int32.ofNat p) i39 (by rw [tN_mk, if_pos rfl]; omega)
      unfold bnA bmA at x
      refine Or.inr (Or.inr ⟨v3, m, a', b', hm1, fun z => pub_go l99 (fun z => ?_) (fun z => ?_) z, hc, wa, rb3⟩)
      · refine (X_in (by decide +kernel) (fcN_96 hF) rfl).trans ((lf_100_0 ..).trans ?_)
        simp (config := {decide := true}) only [gfI_enc, gfL_enc, gfR_enc, pfI_enc, pfL_enc, pfR_enc, Option.bind_some, cI_v, cL_v, cF_v, cD_v, cR_v, cV_v, cI_x, cL_x, cR_x, cV_x, gz_0, gz_1, acc_enc, tI_sI, tL_sI, tR_sI, tN_sI, tZ_sI, tC_sI, tc_sI, tz_sI, tI_sL, tL_sL, tR_sL, tN_sL, tZ_sL, tC_sL, tc_sL, tz_sL, tI_sR, tL_sR, tR_sR, tN_sR, tZ_sR, tC_sR, tc_sR, tz_sR, tI_sZ, tL_sZ, tR_sZ, tN_sZ, tZ_sZ, tC_sZ, tc_sZ, tz_sZ, tI_sC, tL_sC, tR_sC, tN_sC, tZ_sC, tC_sC, tc_sC, tz_sC, tI_aC, tL_aC, tR_aC, tN_aC, tZ_aC, tC_aC, tc_aC, tz_aC, tI_rmL, tL_rmL, tR_rmL, tN_rmL, tZ_rmL, tC_rmL, tc_rmL, tz_rmL, tI_mk, tL_mk, tR_mk, tN_mk, tZ_mk, tC_mk, tc_mk, tz_mk, tI_pushL, tL_pushL, tR_pushL, tN_pushL, tZ_pushL, tC_pushL, tc_pushL, tz_pushL, tI_pushB, tL_pushB, tR_pushB, tN_pushB, tZ_pushB, tC_pushB, tc_pushB, tz_pushB, tI_cpL, tL_cpL, tR_cpL, tN_cpL, tZ_cpL, tC_cpL, tc_cpL, tz_cpL, eq_self, true_and, and_true, false_and, and_false, if_true, if_false, reduceIte, ite_true, ite_false, not_true_eq_false, not_false_eq_true, fcN_96 hF, fcR_96_3 hF, fcR_96_5 hF, X405, X402, fcN_27 hF, fcN_29 hF, x0, x1, g1, g2, g3, g4, hsh, hp, t1, acc_enc, t2, v2, u3, u2, eqs, x2, r1, r2, w2, c1]
      · refine (X_in (by decide +kernel) (fcN_96 hF) rfl).trans ((lf_101_0 ..).trans ?_)
        simp (config := {decide := true}) only [gfI_enc, gfL_enc, gfR_enc, pfI_enc, pfL_enc, pfR_enc, Option.bind_some, cI_v, cL_v, cF_v, cD_v, cR_v, cV_v, cI_x, cL_x, cR_x, cV_x, gz_0, gz_1, acc_enc, tI_sI, tL_sI, tR_sI, tN_sI, tZ_sI, tC_sI, tc_sI, tz_sI, tI_sL, tL_sL, tR_sL, tN_sL, tZ_sL, tC_sL, tc_sL, tz_sL, tI_sR, tL_sR, tR_sR, tN_sR, tZ_sR, tC_sR, tc_sR, tz_sR, tI_sZ, tL_sZ, tR_sZ, tN_sZ, tZ_sZ, tC_sZ, tc_sZ, tz_sZ, tI_sC, tL_sC, tR_sC, tN_sC, tZ_sC, tC_sC, tc_sC, tz_sC, tI_aC, tL_aC, tR_aC, tN_aC, tZ_aC, tC_aC, tc_aC, tz_aC, tI_rmL, tL_rmL, tR_rmL, tN_rmL, tZ_rmL, tC_rmL, tc_rmL, tz_rmL, tI_mk, tL_mk, tR_mk, tN_mk, tZ_mk, tC_mk, tc_mk, tz_mk, tI_pushL, tL_pushL, tR_pushL, tN_pushL, tZ_pushL, tC_pushL, tc_pushL, tz_pushL, tI_pushB, tL_pushB, tR_pushB, tN_pushB, tZ_pushB, tC_pushB, tc_pushB, tz_pushB, tI_cpL, tL_cpL, tR_cpL, tN_cpL, tZ_cpL, tC_cpL, tc_cpL, tz_cpL, eq_self, true_and, and_true, false_and, and_false, if_true, if_false, reduceIte, ite_true, ite_false, not_true_eq_false, not_false_eq_true, fcN_96 hF, fcR_96_3 hF, X402, fcN_27 hF, g1, g2, hsh, r1, acc_enc, r2]
        rw [nob_enc (by decide +kernel), hnF]
        dsimp only
        simp (config := {decide := true}) only [gfI_enc, gfL_enc, gfR_enc, pfI_enc, pfL_enc, pfR_enc, Option.bind_some, cI_v, cL_v, cF_v, cD_v, cR_v, cV_v, cI_x, cL_x, cR_x, cV_x, gz_0, gz_1, acc_enc, tI_sI, tL_sI, tR_sI, tN_sI, tZ_sI, tC_sI, tc_sI, tz_sI, tI_sL, tL_sL, tR_sL, tN_sL, tZ_sL, tC_sL, tc_sL, tz_sL, tI_sR, tL_sR, tR_sR, tN_sR, tZ_sR, tC_sR, tc_sR, tz_sR, tI_sZ, tL_sZ, tR_sZ, tN_sZ, tZ_sZ, tC_sZ, tc_sZ, tz_sZ, tI_sC, tL_sC, tR_sC, tN_sC, tZ_sC, tC_sC, tc_sC, tz_sC, tI_aC, tL_aC, tR_aC, tN_aC, tZ_aC, tC_aC, tc_aC, tz_aC, tI_rmL, tL_rmL, tR_rmL, tN_rmL, tZ_rmL, tC_rmL, tc_rmL, tz_rmL, tI_mk, tL_mk, tR_mk, tN_mk, tZ_mk, tC_mk, tc_mk, tz_mk, tI_pushL, tL_pushL, tR_pushL, tN_pushL, tZ_pushL, tC_pushL, tc_pushL, tz_pushL, tI_pushB, tL_pushB, tR_pushB, tN_pushB, tZ_pushB, tC_pushB, tc_pushB, tz_pushB, tI_cpL, tL_cpL, tR_cpL, tN_cpL, tZ_cpL, tC_cpL, tc_cpL, tz_cpL, eq_self, true_and, and_true, false_and, and_false, if_true, if_false, reduceIte, ite_true, ite_false, not_true_eq_false, not_false_eq_true, f40, pm i39, l39, r2, w2, o_s, x, gm i39 ra2, ra1]
    · have c1 : ¬ Int32.ofNat m < 100 := by rw [o100, o_lt (by omega) (by omega)]; exact hm1
      refine Or.inr (Or.inl ⟨v3, fun z => pub_no (r := 3) (by omega) (by omega) l99 (fun z => ?_) z⟩)
      refine (X_in (by decide +kernel) (fcN_96 hF) rfl).trans ((lf_100_0 ..).trans ?_)
      simp (config := {decide := true}) only [gfI_enc, gfL_enc, gfR_enc, pfI_enc, pfL_enc, pfR_enc, Option.bind_some, cI_v, cL_v, cF_v, cD_v, cR_v, cV_v, cI_x, cL_x, cR_x, cV_x, gz_0, gz_1, acc_enc, tI_sI, tL_sI, tR_sI, tN_sI, tZ_sI, tC_sI, tc_sI, tz_sI, tI_sL, tL_sL, tR_sL, tN_sL, tZ_sL, tC_sL, tc_sL, tz_sL, tI_sR, tL_sR, tR_sR, tN_sR, tZ_sR, tC_sR, tc_sR, tz_sR, tI_sZ, tL_sZ, tR_sZ, tN_sZ, tZ_sZ, tC_sZ, tc_sZ, tz_sZ, tI_sC, tL_sC, tR_sC, tN_sC, tZ_sC, tC_sC, tc_sC, tz_sC, tI_aC, tL_aC, tR_aC, tN_aC, tZ_aC, tC_aC, tc_aC, tz_aC, tI_rmL, tL_rmL, tR_rmL, tN_rmL, tZ_rmL, tC_rmL, tc_rmL, tz_rmL, tI_mk, tL_mk, tR_mk, tN_mk, tZ_mk, tC_mk, tc_mk, tz_mk, tI_pushL, tL_pushL, tR_pushL, tN_pushL, tZ_pushL, tC_pushL, tc_pushL, tz_pushL, tI_pushB, tL_pushB, tR_pushB, tN_pushB, tZ_pushB, tC_pushB, tc_pushB, tz_pushB, tI_cpL, tL_cpL, tR_cpL, tN_cpL, tZ_cpL, tC_cpL, tc_cpL, tz_cpL, eq_self, true_and, and_true, false_and, and_false, if_true, if_false, reduceIte, ite_true, ite_false, not_true_eq_false, not_false_eq_true, fcN_96 hF, fcR_96_3 hF, fcR_96_5 hF, X405, X402, fcN_27 hF, fcN_29 hF, x0, x1, g1, g2, g3, g4, hsh, hp, t1, acc_enc, t2, v2, u3, u2, eqs, x2, r1, r2, w2, c1]
      rfl
  · refine Or.inl ⟨by rw [v3]; exact es, fun z => pub_no (r := 2) (by omega) (by omega) l99 (fun z => ?_) z⟩
    refine (X_in (by decide +kernel) (fcN_96 hF) rfl).trans ((lf_100_0 ..).trans ?_)
    simp (config := {decide := true}) only [gfI_enc, gfL_enc, gfR_enc, pfI_enc, pfL_enc, pfR_enc, Option.bind_some, cI_v, cL_v, cF_v, cD_v, cR_v, cV_v, cI_x, cL_x, cR_x, cV_x, gz_0, gz_1, acc_enc, tI_sI, tL_sI, tR_sI, tN_sI, tZ_sI, tC_sI, tc_sI, tz_sI, tI_sL, tL_sL, tR_sL, tN_sL, tZ_sL, tC_sL, tc_sL, tz_sL, tI_sR, tL_sR, tR_sR, tN_sR, tZ_sR, tC_sR, tc_sR, tz_sR, tI_sZ, tL_sZ, tR_sZ, tN_sZ, tZ_sZ, tC_sZ, tc_sZ, tz_sZ, tI_sC, tL_sC, tR_sC, tN_sC, tZ_sC, tC_sC, tc_sC, tz_sC, tI_aC, tL_aC, tR_aC, tN_aC, tZ_aC, tC_aC, tc_aC, tz_aC, tI_rmL, tL_rmL, tR_rmL, tN_rmL, tZ_rmL, tC_rmL, tc_rmL, tz_rmL, tI_mk, tL_mk, tR_mk, tN_mk, tZ_mk, tC_mk, tc_mk, tz_mk, tI_pushL, tL_pushL, tR_pushL, tN_pushL, tZ_pushL, tC_pushL, tc_pushL, tz_pushL, tI_pushB, tL_pushB, tR_pushB, tN_pushB, tZ_pushB, tC_pushB, tc_pushB, tz_pushB, tI_cpL, tL_cpL, tR_cpL, tN_cpL, tZ_cpL, tC_cpL, tc_cpL, tz_cpL, eq_self, true_and, and_true, false_and, and_false, if_true, if_false, reduceIte, ite_true, ite_false, not_true_eq_false, not_false_eq_true, fcN_96 hF, fcR_96_3 hF, fcR_96_5 hF, X405, X402, fcN_27 hF, fcN_29 hF, x0, x1, g3, g4, hp, t1, acc_enc, t2, v2, u3, u2, es, x2]
    rfl
