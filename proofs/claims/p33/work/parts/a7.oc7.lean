/-! ===== a RECORD is forged (class alone) ===== -/
set_option maxHeartbeats 4000000 in
theorem oc_forge {a b : TS} {C sh p n : Nat} (h : Core a b C) (hC : C + 1 ≤ 512) (hsh : sh < tZ a 27 0) (hp : p < tZ a 29 0) (hn : n ≤ 999) :
    ∃ a' b', (∀ z, Ex 102 [aR (some (96, 0)), aI (Int32.ofNat sh), aI (Int32.ofNat p), aI (Int32.ofNat n)] (enc 1 a z) = some (.inl (some (aI (tI b 87 0 (10 * p + 5)))), enc 1 a' z)) ∧ Core a' b' (C + 1) ∧ Wr a a' ∧ EvF a b a' b' := by
  have hR := h.1.1
  have hF := r_FC hR
  have h4 := (r_S hR).1
  obtain ⟨P1, P2, P3, P4, P5, P6, P7⟩ := r_P' hR
  have x0 := x139_1 (inR_mk (k := sh) hsh (by omega))
  have x1 := x139_1 (inR_mk (k := p) hp (by omega))
  have x2 := x139_1 (inR_of (n := n) (lo := 0) (hi := 999) (Nat.zero_le _) hn (by omega))
  have o0 : Int32.ofNat 0 = 0 := rfl
  have o999 : Int32.ofNat 999 = 999 := rfl
  rw [o0, o999] at x2
  obtain ⟨t1, t2, t3⟩ := paym_at hR hp
  obtain ⟨r1, r2, r3⟩ := shop_at hR hsh
  obtain ⟨-, u0, ⟨cd, c1, c2, c3⟩, -, ⟨u3, -⟩, ⟨u4, -⟩, -⟩ := P5 p hp
  obtain ⟨s5, s7, s8, s9, s10, -⟩ := (r_Q hR).1 p hp
  obtain ⟨d1, d2, d3⟩ := card_at hR c1
  have d0 : tI a 37 cd 0 = Int32.ofNat cd := ((r_C hR).2.2.2.2 cd c1).2.1
  obtain ⟨S1, S2, ⟨S3, S4, S5', S6, S7, S8⟩, S9, S10⟩ := r_S hR
  obtain ⟨T1, T2, T3, T4, T5, T6, T7, T8, T9, T10, T11⟩ := S10 sh hsh
  have f49 := fun z => x49 (a := a) (z := z) (p := p) (cd := cd) t2 c2 d2
  rw [u0, u3, u4, s5, s9, d0] at f49
  obtain ⟨a3, b3, x, y, hc, wa, ⟨v1, v2, v3⟩, hEv⟩ := core_forge (b := b) (n := n) (bd := tI b 87 0 (10 * p + 8)) h hC hsh hp (by omega) c1 c3
  obtain ⟨ta, -, tn, -⟩ := msA_eq (s := 12) (Or.inr rfl) a 3 (Int32.ofNat p) (Int32.ofNat cd) (tI b 87 0 (10 * p + 4)) (tI b 87 0 (10 * p + 3)) (tI b 87 0 (10 * p + 5))
  unfold frgA at x
  generalize msA 12 a 3 (Int32.ofNat p) (Int32.ofNat cd) (tI b 87 0 (10 * p + 4)) (tI b 87 0 (10 * p + 3)) (tI b 87 0 (10 * p + 5)) = M at *
  have l12 : tN a 12 < tN M 12 := by rw [tn, if_pos rfl]; omega
  have hFM : 0 < tN M 96 := by rw [tn, if_neg (by decide)]; exact fcN_96 hF
  have m3 : tR M 96 0 3 = some (27, 0) := by rw [dR ta (S := [96]) (P := []) (s := 96) (by decide) (by simp)]; exact fcR_96_3 hF
  have m27 : 0 < tN M 27 := by rw [tn, if_neg (by decide)]; exact fcN_27 hF
  have mz : sh < tZ M 27 0 := by rw [dZ ta (S := [27]) (P := []) (s := 27) (by decide) (by simp)]; exact hsh
  have mr : tR M 27 0 sh = some (36, sh) := by rw [dR ta (S := [27]) (P := []) (s := 27) (by decide) (by simp)]; exact r1
  have m36 : sh < tN M 36 := by rw [tn, if_neg (by decide)]; exact r2
  have m4 : tR M 36 sh 4 = some (21, sh) := by rw [dR ta (S := [36]) (P := []) (s := 36) (by decide) (by simp)]; exact T6
  have g1 : (Int32.ofNat p).toNatClampNeg = p := o_ix (by omega)
  have g2 : ¬ Int32.ofNat p < 0 := o_lt0 (by omega)
  have g3 : (Int32.ofNat sh).toNatClampNeg = sh := o_ix (by omega)
  have g4 : ¬ Int32.ofNat sh < 0 := o_lt0 (by omega)
  have i12 : isM 12 := ⟨by decide +kernel, by decide +kernel⟩
  have f103 : ∀ z, Ex 103 [aR (some (96, 0)), aI (Int32.ofNat sh), aI (Int32.ofNat p), aI (Int32.ofNat n)] (enc 1 a z) = some (.inl (some (aI 0)), enc 1 a z) := fun z => by
    refine (X_in (by decide +kernel) (fcN_96 hF) rfl).trans ((lf_103_0 ..).trans ?_)
    simp (config := {decide := true}) only [gfI_enc, gfL_enc, gfR_enc, pfI_enc, pfL_enc, pfR_enc, Option.bind_some, cI_v, cL_v, cF_v, cD_v, cR_v, cV_v, cI_x, cL_x, cR_x, cV_x, gz_0, gz_1, acc_enc, tI_sI, tL_sI, tR_sI, tN_sI, tZ_sI, tC_sI, tc_sI, tz_sI, tI_sL, tL_sL, tR_sL, tN_sL, tZ_sL, tC_sL, tc_sL, tz_sL, tI_sR, tL_sR, tR_sR, tN_sR, tZ_sR, tC_sR, tc_sR, tz_sR, tI_sZ, tL_sZ, tR_sZ, tN_sZ, tZ_sZ, tC_sZ, tc_sZ, tz_sZ, tI_sC, tL_sC, tR_sC, tN_sC, tZ_sC, tC_sC, tc_sC, tz_sC, tI_aC, tL_aC, tR_aC, tN_aC, tZ_aC, tC_aC, tc_aC, tz_aC, tI_rmL, tL_rmL, tR_rmL, tN_rmL, tZ_rmL, tC_rmL, tc_rmL, tz_rmL, tI_mk, tL_mk, tR_mk, tN_mk, tZ_mk, tC_mk, tc_mk, tz_mk, tI_pushL, tL_pushL, tR_pushL, tN_pushL, tZ_pushL, tC_pushL, tc_pushL, tz_pushL, tI_pushB, tL_pushB, tR_pushB, tN_pushB, tZ_pushB, tC_pushB, tc_pushB, tz_pushB, tI_cpL, tL_cpL, tR_cpL, tN_cpL, tZ_cpL, tC_cpL, tc_cpL, tz_cpL, eq_self, true_and, and_true, false_and, and_false, if_true, if_false, reduceIte, ite_true, ite_false, not_true_eq_false, not_false_eq_true, fcN_96 hF, fcR_96_3 hF, fcR_96_5 hF, X405, fcN_27 hF, fcN_29 hF, x0, x1, x2]
  refine ⟨sI a3 96 0 11 1, b3, fun z => ?_, hc, wa, hEv⟩
  refine (X_in (by decide +kernel) (fcN_96 hF) rfl).trans ((lf_102_0 ..).trans ?_)
  simp (config := {decide := true}) only [gfI_enc, gfL_enc, gfR_enc, pfI_enc, pfL_enc, pfR_enc, Option.bind_some, cI_v, cL_v, cF_v, cD_v, cR_v, cV_v, cI_x, cL_x, cR_x, cV_x, gz_0, gz_1, acc_enc, tI_sI, tL_sI, tR_sI, tN_sI, tZ_sI, tC_sI, tc_sI, tz_sI, tI_sL, tL_sL, tR_sL, tN_sL, tZ_sL, tC_sL, tc_sL, tz_sL, tI_sR, tL_sR, tR_sR, tN_sR, tZ_sR, tC_sR, tc_sR, tz_sR, tI_sZ, tL_sZ, tR_sZ, tN_sZ, tZ_sZ, tC_sZ, tc_sZ, tz_sZ, tI_sC, tL_sC, tR_sC, tN_sC, tZ_sC, tC_sC, tc_sC, tz_sC, tI_aC, tL_aC, tR_aC, tN_aC, tZ_aC, tC_aC, tc_aC, tz_aC, tI_rmL, tL_rmL, tR_rmL, tN_rmL, tZ_rmL, tC_rmL, tc_rmL, tz_rmL, tI_mk, tL_mk, tR_mk, tN_mk, tZ_mk, tC_mk, tc_mk, tz_mk, tI_pushL, tL_pushL, tR_pushL, tN_pushL, tZ_pushL, tC_pushL, tc_pushL, tz_pushL, tI_pushB, tL_pushB, tR_pushB, tN_pushB, tZ_pushB, tC_pushB, tc_pushB, tz_pushB, tI_cpL, tL_cpL, tR_cpL, tN_cpL, tZ_cpL, tC_cpL, tc_cpL, tz_cpL, eq_self, true_and, and_true, false_and, and_false, if_true, if_false, reduceIte, ite_true, ite_false, not_true_eq_false, not_false_eq_true, f103, x142_0, fcN_96 hF, fcR_96_5 hF, X402, fcN_29 hF, g1, g2, hp, t1, t2, f49, l12, pm i12, hFM, m3, m27, g3, g4, mz, mr, m36, m4, x, v1, v2, v3]
/-- without payments nothing is forged, nothing disputed -/
theorem oc_forge0 {a b : TS} {C sh : Nat} (h : Core a b C) (hsh : sh < tZ a 27 0) (hz : tZ a 29 0 = 0) (z : Hp) : Ex 102 [aR (some (96, 0)), aI (Int32.ofNat sh), aI 0, aI 0] (enc 1 a z) = some (.inr (exN 1), enc 1 (aC a 1 6) z) := by
  have hR := h.1.1
  have hF := r_FC hR
  have h4 := (r_S hR).1
  have x0 := x139_1 (inR_mk (k := sh) hsh (by omega))
  have e1 : ¬ inR (0 : Int32) 0 (Int32.ofNat (tZ a 29 0) - 1) := by rw [hz]; exact fun q => q.2 (by decide)
  have x1 := x139_0 e1
  have f103 : ∀ z, Ex 103 [aR (some (96, 0)), aI (Int32.ofNat sh), aI 0, aI 0] (enc 1 a z) = some (.inl (some (aI (Int32.ofNat 1))), enc 1 a z) := fun z => by
    refine (X_in (by decide +kernel) (fcN_96 hF) rfl).trans ((lf_103_0 ..).trans ?_)
    simp (config := {decide := true}) only [gfI_enc, gfL_enc, gfR_enc, pfI_enc, pfL_enc, pfR_enc, Option.bind_some, cI_v, cL_v, cF_v, cD_v, cR_v, cV_v, cI_x, cL_x, cR_x, cV_x, gz_0, gz_1, acc_enc, tI_sI, tL_sI, tR_sI, tN_sI, tZ_sI, tC_sI, tc_sI, tz_sI, tI_sL, tL_sL, tR_sL, tN_sL, tZ_sL, tC_sL, tc_sL, tz_sL, tI_sR, tL_sR, tR_sR, tN_sR, tZ_sR, tC_sR, tc_sR, tz_sR, tI_sZ, tL_sZ, tR_sZ, tN_sZ, tZ_sZ, tC_sZ, tc_sZ, tz_sZ, tI_sC, tL_sC, tR_sC, tN_sC, tZ_sC, tC_sC, tc_sC, tz_sC, tI_aC, tL_aC, tR_aC, tN_aC, tZ_aC, tC_aC, tc_aC, tz_aC, tI_rmL, tL_rmL, tR_rmL, tN_rmL, tZ_rmL, tC_rmL, tc_rmL, tz_rmL, tI_mk, tL_mk, tR_mk, tN_mk, tZ_mk, tC_mk, tc_mk, tz_mk, tI_pushL, tL_pushL, tR_pushL, tN_pushL, tZ_pushL, tC_pushL, tc_pushL, tz_pushL, tI_pushB, tL_pushB, tR_pushB, tN_pushB, tZ_pushB, tC_pushB, tc_pushB, tz_pushB, tI_cpL, tL_cpL, tR_cpL, tN_cpL, tZ_cpL, tC_cpL, tc_cpL, tz_cpL, eq_self, true_and, and_true, false_and, and_false, if_true, if_false, reduceIte, ite_true, ite_false, not_true_eq_false, not_false_eq_true, fcN_96 hF, fcR_96_3 hF, fcR_96_5 hF, X405, fcN_27 hF, fcN_29 hF, x0, x1]
    rfl
  refine (X_in (by decide +kernel) (fcN_96 hF) rfl).trans ((lf_102_0 ..).trans ?_)
  rw [f103, cI_v, x142_r (by omega) (by omega)]
  rfl
theorem oc_dispute0 {a b : TS} {C : Nat} (h : Core a b C) (hz : tZ a 29 0 = 0) (z : Hp) : Ex 120 [aR (some (96, 0)), aI 0] (enc 1 a z) = some (.inr (exN 1), enc 1 (aC a 1 6) z) := by
  have hR := h.1.1
  have hF := r_FC hR
  have e1 : ¬ inR (0 : Int32) 0 (Int32.ofNat (tZ a 29 0) - 1) := by rw [hz]; exact fun q => q.2 (by decide)
  have x1 := x139_0 e1
  have f121 : ∀ z, Ex 121 [aR (some (96, 0)), aI 0] (enc 1 a z) = some (.inl (some (aI (Int32.ofNat 1))), enc 1 a z) := fun z => by
    refine (X_in (by decide +kernel) (fcN_96 hF) rfl).trans ((lf_121_0 ..).trans ?_)
    simp (config := {decide := true}) only [gfI_enc, gfL_enc, gfR_enc, pfI_enc, pfL_enc, pfR_enc, Option.bind_some, cI_v, cL_v, cF_v, cD_v, cR_v, cV_v, cI_x, cL_x, cR_x, cV_x, gz_0, gz_1, acc_enc, tI_sI, tL_sI, tR_sI, tN_sI, tZ_sI, tC_sI, tc_sI, tz_sI, tI_sL, tL_sL, tR_sL, tN_sL, tZ_sL, tC_sL, tc_sL, tz_sL, tI_sR, tL_sR, tR_sR, tN_sR, tZ_sR, tC_sR, tc_sR, tz_sR, tI_sZ, tL_sZ, tR_sZ, tN_sZ, tZ_sZ, tC_sZ, tc_sZ, tz_sZ, tI_sC, tL_sC, tR_sC, tN_sC, tZ_sC, tC_sC, tc_sC, tz_sC, tI_aC, tL_aC, tR_aC, tN_aC, tZ_aC, tC_aC, tc_aC, tz_aC, tI_rmL, tL_rmL, tR_rmL, tN_rmL, tZ_rmL, tC_rmL, tc_rmL, tz_rmL, tI_mk, tL_mk, tR_mk, tN_mk, tZ_mk, tC_mk, tc_mk, tz_mk, tI_pushL, tL_pushL, tR_pushL, tN_pushL, tZ_pushL, tC_pushL, tc_pushL, tz_pushL, tI_pushB, tL_pushB, tR_pushB, tN_pushB, tZ_pushB, tC_pushB, tc_pushB, tz_pushB, tI_cpL, tL_cpL, tR_cpL, tN_cpL, tZ_cpL, tC_cpL, tc_cpL, tz_cpL, eq_self, true_and, and_true, false_and, and_false, if_true, if_false, reduceIte, ite_true, ite_false, not_true_eq_false, not_false_eq_true, fcN_96 hF, fcR_96_5 hF, X405, fcN_29 hF, x1]
    rfl
  refine (X_in (by decide +kernel) (fcN_96 hF) rfl).trans ((lf_120_0 ..).trans ?_)
  rw [f121, cI_v, x142_r (by omega) (by omega)]
  rfl
