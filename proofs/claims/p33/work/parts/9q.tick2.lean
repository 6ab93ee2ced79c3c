/-! ===== a tick ===== -/
def vT (v1 v2 v3 : Int32) : LV := [(0, aR (some (96, 0))), (1, aI v1), (2, aI v2), (3, aI v3)]
theorem Rm0_lo {a b : TS} {C T : Nat} {lo lo' : Nat → Nat} (h : Rm0 a b C T lo) (e : ∀ s, s < tZ a 27 0 → lo' s = lo s) : Rm0 a b C T lo' := by
  obtain ⟨m1, m2, m3, m4, m5, m6, m7⟩ := h
  exact ⟨m1, m2, m3, m4, m5, m6, fun s hs => by rw [e s hs]; exact m7 s hs⟩
/-- the shops' list, as a class's loop reads it -/
theorem shop_at {a b : TS} (hR : R0 a b) {s : Nat} (hs : s < tZ a 27 0) : tR a 27 0 s = some (36, s) ∧ s < tN a 36 ∧ tZ a 27 0 ≤ 4 := by
  obtain ⟨S1, S2, ⟨S3, S4, S5', S6, S7, S8⟩, S9, S10⟩ := r_S hR
  exact ⟨(S10 s hs).1, by omega, S1⟩
theorem x106_22 {a a1 a2 b b1 : TS} {z : Hp} {s : Nat} (v1 v2 : Int32) (hR : R0 a b) (hR1 : R0 a1 b1) (hs : s < tZ a 27 0) (hz1 : tZ a1 27 0 = tZ a 27 0) (f107 : ∀ z, Ex 107 [aR (some (96, 0)), aR (some (36, s))] (enc 1 a z) = some (.inl none, enc 1 a1 z)) (f71 : ∀ z, Ex 71 [aR (some (36, s))] (enc 1 a1 z) = some (.inl none, enc 1 a2 z)) :
    Ru 106 22 (vT v1 v2 (Int32.ofNat s)) [] (enc 1 a z) = Ru 106 22 (vT v1 v2 (Int32.ofNat (s + 1))) [] (enc 1 a2 z) := by
  have hF := r_FC hR
  have hF1 := r_FC hR1
  obtain ⟨r1, r2, r3⟩ := shop_at hR hs
  obtain ⟨r1', r2', -⟩ := shop_at hR1 (s := s) (by omega)
  have g1 : (Int32.ofNat s).toNatClampNeg = s := o_ix (by omega)
  have g2 : ¬ Int32.ofNat s < 0 := o_lt0 (by omega)
  have g3 : ¬ Int32.ofNat (tZ a 27 0) ≤ Int32.ofNat s := by rw [o_le (by omega) (by omega)]; omega
  unfold vT
  rw [lf_106_22]
  simp (config := {decide := true}) only [gfI_enc, gfL_enc, gfR_enc, pfI_enc, pfL_enc, pfR_enc, Option.bind_some, cI_v, cL_v, cF_v, cD_v, cR_v, cV_v, cI_x, cL_x, cR_x, cV_x, gz_0, gz_1, acc_enc, tI_sI, tL_sI, tR_sI, tN_sI, tZ_sI, tC_sI, tc_sI, tz_sI, tI_sL, tL_sL, tR_sL, tN_sL, tZ_sL, tC_sL, tc_sL, tz_sL, tI_sR, tL_sR, tR_sR, tN_sR, tZ_sR, tC_sR, tc_sR, tz_sR, tI_sZ, tL_sZ, tR_sZ, tN_sZ, tZ_sZ, tC_sZ, tc_sZ, tz_sZ, tI_sC, tL_sC, tR_sC, tN_sC, tZ_sC, tC_sC, tc_sC, tz_sC, tI_aC, tL_aC, tR_aC, tN_aC, tZ_aC, tC_aC, tc_aC, tz_aC, tI_rmL, tL_rmL, tR_rmL, tN_rmL, tZ_rmL, tC_rmL, tc_rmL, tz_rmL, tI_mk, tL_mk, tR_mk, tN_mk, tZ_mk, tC_mk, tc_mk, tz_mk, tI_pushL, tL_pushL, tR_pushL, tN_pushL, tZ_pushL, tC_pushL, tc_pushL, tz_pushL, tI_pushB, tL_pushB, tR_pushB, tN_pushB, tZ_pushB, tC_pushB, tc_pushB, tz_pushB, tI_cpL, tL_cpL, tR_cpL, tN_cpL, tZ_cpL, tC_cpL, tc_cpL, tz_cpL, eq_self, true_and, and_true, false_and, and_false, if_true, if_false, reduceIte, ite_true, ite_false, not_true_eq_false, not_false_eq_true, fcN_96 hF, fcR_96_3 hF, X405, X402, fcN_27 hF, g1, g2, g3, hs, r1, acc_enc, r2, f107, fcN_96 hF1, fcR_96_3 hF1, fcN_27 hF1, hz1, r1', r2', f71, o_s]
theorem x106_22e {a b : TS} {z : Hp} (v1 v2 : Int32) (hR : R0 a b) : Ru 106 22 (vT v1 v2 (Int32.ofNat (tZ a 27 0))) [] (enc 1 a z) = Ru 106 70 (vT v1 v2 0) [] (enc 1 a z) := by
  have hF := r_FC hR
  have g3 : Int32.ofNat (tZ a 27 0) ≤ Int32.ofNat (tZ a 27 0) := Int32.le_refl _
  unfold vT
  rw [lf_106_22]
  simp (config := {decide := true}) only [gfI_enc, gfL_enc, gfR_enc, pfI_enc, pfL_enc, pfR_enc, Option.bind_some, cI_v, cL_v, cF_v, cD_v, cR_v, cV_v, cI_x, cL_x, cR_x, cV_x, gz_0, gz_1, acc_enc, tI_sI, tL_sI, tR_sI, tN_sI, tZ_sI, tC_sI, tc_sI, tz_sI, tI_sL, tL_sL, tR_sL, tN_sL, tZ_sL, tC_sL, tc_sL, tz_sL, tI_sR, tL_sR, tR_sR, tN_sR, tZ_sR, tC_sR, tc_sR, tz_sR, tI_sZ, tL_sZ, tR_sZ, tN_sZ, tZ_sZ, tC_sZ, tc_sZ, tz_sZ, tI_sC, tL_sC, tR_sC, tN_sC, tZ_sC, tC_sC, tc_sC, tz_sC, tI_aC, tL_aC, tR_aC, tN_aC, tZ_aC, tC_aC, tc_aC, tz_aC, tI_rmL, tL_rmL, tR_rmL, tN_rmL, tZ_rmL, tC_rmL, tc_rmL, tz_rmL, tI_mk, tL_mk, tR_mk, tN_mk, tZ_mk, tC_mk, tc_mk, tz_mk, tI_pushL, tL_pushL, tR_pushL, tN_pushL, tZ_pushL, tC_pushL, tc_pushL, tz_pushL, tI_pushB, tL_pushB, tR_pushB, tN_pushB, tZ_pushB, tC_pushB, tc_pushB, tz_pushB, tI_cpL, tL_cpL, tR_cpL, tN_cpL, tZ_cpL, tC_cpL, tc_cpL, tz_cpL, eq_self, true_and, and_true, false_and, and_false, if_true, if_false, reduceIte, ite_true, ite_false, not_true_eq_false, not_false_eq_true, fcN_96 hF, fcR_96_3 hF, X405, fcN_27 hF, g3]
theorem x106_70 {a a1 a2 b b1 : TS} {z : Hp} {s : Nat} (v1 v2 : Int32) (hR : R0 a b) (hR1 : R0 a1 b1) (hs : s < tZ a 27 0) (hz1 : tZ a1 27 0 = tZ a 27 0) (f74 : ∀ z, Ex 74 [aR (some (36, s))] (enc 1 a z) = some (.inl none, enc 1 a1 z)) (f75 : ∀ z, Ex 75 [aR (some (36, s))] (enc 1 a1 z) = some (.inl none, enc 1 a2 z)) :
    Ru 106 70 (vT v1 v2 (Int32.ofNat s)) [] (enc 1 a z) = Ru 106 70 (vT v1 v2 (Int32.ofNat (s + 1))) [] (enc 1 a2 z) := by
  have hF := r_FC hR
  have hF1 := r_FC hR1
  obtain ⟨r1, r2, r3⟩ := shop_at hR hs
  obtain ⟨r1', r2', -⟩ := shop_at hR1 (s := s) (by omega)
  have g1 : (Int32.ofNat s).toNatClampNeg = s := o_ix (by omega)
  have g2 : ¬ Int32.ofNat s < 0 := o_lt0 (by omega)
  have g3 : ¬ Int32.ofNat (tZ a 27 0) ≤ Int32.ofNat s := by rw [o_le (by omega) (by omega)]; omega
  unfold vT
  rw [lf_106_70]
  simp (config := {decide := true}) only [gfI_enc, gfL_enc, gfR_enc, pfI_enc, pfL_enc, pfR_enc, Option.bind_some, cI_v, cL_v, cF_v, cD_v, cR_v, cV_v, cI_x, cL_x, cR_x, cV_x, gz_0, gz_1, acc_enc, tI_sI, tL_sI, tR_sI, tN_sI, tZ_sI, tC_sI, tc_sI, tz_sI, tI_sL, tL_sL, tR_sL, tN_sL, tZ_sL, tC_sL, tc_sL, tz_sL, tI_sR, tL_sR, tR_sR, tN_sR, tZ_sR, tC_sR, tc_sR, tz_sR, tI_sZ, tL_sZ, tR_sZ, tN_sZ, tZ_sZ, tC_sZ, tc_sZ, tz_sZ, tI_sC, tL_sC, tR_sC, tN_sC, tZ_sC, tC_sC, tc_sC, tz_sC, tI_aC, tL_aC, tR_aC, tN_aC, tZ_aC, tC_aC, tc_aC, tz_aC, tI_rmL, tL_rmL, tR_rmL, tN_rmL, tZ_rmL, tC_rmL, tc_rmL, tz_rmL, tI_mk, tL_mk, tR_mk, tN_mk, tZ_mk, tC_mk, tc_mk, tz_mk, tI_pushL, tL_pushL, tR_pushL, tN_pushL, tZ_pushL, tC_pushL, tc_pushL, tz_pushL, tI_pushB, tL_pushB, tR_pushB, tN_pushB, tZ_pushB, tC_pushB, tc_pushB, tz_pushB, tI_cpL, tL_cpL, tR_cpL, tN_cpL, tZ_cpL, tC_cpL, tc_cpL, tz_cpL, eq_self, true_and, and_true, false_and, and_false, if_true, if_false, reduceIte, ite_true, ite_false, not_true_eq_false, not_false_eq_true, fcN_96 hF, fcR_96_3 hF, X405, X402, fcN_27 hF, g1, g2, g3, hs, r1, acc_enc, r2, f74, fcN_96 hF1, fcR_96_3 hF1, fcN_27 hF1, hz1, r1', r2', f75, o_s]
theorem x106_70e {a b : TS} {z : Hp} (v1 v2 : Int32) (hR : R0 a b) : Ru 106 70 (vT v1 v2 (Int32.ofNat (tZ a 27 0))) [] (enc 1 a z) = Ru 106 2 [(0, aR (some (96, 0))), (1, aI v1), (2, aI (v2 + 1))] [] (enc 1 a z) := by
  have hF := r_FC hR
  have g3 : Int32.ofNat (tZ a 27 0) ≤ Int32.ofNat (tZ a 27 0) := Int32.le_refl _
  unfold vT
  rw [lf_106_70]
  simp (config := {decide := true}) only [gfI_enc, gfL_enc, gfR_enc, pfI_enc, pfL_enc, pfR_enc, Option.bind_some, cI_v, cL_v, cF_v, cD_v, cR_v, cV_v, cI_x, cL_x, cR_x, cV_x, gz_0, gz_1, acc_enc, tI_sI, tL_sI, tR_sI, tN_sI, tZ_sI, tC_sI, tc_sI, tz_sI, tI_sL, tL_sL, tR_sL, tN_sL, tZ_sL, tC_sL, tc_sL, tz_sL, tI_sR, tL_sR, tR_sR, tN_sR, tZ_sR, tC_sR, tc_sR, tz_sR, tI_sZ, tL_sZ, tR_sZ, tN_sZ, tZ_sZ, tC_sZ, tc_sZ, tz_sZ, tI_sC, tL_sC, tR_sC, tN_sC, tZ_sC, tC_sC, tc_sC, tz_sC, tI_aC, tL_aC, tR_aC, tN_aC, tZ_aC, tC_aC, tc_aC, tz_aC, tI_rmL, tL_rmL, tR_rmL, tN_rmL, tZ_rmL, tC_rmL, tc_rmL, tz_rmL, tI_mk, tL_mk, tR_mk, tN_mk, tZ_mk, tC_mk, tc_mk, tz_mk, tI_pushL, tL_pushL, tR_pushL, tN_pushL, tZ_pushL, tC_pushL, tc_pushL, tz_pushL, tI_pushB, tL_pushB, tR_pushB, tN_pushB, tZ_pushB, tC_pushB, tc_pushB, tz_pushB, tI_cpL, tL_cpL, tR_cpL, tN_cpL, tZ_cpL, tC_cpL, tc_cpL, tz_cpL, eq_self, true_and, and_true, false_and, and_false, if_true, if_false, reduceIte, ite_true, ite_false, not_true_eq_false, not_false_eq_true, fcN_96 hF, fcR_96_3 hF, X405, fcN_27 hF, g3]
theorem hear_all {C T : Nat} : ∀ k s a b, s + k = tZ a 27 0 → Al a b → Rm0 a b C T (fun s' => if s' < s then T + 1 else T) →
    ∃ a' b', (∀ v1 v2 z, Ru 106 22 (vT v1 v2 (Int32.ofNat s)) [] (enc 1 a z) = Ru 106 70 (vT v1 v2 0) [] (enc 1 a' z)) ∧ (∀ z, Ru 205 2 [(0, aR (some (95, 0))), (1, aI (Int32.ofNat s))] [] (enc 2 b z) = some (.inl none, enc 2 b' z)) ∧ Al a' b' ∧ Rm0 a' b' C T (fun _ => T + 1) ∧ Fr a a' b b' ∧ StpE EvL a b a' b' := by
  intro k
  induction k with
  | zero =>
    intro s a b hk hA hM
    have : s = tZ a 27 0 := by omega
    subst this
    obtain ⟨S1, S2, -, ⟨S9a, S9b, S9c⟩, -⟩ := r_S hA.1
    exact ⟨a, b, fun v1 v2 z => x106_22e v1 v2 hA.1, fun z => Ref_2e (r_FR hA.1) S9c, hA, Rm0_lo hM (fun s hs => by rw [if_pos hs]), Fr_r a b, StpE_r a b⟩
  | succ k ih =>
    intro s a b hk hA hM
    have hs : s < tZ a 27 0 := by omega
    obtain ⟨a1, b1, a2, b2, x1, x2, hR1, z1, y, hA2, hM2, hF2, hS2⟩ := hear_shop hA hM hs (by simp)
    have z2 : tZ a2 27 0 = tZ a 27 0 := dZ hF2.1 (S := [27]) (P := []) (s := 27) (by decide) (by simp) 0
    obtain ⟨a3, b3, x3, y3, hA3, hM3, hF3, hS3⟩ := ih (s + 1) a2 b2 (by omega) hA2 (Rm0_lo hM2 (fun s' _ => by
      by_cases e : s' = s
      · rw [if_pos e, if_pos (by omega)]
      · rw [if_neg e]
        by_cases e2 : s' < s
        · rw [if_pos e2, if_pos (by omega)]
        · rw [if_neg e2, if_neg (by omega)]))
    exact ⟨a3, b3, fun v1 v2 z => by rw [x106_22 v1 v2 hA.1 hR1 hs z1 x1 x2, x3], fun z => by rw [y, y3], hA3, hM3, Fr_t hF2 hF3, StpE_t hS2 hS3⟩
theorem y270_41 {b b1 b2 a a1 : TS} {z : Hp} {s : Nat} (hR : R0 a b) (hR1 : R0 a1 b1) (hR2 : FxR b2) (hs : s < tZ a 27 0) (f245 : ∀ z, Ex 245 [aR (some (93, 0)), aI (Int32.ofNat s)] (enc 2 b z) = some (.inl none, enc 2 b1 z)) (f211 : ∀ z, Ex 211 [aR (some (95, 0)), aI (Int32.ofNat s)] (enc 2 b1 z) = some (.inl none, enc 2 b2 z)) :
    Ru 270 41 [(0, aR (some (97, 0))), (1, aI (Int32.ofNat s))] [] (enc 2 b z) = Ru 270 41 [(0, aR (some (97, 0))), (1, aI (Int32.ofNat (s + 1)))] [] (enc 2 b2 z) := by
  have hF := r_FR hR
  have hF1 := r_FR hR1
  obtain ⟨S1, S2, -, ⟨S9a, S9b, S9c⟩, -⟩ := r_S hR
  have g3 : ¬ Int32.ofNat (tZ a 27 0) ≤ Int32.ofNat s := by rw [o_le (by omega) (by omega)]; omega
  rw [lf_270_41]
  simp (config := {decide := true}) only [gfI_enc, gfL_enc, gfR_enc, pfI_enc, pfL_enc, pfR_enc, Option.bind_some, cI_v, cL_v, cF_v, cD_v, cR_v, cV_v, cI_x, cL_x, cR_x, cV_x, gz_0, gz_1, acc_enc, tI_sI, tL_sI, tR_sI, tN_sI, tZ_sI, tC_sI, tc_sI, tz_sI, tI_sL, tL_sL, tR_sL, tN_sL, tZ_sL, tC_sL, tc_sL, tz_sL, tI_sR, tL_sR, tR_sR, tN_sR, tZ_sR, tC_sR, tc_sR, tz_sR, tI_sZ, tL_sZ, tR_sZ, tN_sZ, tZ_sZ, tC_sZ, tc_sZ, tz_sZ, tI_sC, tL_sC, tR_sC, tN_sC, tZ_sC, tC_sC, tc_sC, tz_sC, tI_aC, tL_aC, tR_aC, tN_aC, tZ_aC, tC_aC, tc_aC, tz_aC, tI_rmL, tL_rmL, tR_rmL, tN_rmL, tZ_rmL, tC_rmL, tc_rmL, tz_rmL, tI_mk, tL_mk, tR_mk, tN_mk, tZ_mk, tC_mk, tc_mk, tz_mk, tI_pushL, tL_pushL, tR_pushL, tN_pushL, tZ_pushL, tC_pushL, tc_pushL, tz_pushL, tI_pushB, tL_pushB, tR_pushB, tN_pushB, tZ_pushB, tC_pushB, tc_pushB, tz_pushB, tI_cpL, tL_cpL, tR_cpL, tN_cpL, tZ_cpL, tC_cpL, tc_cpL, tz_cpL, eq_self, true_and, and_true, false_and, and_false, if_true, if_false, reduceIte, ite_true, ite_false, not_true_eq_false, not_false_eq_true, frN_97 hF, frR_97_0 hF, frN_91 hF, S9a, g3, frR_97_2 hF, f245, frN_97 hF1, frR_97_4 hF1, f211, o_s]
theorem y270_41e {b a : TS} {z : Hp} (hR : R0 a b) : Ru 270 41 [(0, aR (some (97, 0))), (1, aI (Int32.ofNat (tZ a 27 0)))] [] (enc 2 b z) = some (.inl none, enc 2 b z) := by
  have hF := r_FR hR
  obtain ⟨S1, S2, -, ⟨S9a, S9b, S9c⟩, -⟩ := r_S hR
  have g3 : Int32.ofNat (tZ a 27 0) ≤ Int32.ofNat (tZ a 27 0) := Int32.le_refl _
  rw [lf_270_41]
  simp (config := {decide := true}) only [gfI_enc, gfL_enc, gfR_enc, pfI_enc, pfL_enc, pfR_enc, Option.bind_some, cI_v, cL_v, cF_v, cD_v, cR_v, cV_v, cI_x, cL_x, cR_x, cV_x, gz_0, gz_1, acc_enc, tI_sI, tL_sI, tR_sI, tN_sI, tZ_sI, tC_sI, tc_sI, tz_sI, tI_sL, tL_sL, tR_sL, tN_sL, tZ_sL, tC_sL, tc_sL, tz_sL, tI_sR, tL_sR, tR_sR, tN_sR, tZ_sR, tC_sR, tc_sR, tz_sR, tI_sZ, tL_sZ, tR_sZ, tN_sZ, tZ_sZ, tC_sZ, tc_sZ, tz_sZ, tI_sC, tL_sC, tR_sC, tN_sC, tZ_sC, tC_sC, tc_sC, tz_sC, tI_aC, tL_aC, tR_aC, tN_aC, tZ_aC, tC_aC, tc_aC, tz_aC, tI_rmL, tL_rmL, tR_rmL, tN_rmL, tZ_rmL, tC_rmL, tc_rmL, tz_rmL, tI_mk, tL_mk, tR_mk, tN_mk, tZ_mk, tC_mk, tc_mk, tz_mk, tI_pushL, tL_pushL, tR_pushL, tN_pushL, tZ_pushL, tC_pushL, tc_pushL, tz_pushL, tI_pushB, tL_pushB, tR_pushB, tN_pushB, tZ_pushB, tC_pushB, tc_pushB, tz_pushB, tI_cpL, tL_cpL, tR_cpL, tN_cpL, tZ_cpL, tC_cpL, tc_cpL, tz_cpL, eq_self, true_and, and_true, false_and, and_false, if_true, if_false, reduceIte, ite_true, ite_false, not_true_eq_false, not_false_eq_true, frN_97 hF, frR_97_0 hF, frN_91 hF, S9a, g3]
theorem look_all {C T : Nat} : ∀ k s a b, s + k = tZ a 27 0 → Al a b → Rm0 a b C T (fun _ => T + 1) →
    ∃ a' b', (∀ v1 v2 z, Ru 106 70 (vT v1 v2 (Int32.ofNat s)) [] (enc 1 a z) = Ru 106 2 [(0, aR (some (96, 0))), (1, aI v1), (2, aI (v2 + 1))] [] (enc 1 a' z)) ∧ (∀ z, Ru 270 41 [(0, aR (some (97, 0))), (1, aI (Int32.ofNat s))] [] (enc 2 b z) = some (.inl none, enc 2 b' z)) ∧ Al a' b' ∧ Rm0 a' b' C T (fun _ => T + 1) ∧ Fr a a' b b' ∧ StpE EvM a b a' b' ∧ (∀ s', s' < s → s' < tZ a 27 0 → (GvT a b s' → GvT a' b' s') ∧ (Yg a b s' T → Yg a' b' s' T)) ∧ (∀ s', s ≤ s' → s' < tZ a 27 0 → GvT a' b' s' ∧ Yg a' b' s' T) := by
  intro k
  induction k with
  | zero =>
    intro s a b hk hA hM
    have : s = tZ a 27 0 := by omega
    subst this
    exact ⟨a, b, fun v1 v2 z => x106_70e v1 v2 hA.1, fun z => y270_41e hA.1, hA, hM, Fr_r a b, StpE_r a b, fun _ _ _ => ⟨id, id⟩, fun s' h1 h2 => by omega⟩
  | succ k ih =>
    intro s a b hk hA hM
    have hs : s < tZ a 27 0 := by omega
    obtain ⟨a1, b1, a2, b2, x1, x2, hR1, z1, y1, y2, hA2, hM2, hF2, hS2, hO2, hG2, hY2⟩ := look_shop hA hM hs
    have z2 : tZ a2 27 0 = tZ a 27 0 := dZ hF2.1 (S := [27]) (P := []) (s := 27) (by decide) (by simp) 0
    obtain ⟨a3, b3, x3, y3, hA3, hM3, hF3, hS3, hL3, hL4⟩ := ih (s + 1) a2 b2 (by omega) hA2 hM2
    refine ⟨a3, b3, fun v1 v2 z => by rw [x106_70 v1 v2 hA.1 hR1 hs z1 x1 x2, x3], fun z => by rw [y270_41 hA.1 hR1 (r_FR hA2.1) hs y1 y2, y3], hA3, hM3, Fr_t hF2 hF3, StpE_t hS2 hS3, fun s' h1 h2 => ?_, fun s' h1 h2 => ?_⟩
    · obtain ⟨u1, u2⟩ := hL3 s' (by omega) (by omega)
      refine ⟨fun h => u1 (GvT_o h hO2), fun h => u2 (fun l hl => h l ?_)⟩
      rw [hO2.2.1 s' h2 (by omega)] at hl
      exact hl
    · by_cases e : s' = s
      · subst e
        obtain ⟨u1, u2⟩ := hL3 s' (by omega) (by omega)
        exact ⟨u1 hG2, u2 hY2⟩
      · exact hL4 s' (by omega) (by omega)
/-- the clocks go on -/
def tkA (a : TS) (t : Int32) : TS := sI a 25 0 0 t
def tkB (b : TS) (t : Int32) : TS := sI (sI (sI b 97 0 5 t) 93 0 9 t) 95 0 1 t
set_option maxHeartbeats 2000000 in
theorem clock_on {a b : TS} {C T : Nat} (hA : Al a b) (hM : Rm0 a b C T (fun _ => T + 1)) (hT : T < 3000) : Al (tkA a (Int32.ofNat (T + 1))) (tkB b (Int32.ofNat (T + 1))) ∧ Rm0 (tkA a (Int32.ofNat (T + 1))) (tkB b (Int32.ofNat (T + 1))) C (T + 1) (fun s' => if s' < 0 then T + 1 + 1 else T + 1) ∧ Fr a (tkA a (Int32.ofNat (T + 1))) b (tkB b (Int32.ofNat (T + 1))) := by
  have ca : chF [] [(25, 0)] a (tkA a (Int32.ofNat (T + 1))) := chF_I (by simp) (chF_r _ _ _)
  have cb : chF [] [(97, 5), (93, 9), (95, 1)] b (tkB b (Int32.ofNat (T + 1))) := chF_I (by simp) (chF_I (by simp) (chF_I (by simp) (chF_r _ _ _)))
  have wa : Wr a (tkA a (Int32.ofNat (T + 1))) := (Wr.rf _).cI _ _ _ _
  have wb : Wr b (tkB b (Int32.ofNat (T + 1))) := (((Wr.rf _).cI _ _ _ _).cI _ _ _ _).cI _ _ _ _
  have vA : ∀ k, tI (tkA a (Int32.ofNat (T + 1))) 25 0 k = if k = 0 then Int32.ofNat (T + 1) else tI a 25 0 k := fun k => by
    unfold tkA
    rw [tI_sI]
    by_cases e : k = 0
    · rw [if_pos ⟨rfl, rfl, e⟩, if_pos e]
    · rw [if_neg (fun q => e q.2.2), if_neg e]
  have v97 : ∀ k, tI (tkB b (Int32.ofNat (T + 1))) 97 0 k = if k = 5 then Int32.ofNat (T + 1) else tI b 97 0 k := fun k => by
    unfold tkB
    rw [tI_sI, if_neg (fun q => absurd q.1 (by decide)), tI_sI, if_neg (fun q => absurd q.1 (by decide)), tI_sI]
    by_cases e : k = 5
    · rw [if_pos ⟨rfl, rfl, e⟩, if_pos e]
    · rw [if_neg (fun q => e q.2.2), if_neg e]
  have v93 : tI (tkB b (Int32.ofNat (T + 1))) 93 0 9 = Int32.ofNat (T + 1) := by
    unfold tkB
    rw [tI_sI, if_neg (fun q => absurd q.1 (by decide)), tI_sI, if_pos ⟨rfl, rfl, rfl⟩]
  have v95 : tI (tkB b (Int32.ofNat (T + 1))) 95 0 1 = Int32.ofNat (T + 1) := by
    unfold tkB
    rw [tI_sI, if_pos ⟨rfl, rfl, rfl⟩]
  generalize tkA a (Int32.ofNat (T + 1)) = a' at *
  generalize tkB b (Int32.ofNat (T + 1)) = b' at *
  obtain ⟨hR, hN, hL, hAs, hK⟩ := hA
  obtain ⟨m1, m2, m3, m4, m5, m6, m7⟩ := hM
  have hP : PS a a' b b' := PS_c ca cb (by decide) (by decide)
  have gq' : groQ b b' := groQ_c cb (by decide +kernel)
  have hR1 : R0 a' b' := by
    have ha := ca
    have hb := cb
    obtain ⟨hFC, hFR, hB, hS, hM, hW, hV, hC, hD, hE, hP, hQ, hH, hK, hG, hO, hZ⟩ := hR
    have hH' : RH a' b' := by
      obtain ⟨⟨h1, h2, h3, n, h4, h5⟩, ⟨h6, h7⟩, ⟨h8, h9⟩, h10, h11, h14, h15⟩ := hH
      have d : dpk [] [(25, 0)] [] [(96, 8), (31, 1), (31, 2), (96, 11)] = true := by decide
      have d' : dpk [] [(97, 5), (93, 9), (95, 1)] [] [(97, 7), (97, 6), (94, 11), (95, 2), (95, 3), (95, 5), (95, 6)] = true := by decide
      unfold RH
      simp only [vA, v97, v93, v95, dI ca d (s := 96) (k := 8) (by simp), dI ca d (s := 31) (k := 1) (by simp), dI ca d (s := 31) (k := 2) (by simp), dI ca d (s := 96) (k := 11) (by simp), dI cb d' (s := 94) (k := 11) (by simp), dI cb d' (s := 95) (k := 2) (by simp), dI cb d' (s := 95) (k := 3) (by simp), dI cb d' (s := 95) (k := 5) (by simp), dI cb d' (s := 95) (k := 6) (by simp)]
      simp (config := {decide := true}) only [if_true, if_false]
      exact ⟨⟨trivial, trivial, trivial, T + 1, by omega, rfl⟩, ⟨h6, h7⟩, ⟨h8, h9⟩, h10, h11, h14, h15⟩
    exact ⟨FxC_s hFC wa ha (by decide), FxR_s hFR wb hb (by decide), RB_c hB ha hb (by decide) (by decide), RS_c hS ha hb (by decide) (by decide), RM_c hM ha hb (by decide) (by decide), RW_c hW ha hb (by decide) (by decide), RV_c hV ha hb (by decide) (by decide), RC_c hC ha hb (by decide) (by decide), RD_c hD ha hb (by decide) (by decide), RE_c hE ha hb (by decide) (by decide), RP_c hP ha hb (by decide) (by decide), RQ_c hQ ha hb (by decide) (by decide), hH', RK_c hK ha hb (by decide) (by decide) (gro_c ha (by decide)) (gro_c ha (by decide)) (gro_c ha (by decide)) (gro_c ha (by decide)), RG_c hG ha hb (by decide) (by decide), RO_c hO ha hb (by decide) (by decide), RZ_c hZ ha hb (by decide) (by decide)⟩
  obtain ⟨hL1, hv⟩ := Ln0_o hL.1 ca cb (by decide) (by decide) (by decide) gq'
  have z27 : tZ a' 27 0 = tZ a 27 0 := dZ ca (S := [27]) (P := []) (s := 27) (by decide) (by simp) 0
  have z29 : tZ a' 29 0 = tZ a 29 0 := dZ ca (S := [29]) (P := []) (s := 29) (by decide) (by simp) 0
  have z9 : ∀ c, tZ a' 9 c = tZ a 9 c := dZ ca (S := [9]) (P := []) (s := 9) (by decide) (by simp)
  have nA : ∀ s, tN a' s = tN a s := fun s => (ca s (by simp)).2.2.2.1
  have nB : ∀ s, tN b' s = tN b s := fun s => (cb s (by simp)).2.2.2.1
  have iB : ∀ s, s ∈ [48, 67, 69, 70, 87] → ∀ i k, tI b' s i k = tI b s i k := fun s hs i k => by
    refine (cb s (by simp)).1 i k (fun q => ?_)
    simp only [List.mem_cons, List.not_mem_nil, or_false, Prod.mk.injEq] at hs q
    omega
  have hKT : ∀ s, KTs a' b' s = KTs a b s := fun s => KTs_eq (dZ ca (S := [19]) (P := []) (s := 19) (by decide) (by simp) s) (fun k _ => iB 67 (by simp) 0 _)
  have hGK : GK a' b' = GK a b := by
    unfold GK
    rw [z29, unsN_eq (fun p => iB 70 (by simp) 0 p), bkN_eq (fun p => iB 69 (by simp) 0 p)]
    unfold askN
    simp only [iB 87 (by simp)]
  have hKc : Kc a' = Kc a := by
    unfold Kc
    rw [nA, nA, nA, nA]
  have hKb : Kb b' = Kb b := by
    unfold Kb
    rw [nB, nB, nB]
  refine ⟨⟨hR1, Nt_c hN ca cb (by decide) (by decide) hP.1 (gro_c ca (by decide)) gq', Ln_c hL hL1 hP z27 hv, As_cg hAs ca cb (by decide) (by decide) (by rw [v95, m3, o_le (by omega) (by omega)]; omega), Kp_c hK ca cb (by decide) (by decide) hP gq' (fun p _ h => by rw [iB 87 (by simp)]; exact h)⟩, ⟨hT, m2, v95, by rw [hKc, hKb, hGK, z29]; exact m4, ?_, fun s hs => ?_, fun s hs => ?_⟩, chF_m ca (by simp) (by simp [FtA]), chF_m cb (by simp) (by simp [FtB]), wa, wb⟩
  · have e1 : sumS (tZ a 27 0) (phi a' b') = sumS (tZ a 27 0) (phi a b) := sumS_eq _ (fun s hs => by
      unfold phi
      rw [(hv (2 * s) (by omega)).2, hKT, iB 48 (by simp)])
    have e2 : Mt b' = Mt b := by unfold Mt; rw [nB, nB, nB]
    rw [z27, z29, hGK, e1, e2]
    exact m5
  · have e1 : sumS (tZ a 27 0) (fun s' => ask0 (vQ b' (2 * s'))) = sumS (tZ a 27 0) (fun s' => ask0 (vQ b (2 * s'))) := sumS_eq _ (fun s hs => by rw [(hv (2 * s) (by omega)).2])
    rw [z27, z29, nA, e1]
    exact m6 s hs
  · rw [z27] at hs
    dsimp only
    rw [if_neg (by omega), hKc, hKT, (hv (2 * s) (by omega)).2, (hv (2 * s + 1) (by omega)).2, z9, z9]
    exact Rsh_tick (m7 s hs)
theorem lt3000 {T : Nat} (h : T < 3000) : (Int32.ofNat T + 1) = Int32.ofNat (T + 1) := o_s T
/-- a tick -/
def TickE (a b a' b' : TS) : Prop := ∃ T a0 b0 a1 b1, T < 3000 ∧ tI b 95 0 1 = Int32.ofNat T ∧ EvC a b a0 b0 ∧ NoDue a b T ∧ StpE EvL a0 b0 a1 b1 ∧ NoDue a1 b1 (T + 1) ∧ StpE EvM a1 b1 a' b' ∧ NoDue a' b' (T + 1) ∧ (∀ s, s < tZ a' 27 0 → GvT a' b' s ∧ Yg a' b' s (T + 1)) ∧ (Al a b ∧ Al a0 b0 ∧ Al a1 b1 ∧ Al a' b') ∧ (Fr a a0 b b0 ∧ Fr a0 a1 b0 b1 ∧ Fr a1 a' b1 b') ∧ tI b1 95 0 1 = Int32.ofNat (T + 1) ∧ tI b' 95 0 1 = Int32.ofNat (T + 1)
set_option maxHeartbeats 2000000 in
theorem sim_tick {a b : TS} {C T : Nat} (hA : Al a b) (hM : Rm0 a b C T (fun _ => T + 1)) (hT : T < 3000) :
    ∃ a' b', (∀ v1 v2 z, ¬ v1 ≤ v2 → Ru 106 2 [(0, aR (some (96, 0))), (1, aI v1), (2, aI v2)] [] (enc 1 a z) = Ru 106 2 [(0, aR (some (96, 0))), (1, aI v1), (2, aI (v2 + 1))] [] (enc 1 a' z)) ∧ (∀ z, Ex 270 [aR (some (97, 0))] (enc 2 b z) = some (.inl none, enc 2 b' z)) ∧ Al a' b' ∧ Rm0 a' b' C (T + 1) (fun _ => T + 1 + 1) ∧ Fr a a' b b' ∧ TickE a b a' b' := by
  have hFC := r_FC hA.1
  have hFR := r_FR hA.1
  obtain ⟨hA0, hM0, hF0⟩ := clock_on hA hM hT
  have m3 := hM.2.2.1
  have tk := tick_of hA.1
  have t97 : tI b 97 0 5 = Int32.ofNat T := by
    obtain ⟨⟨-, -, h3, -⟩, -⟩ := r_H hA.1
    exact h3.symm.trans m3
  obtain ⟨a1, b1, x1, y1, hA1, hM1, hF1, hS1⟩ := hear_all (tZ (tkA a (Int32.ofNat (T + 1))) 27 0) 0 _ _ (Nat.zero_add _) hA0 hM0
  obtain ⟨a2, b2, x2, y2, hA2, hM2, hF2, hS2, -, hL2⟩ := look_all (tZ a1 27 0) 0 a1 b1 (Nat.zero_add _) hA1 hM1
  have hFR0 := r_FR hA0.1
  have x1' := fun v1 v2 z => x1 v1 v2 z
  have x2' := fun v1 v2 z => x2 v1 v2 z
  unfold vT at x1' x2'
  refine ⟨a2, b2, fun v1 v2 z hv => ?_, fun z => ?_, hA2, hM2, Fr_t hF0 (Fr_t hF1 hF2), ⟨T, _, _, a1, b1, hT, m3, ⟨T, hT, m3, rfl, rfl, hA, hA0⟩, NoDue_of hM, hS1, NoDue_of hM1, hS2, NoDue_of hM2, fun s hs => hL2 s (Nat.zero_le _) (by rw [← dZ hF2.1 (S := [27]) (P := []) (s := 27) (by decide) (by simp) 0]; exact hs), ⟨hA, hA0, hA1, hA2⟩, ⟨hF0, hF1, hF2⟩, hM1.2.2.1, hM2.2.2.1⟩⟩
  · rw [lf_106_2]
    simp (config := {decide := true}) only [gfI_enc, gfL_enc, gfR_enc, pfI_enc, pfL_enc, pfR_enc, Option.bind_some, cI_v, cL_v, cF_v, cD_v, cR_v, cV_v, cI_x, cL_x, cR_x, cV_x, gz_0, gz_1, acc_enc, tI_sI, tL_sI, tR_sI, tN_sI, tZ_sI, tC_sI, tc_sI, tz_sI, tI_sL, tL_sL, tR_sL, tN_sL, tZ_sL, tC_sL, tc_sL, tz_sL, tI_sR, tL_sR, tR_sR, tN_sR, tZ_sR, tC_sR, tc_sR, tz_sR, tI_sZ, tL_sZ, tR_sZ, tN_sZ, tZ_sZ, tC_sZ, tc_sZ, tz_sZ, tI_sC, tL_sC, tR_sC, tN_sC, tZ_sC, tC_sC, tc_sC, tz_sC, tI_aC, tL_aC, tR_aC, tN_aC, tZ_aC, tC_aC, tc_aC, tz_aC, tI_rmL, tL_rmL, tR_rmL, tN_rmL, tZ_rmL, tC_rmL, tc_rmL, tz_rmL, tI_mk, tL_mk, tR_mk, tN_mk, tZ_mk, tC_mk, tc_mk, tz_mk, tI_pushL, tL_pushL, tR_pushL, tN_pushL, tZ_pushL, tC_pushL, tc_pushL, tz_pushL, tI_pushB, tL_pushB, tR_pushB, tN_pushB, tZ_pushB, tC_pushB, tc_pushB, tz_pushB, tI_cpL, tL_cpL, tR_cpL, tN_cpL, tZ_cpL, tC_cpL, tc_cpL, tz_cpL, eq_self, true_and, and_true, false_and, and_false, if_true, if_false, reduceIte, ite_true, ite_false, not_true_eq_false, not_false_eq_true, hv, fcN_96 hFC, fcR_96_1 hFC, fcN_25 hFC, tk, m3, o_s]
    refine (x1' v1 v2 z).trans ?_
    exact x2' v1 v2 z
  · refine (X_in (by decide +kernel) (frN_97 hFR) rfl).trans ((lf_270_0 ..).trans ?_)
    have f205 : ∀ z, Ex 205 [aR (some (95, 0))] (enc 2 (tkB b (Int32.ofNat (T + 1))) z) = some (.inl none, enc 2 b1 z) := fun z => by
      refine (X_in (by decide +kernel) (frN_95 hFR0) rfl).trans ((lf_205_0 ..).trans ?_)
      exact y1 z
    unfold tkB at f205
    simp (config := {decide := true}) only [gfI_enc, gfL_enc, gfR_enc, pfI_enc, pfL_enc, pfR_enc, Option.bind_some, cI_v, cL_v, cF_v, cD_v, cR_v, cV_v, cI_x, cL_x, cR_x, cV_x, gz_0, gz_1, acc_enc, tI_sI, tL_sI, tR_sI, tN_sI, tZ_sI, tC_sI, tc_sI, tz_sI, tI_sL, tL_sL, tR_sL, tN_sL, tZ_sL, tC_sL, tc_sL, tz_sL, tI_sR, tL_sR, tR_sR, tN_sR, tZ_sR, tC_sR, tc_sR, tz_sR, tI_sZ, tL_sZ, tR_sZ, tN_sZ, tZ_sZ, tC_sZ, tc_sZ, tz_sZ, tI_sC, tL_sC, tR_sC, tN_sC, tZ_sC, tC_sC, tc_sC, tz_sC, tI_aC, tL_aC, tR_aC, tN_aC, tZ_aC, tC_aC, tc_aC, tz_aC, tI_rmL, tL_rmL, tR_rmL, tN_rmL, tZ_rmL, tC_rmL, tc_rmL, tz_rmL, tI_mk, tL_mk, tR_mk, tN_mk, tZ_mk, tC_mk, tc_mk, tz_mk, tI_pushL, tL_pushL, tR_pushL, tN_pushL, tZ_pushL, tC_pushL, tc_pushL, tz_pushL, tI_pushB, tL_pushB, tR_pushB, tN_pushB, tZ_pushB, tC_pushB, tc_pushB, tz_pushB, tI_cpL, tL_cpL, tR_cpL, tN_cpL, tZ_cpL, tC_cpL, tc_cpL, tz_cpL, eq_self, true_and, and_true, false_and, and_false, if_true, if_false, reduceIte, ite_true, ite_false, not_true_eq_false, not_false_eq_true, frN_97 hFR, t97, o_s, frR_97_2 hFR, frN_93 hFR, frR_97_4 hFR, frN_95 hFR, f205]
    exact y2 z
