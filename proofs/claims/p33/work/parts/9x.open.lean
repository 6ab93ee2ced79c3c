/-! ===== the issuer opens and closes ===== -/
theorem x112_30 {a b a1 : TS} {z : Hp} {n i i' : Nat} (v3 : Int32) (hR : R0 a b) (hn : tZ a 15 0 = n) (hn2 : n ≤ 200) (hi : i < n) (h15 : tR a 15 0 i = some (17, i')) (hi' : i' < tN a 17) (f21 : ∀ z, Ex 21 [aR (some (30, 0)), aR (some (17, i'))] (enc 1 a z) = some (.inl none, enc 1 a1 z)) :
    Ru 112 30 [(0, aR (some (96, 0))), (2, aR (some (15, 0))), (3, aI v3), (4, aI (Int32.ofNat i))] [] (enc 1 a z) = Ru 112 30 [(0, aR (some (96, 0))), (2, aR (some (15, 0))), (3, aI v3), (4, aI (Int32.ofNat (i + 1)))] [] (enc 1 a1 z) := by
  have hF := r_FC hR
  have g1 : (Int32.ofNat i).toNatClampNeg = i := o_ix (by omega)
  have g2 : ¬ Int32.ofNat i < 0 := o_lt0 (by omega)
  have g3 : ¬ Int32.ofNat n ≤ Int32.ofNat i := by rw [o_le (by omega) (by omega)]; omega
  rw [lf_112_30]
  simp (config := {decide := true}) only [gfI_enc, gfL_enc, gfR_enc, pfI_enc, pfL_enc, pfR_enc, Option.bind_some, cI_v, cL_v, cF_v, cD_v, cR_v, cV_v, cI_x, cL_x, cR_x, cV_x, gz_0, gz_1, acc_enc, tI_sI, tL_sI, tR_sI, tN_sI, tZ_sI, tC_sI, tc_sI, tz_sI, tI_sL, tL_sL, tR_sL, tN_sL, tZ_sL, tC_sL, tc_sL, tz_sL, tI_sR, tL_sR, tR_sR, tN_sR, tZ_sR, tC_sR, tc_sR, tz_sR, tI_sZ, tL_sZ, tR_sZ, tN_sZ, tZ_sZ, tC_sZ, tc_sZ, tz_sZ, tI_sC, tL_sC, tR_sC, tN_sC, tZ_sC, tC_sC, tc_sC, tz_sC, tI_aC, tL_aC, tR_aC, tN_aC, tZ_aC, tC_aC, tc_aC, tz_aC, tI_rmL, tL_rmL, tR_rmL, tN_rmL, tZ_rmL, tC_rmL, tc_rmL, tz_rmL, tI_mk, tL_mk, tR_mk, tN_mk, tZ_mk, tC_mk, tc_mk, tz_mk, tI_pushL, tL_pushL, tR_pushL, tN_pushL, tZ_pushL, tC_pushL, tc_pushL, tz_pushL, tI_pushB, tL_pushB, tR_pushB, tN_pushB, tZ_pushB, tC_pushB, tc_pushB, tz_pushB, tI_cpL, tL_cpL, tR_cpL, tN_cpL, tZ_cpL, tC_cpL, tc_cpL, tz_cpL, eq_self, true_and, and_true, false_and, and_false, if_true, if_false, reduceIte, ite_true, ite_false, not_true_eq_false, not_false_eq_true, X405, X402, fcN_15 hF, hn, g1, g2, g3, hi, h15, acc_enc, hi', fcN_96 hF, fcR_96_6 hF, f21, o_s]
theorem y204_27 {b b1 : TS} {z : Hp} {n i sh : Nat} {q : Nat × Nat} {x1 x2 x3 x4 x5 : Int32} (hF : FxR b) (hn2 : n ≤ 200) (hi : i < n) (h71 : tR b 71 0 i = some q) (hq : isQ q.1) (hqi : q.2 < tN b q.1) (h72 : tI b 72 0 i = Int32.ofNat sh)
    (q1 : tI b q.1 q.2 1 = x1) (q2 : tI b q.1 q.2 2 = x2) (q3 : tI b q.1 q.2 3 = x3) (q4 : tI b q.1 q.2 4 = x4) (q5 : tI b q.1 q.2 5 = x5) (f169 : ∀ z, Ex 169 [aR (some (94, 0)), aI (Int32.ofNat sh), aI x1, aI x2, aI x3, aI x4, aI x5] (enc 2 b z) = some (.inl none, enc 2 b1 z)) :
    Ru 204 27 [(0, aR (some (95, 0))), (1, aI 1), (2, aI (Int32.ofNat n)), (3, aI (Int32.ofNat i))] [] (enc 2 b z) = Ru 204 27 [(0, aR (some (95, 0))), (1, aI 1), (2, aI (Int32.ofNat n)), (3, aI (Int32.ofNat (i + 1)))] [] (enc 2 b1 z) := by
  obtain ⟨qs, qi⟩ := q
  have g1 : (Int32.ofNat i).toNatClampNeg = i := o_ix (by omega)
  have g2 : ¬ Int32.ofNat i < 0 := o_lt0 (by omega)
  have g3 : ¬ Int32.ofNat n ≤ Int32.ofNat i := by rw [o_le (by omega) (by omega)]; omega
  have g4 : i < 200 := by omega
  rw [lf_204_27]
  simp (config := {decide := true}) only [gfI_enc, gfL_enc, gfR_enc, pfI_enc, pfL_enc, pfR_enc, Option.bind_some, cI_v, cL_v, cF_v, cD_v, cR_v, cV_v, cI_x, cL_x, cR_x, cV_x, gz_0, gz_1, acc_enc, tI_sI, tL_sI, tR_sI, tN_sI, tZ_sI, tC_sI, tc_sI, tz_sI, tI_sL, tL_sL, tR_sL, tN_sL, tZ_sL, tC_sL, tc_sL, tz_sL, tI_sR, tL_sR, tR_sR, tN_sR, tZ_sR, tC_sR, tc_sR, tz_sR, tI_sZ, tL_sZ, tR_sZ, tN_sZ, tZ_sZ, tC_sZ, tc_sZ, tz_sZ, tI_sC, tL_sC, tR_sC, tN_sC, tZ_sC, tC_sC, tc_sC, tz_sC, tI_aC, tL_aC, tR_aC, tN_aC, tZ_aC, tC_aC, tc_aC, tz_aC, tI_rmL, tL_rmL, tR_rmL, tN_rmL, tZ_rmL, tC_rmL, tc_rmL, tz_rmL, tI_mk, tL_mk, tR_mk, tN_mk, tZ_mk, tC_mk, tc_mk, tz_mk, tI_pushL, tL_pushL, tR_pushL, tN_pushL, tZ_pushL, tC_pushL, tc_pushL, tz_pushL, tI_pushB, tL_pushB, tR_pushB, tN_pushB, tZ_pushB, tC_pushB, tc_pushB, tz_pushB, tI_cpL, tL_cpL, tR_cpL, tN_cpL, tZ_cpL, tC_cpL, tc_cpL, tz_cpL, eq_self, true_and, and_true, false_and, and_false, if_true, if_false, reduceIte, ite_true, ite_false, not_true_eq_false, not_false_eq_true, g3, frN_95 hF, frR_95_16 hF, frN_71 hF, frZ_71 hF, gaR_enc, g1, g2, g4, h71, frR_95_8 hF, frR_95_17 hF, frN_72 hF, frZ_72 hF, gaI_enc, h72, gq hq hqi, q1, q2, q3, q4, q5, f169, o_s]
theorem note_loop {n : Nat} (hn2 : n ≤ 200) : ∀ k i a b, i + k = n → R0 a b → (∀ j, j < n → ntM a b j) → tZ a 15 0 = n →
    ∃ a' b', (∀ v3 z, Ru 112 30 [(0, aR (some (96, 0))), (2, aR (some (15, 0))), (3, aI v3), (4, aI (Int32.ofNat i))] [] (enc 1 a z) = Ru 112 30 [(0, aR (some (96, 0))), (2, aR (some (15, 0))), (3, aI v3), (4, aI (Int32.ofNat n))] [] (enc 1 a' z)) ∧
      (∀ z, Ru 204 27 [(0, aR (some (95, 0))), (1, aI 1), (2, aI (Int32.ofNat n)), (3, aI (Int32.ofNat i))] [] (enc 2 b z) = Ru 204 27 [(0, aR (some (95, 0))), (1, aI 1), (2, aI (Int32.ofNat n)), (3, aI (Int32.ofNat n))] [] (enc 2 b' z)) ∧
      R0 a' b' ∧ chF [1, 3, 4] [(35, 1), (37, 14)] a a' ∧ chF [44, 53, 54, 55, 56, 61, 62, 63, 64] [(94, 6)] b b' ∧ Wr a a' ∧ Wr b b' := by
  intro k
  induction k with
  | zero =>
    intro i a b hk hR hM hz
    have : i = n := by omega
    subst this
    exact ⟨a, b, fun _ _ => rfl, fun _ => rfl, hR, chF_r _ _ _, chF_r _ _ _, Wr.rf _, Wr.rf _⟩
  | succ k ih =>
    intro i a b hk hR hM hz
    obtain ⟨i', q, p, cd, c, sh, i1, i2, i3, i4, i5, i6, i7, i8, i9, ⟨j1, j2, j3, j4, j5, j6⟩, ⟨k1, k2, k3, k4, k5⟩, k6, l1, l2, l3⟩ := hM i (by omega)
    have hpos := (r_P' hR).2.2.2.2.1 p i6
    have hm0 : 0 < tI b 87 0 (10 * p + 3) := hpos.2.2.2.2.1.2.1
    obtain ⟨a1, b1, x, y, hR1, ca, cb, wa, wb⟩ := sim_note (m := tI b 87 0 (10 * p + 3)) (st := pst b p 2) hR i6 i1 j1 j2 j3 j4 j5 j6 i7 i8 l1 l2 rfl l3 rfl hm0
    have hPM : PM a a1 b b1 := PM_c ca cb (by decide) (by decide)
    have g17 : gro a a1 17 := gro_c ca (by decide)
    have gq' : groQ b b1 := groQ_c cb (by decide +kernel)
    have z15 : tZ a1 15 0 = tZ a 15 0 := dZ ca (S := [15]) (P := []) (s := 15) (by decide) (by simp) 0
    obtain ⟨a2, b2, x2, y2, hR2, ca2, cb2, wa2, wb2⟩ := ih (i + 1) a1 b1 (by omega) hR1 (fun j hj => ntM_c (hM j hj) hPM g17 (dR ca (S := [15]) (P := []) (s := 15) (by decide) (by simp) 0 j) (dR cb (S := [71]) (P := []) (s := 71) (by decide) (by simp) 0 j) gq' (dIS cb (S := [72]) (P := []) (s := 72) (by decide) (by simp) 0 j)) (by rw [z15]; exact hz)
    exact ⟨a2, b2, fun v3 z => (x112_30 v3 hR hz hn2 (by omega) i2 i1 x).trans (x2 v3 z), fun z => (y204_27 (r_FR hR) hn2 (by omega) i3 i4 i5 k6 k1 k2 k3 k4 k5 y).trans (y2 z), hR2, chF_t ca ca2, chF_t cb cb2, wa.t wa2, wb.t wb2⟩
/-- the counts of the switch begin anew -/
def z73 (b : TS) (k : Nat) : TS := cpL b 73 0 (fun _ => 0) (List.range k)
theorem z73_s (b : TS) (k : Nat) : z73 b (k + 1) = sI (z73 b k) 73 0 k 0 := by
  unfold z73 cpL
  rw [List.range_succ, List.foldl_append]
  rfl
theorem y204_99 {b : TS} {z : Hp} (v2 : Int32) (hF : FxR b) : ∀ m k, k + m = 8 → ∀ v1, bitOk v1 = true → Ru 204 99 [(0, aR (some (95, 0))), (1, aI v1), (2, aI v2), (3, aI (Int32.ofNat k))] [] (enc 2 (z73 b k) z) = some (.inl (some (aI v2)), enc 2 (sI (z73 b 8) 95 0 5 v1) z) := by
  intro m
  induction m with
  | zero =>
    intro k hk v1 hv
    have : k = 8 := by omega
    subst this
    have g1 : (8 : Int32) ≤ Int32.ofNat 8 := by decide
    have gz1 : ∀ r, gz v1 r = r := fun r => gz_b hv
    have n95 : 0 < tN (z73 b 8) 95 := by unfold z73; rw [tN_cpL]; exact frN_95 hF
    rw [lf_204_99]
    simp (config := {decide := true}) only [gfI_enc, gfL_enc, gfR_enc, pfI_enc, pfL_enc, pfR_enc, Option.bind_some, cI_v, cL_v, cF_v, cD_v, cR_v, cV_v, cI_x, cL_x, cR_x, cV_x, gz_0, gz_1, acc_enc, tI_sI, tL_sI, tR_sI, tN_sI, tZ_sI, tC_sI, tc_sI, tz_sI, tI_sL, tL_sL, tR_sL, tN_sL, tZ_sL, tC_sL, tc_sL, tz_sL, tI_sR, tL_sR, tR_sR, tN_sR, tZ_sR, tC_sR, tc_sR, tz_sR, tI_sZ, tL_sZ, tR_sZ, tN_sZ, tZ_sZ, tC_sZ, tc_sZ, tz_sZ, tI_sC, tL_sC, tR_sC, tN_sC, tZ_sC, tC_sC, tc_sC, tz_sC, tI_aC, tL_aC, tR_aC, tN_aC, tZ_aC, tC_aC, tc_aC, tz_aC, tI_rmL, tL_rmL, tR_rmL, tN_rmL, tZ_rmL, tC_rmL, tc_rmL, tz_rmL, tI_mk, tL_mk, tR_mk, tN_mk, tZ_mk, tC_mk, tc_mk, tz_mk, tI_pushL, tL_pushL, tR_pushL, tN_pushL, tZ_pushL, tC_pushL, tc_pushL, tz_pushL, tI_pushB, tL_pushB, tR_pushB, tN_pushB, tZ_pushB, tC_pushB, tc_pushB, tz_pushB, tI_cpL, tL_cpL, tR_cpL, tN_cpL, tZ_cpL, tC_cpL, tc_cpL, tz_cpL, eq_self, true_and, and_true, false_and, and_false, if_true, if_false, reduceIte, ite_true, ite_false, not_true_eq_false, not_false_eq_true, g1, gz1, n95]
  | succ m ih =>
    intro k hk v1 hv
    have o8 : (8 : Int32) = Int32.ofNat 8 := rfl
    have g1 : ¬ (8 : Int32) ≤ Int32.ofNat k := by rw [o8, o_le (by omega) (by omega)]; omega
    have g2 : (Int32.ofNat k).toNatClampNeg = k := o_ix (by omega)
    have g3 : ¬ Int32.ofNat k < 0 := o_lt0 (by omega)
    have g4 : k < 8 := by omega
    have n95 : 0 < tN (z73 b k) 95 := by unfold z73; rw [tN_cpL]; exact frN_95 hF
    have r95 : tR (z73 b k) 95 0 18 = some (73, 0) := by unfold z73; rw [tR_cpL]; exact frR_95_18 hF
    have n73 : 0 < tN (z73 b k) 73 := by unfold z73; rw [tN_cpL]; exact frN_73 hF
    have s73 : tZ (z73 b k) 73 0 = 8 := by unfold z73; rw [tZ_cpL]; exact frZ_73 hF
    rw [lf_204_99]
    simp (config := {decide := true}) only [gfI_enc, gfL_enc, gfR_enc, pfI_enc, pfL_enc, pfR_enc, Option.bind_some, cI_v, cL_v, cF_v, cD_v, cR_v, cV_v, cI_x, cL_x, cR_x, cV_x, gz_0, gz_1, acc_enc, tI_sI, tL_sI, tR_sI, tN_sI, tZ_sI, tC_sI, tc_sI, tz_sI, tI_sL, tL_sL, tR_sL, tN_sL, tZ_sL, tC_sL, tc_sL, tz_sL, tI_sR, tL_sR, tR_sR, tN_sR, tZ_sR, tC_sR, tc_sR, tz_sR, tI_sZ, tL_sZ, tR_sZ, tN_sZ, tZ_sZ, tC_sZ, tc_sZ, tz_sZ, tI_sC, tL_sC, tR_sC, tN_sC, tZ_sC, tC_sC, tc_sC, tz_sC, tI_aC, tL_aC, tR_aC, tN_aC, tZ_aC, tC_aC, tc_aC, tz_aC, tI_rmL, tL_rmL, tR_rmL, tN_rmL, tZ_rmL, tC_rmL, tc_rmL, tz_rmL, tI_mk, tL_mk, tR_mk, tN_mk, tZ_mk, tC_mk, tc_mk, tz_mk, tI_pushL, tL_pushL, tR_pushL, tN_pushL, tZ_pushL, tC_pushL, tc_pushL, tz_pushL, tI_pushB, tL_pushB, tR_pushB, tN_pushB, tZ_pushB, tC_pushB, tc_pushB, tz_pushB, tI_cpL, tL_cpL, tR_cpL, tN_cpL, tZ_cpL, tC_cpL, tc_cpL, tz_cpL, eq_self, true_and, and_true, false_and, and_false, if_true, if_false, reduceIte, ite_true, ite_false, not_true_eq_false, not_false_eq_true, g1, n95, r95, n73, s73, paI_enc, g2, g3, g4, o_s]
    rw [← z73_s]
    exact ih (k + 1) (by omega) v1 hv
theorem z73_c (b : TS) (k : Nat) : chF [73] [] b (z73 b k) := chF_g (chg_cpL (by simp) (chg_r _ _))
theorem z73_w (b : TS) (k : Nat) : Wr b (z73 b k) := Wr.cpL (Wr.rf _) _ _ _ _
theorem sZ_self (m : TS) (s i : Nat) {n : Nat} (h : tZ m s i = n) : sZ m s i n = m := by
  obtain ⟨f1, f2, f3, f4, f5, f6, f7, f8⟩ := m
  have e : uq2 f5 s i n = f5 := by
    funext s' i'
    unfold uq2
    split
    · rename_i e
      rw [e.1, e.2]
      exact h.symm
    · rfl
  show (f1, f2, f3, f4, uq2 f5 s i n, f6, f7, f8) = (f1, f2, f3, f4, f5, f6, f7, f8)
  rw [e]
/-- it is open, or closed, then: no notes are left -/
theorem core_open {a b a' b' : TS} {C : Nat} {v : Int32} (h : Core a b C) (hv : bitOk v = true) (hR' : R0 a' b')
    (ca : chF [1, 3, 4, 15] [(31, 2), (35, 1), (37, 14)] a a') (cb : chF [44, 53, 54, 55, 56, 61, 62, 63, 64, 73] [(94, 6), (95, 0), (95, 4), (95, 5)] b b') (c15 : ∀ i, tC a' 15 i = tC a 15 i) (z15 : tZ a' 15 0 = 0) (i4 : tI b' 95 0 4 = 0) (i73 : ∀ k, k < 8 → tI b' 73 0 k = 0) (o1 : tI a' 31 0 2 = v) (o2 : tI b' 95 0 5 = v) : Core a' b' C := by
  obtain ⟨⟨n1, n2, n3⟩, -⟩ := h.1.2.1
  refine Core_n h hR' ⟨⟨by rw [z15]; exact Nat.zero_le _, by rw [c15]; exact n2, by rw [c15]; exact n3⟩, by rw [i4, z15]; rfl, fun k hk => ?_, fun k k' hk hk' => ?_, fun cd hcd => ?_, fun _ => z15, by rw [o1, o2], by rw [o2]; exact hv⟩ ca cb (by decide) (by decide) (by decide) (groQ_c cb (by decide +kernel))
  · rw [z15] at hk
    exact absurd hk (Nat.not_lt_zero _)
  · rw [z15] at hk'
    exact absurd hk' (Nat.not_lt_zero _)
  · rw [i73 cd hcd, z15]
    rfl
theorem R0_31 {a b : TS} (h : R0 a b) (v : Int32) : R0 (sI a 31 0 2 v) b := by
  have ha : chF [] [(31, 2)] a (sI a 31 0 2 v) := chF_I (by simp) (chF_r _ _ _)
  have hb : chF [] [] b b := chF_r _ _ _
  have wa : Wr a (sI a 31 0 2 v) := (Wr.rf _).cI _ _ _ _
  have wb : Wr b b := Wr.rf _
  obtain ⟨hFC, hFR, hB, hS, hM, hW, hV, hC, hD, hE, hP, hQ, hH, hK, hG, hO, hZ⟩ := h
  exact ⟨FxC_s hFC wa ha (by decide), FxR_s hFR wb hb (by decide), RB_c hB ha hb (by decide) (by decide), RS_c hS ha hb (by decide) (by decide), RM_c hM ha hb (by decide) (by decide), RW_c hW ha hb (by decide) (by decide), RV_c hV ha hb (by decide) (by decide), RC_c hC ha hb (by decide) (by decide), RD_c hD ha hb (by decide) (by decide), RE_c hE ha hb (by decide) (by decide), RP_c hP ha hb (by decide) (by decide), RQ_c hQ ha hb (by decide) (by decide), RH_c hH ha hb (by decide) (by decide), RK_c hK ha hb (by decide) (by decide) (gro_c ha (by decide)) (gro_c ha (by decide)) (gro_c ha (by decide)) (gro_c ha (by decide)), RG_c hG ha hb (by decide) (by decide), RO_c hO ha hb (by decide) (by decide), RZ_c hZ ha hb (by decide) (by decide)⟩
def opB (b : TS) (v : Int32) : TS := sI (z73 (sI b 95 0 4 0) 8) 95 0 5 v
theorem opB_c (b : TS) (v : Int32) : chF [73] [(95, 4), (95, 5)] b (opB b v) := chF_I (by simp) (chF_t (chF_I (by simp) (chF_r _ _ _)) (chF_m (z73_c _ 8) (by simp) (by simp)))
theorem opB_w (b : TS) (v : Int32) : Wr b (opB b v) := (((Wr.rf _).cI _ _ _ _).t (z73_w _ 8)).cI _ _ _ _
theorem opB_v (b : TS) (v : Int32) : tI (opB b v) 95 0 4 = 0 ∧ tI (opB b v) 95 0 5 = v ∧ (∀ k, k < 8 → tI (opB b v) 73 0 k = 0) ∧ tI (opB b v) 95 0 0 = tI b 95 0 0 := by
  unfold opB z73
  refine ⟨?_, ?_, fun k hk => ?_, ?_⟩
  · rw [tI_sI, if_neg (fun q => absurd q.2.2 (by decide)), tI_cpL, if_neg (fun q => absurd q.1 (by decide)), tI_sI, if_pos ⟨rfl, rfl, rfl⟩]
  · rw [tI_sI, if_pos ⟨rfl, rfl, rfl⟩]
  · rw [tI_sI, if_neg (fun q => absurd q.1 (by decide)), tI_cpL, if_pos ⟨rfl, rfl, List.mem_range.mpr hk⟩]
  · rw [tI_sI, if_neg (fun q => absurd q.2.2 (by decide)), tI_cpL, if_neg (fun q => absurd q.1 (by decide)), tI_sI, if_neg (fun q => absurd q.2.2 (by decide))]
theorem R0_op {a b : TS} (h : R0 a b) (v : Int32) : R0 (sZ a 15 0 0) (opB b v) := by
  have ha : chF [15] [] a (sZ a 15 0 0) := chF_g (chg_sZ (by simp) (chg_r _ _))
  have hb := opB_c b v
  have wa : Wr a (sZ a 15 0 0) := (Wr.rf _).cZ _ _ (Or.inl (by decide +kernel))
  have wb := opB_w b v
  obtain ⟨hFC, hFR, hB, hS, hM, hW, hV, hC, hD, hE, hP, hQ, hH, hK, hG, hO, hZ⟩ := h
  exact ⟨FxC_s hFC wa ha (by decide), FxR_s hFR wb hb (by decide), RB_c hB ha hb (by decide) (by decide), RS_c hS ha hb (by decide) (by decide), RM_c hM ha hb (by decide) (by decide), RW_c hW ha hb (by decide) (by decide), RV_c hV ha hb (by decide) (by decide), RC_c hC ha hb (by decide) (by decide), RD_c hD ha hb (by decide) (by decide), RE_c hE ha hb (by decide) (by decide), RP_c hP ha hb (by decide) (by decide), RQ_c hQ ha hb (by decide) (by decide), RH_c hH ha hb (by decide) (by decide), RK_c hK ha hb (by decide) (by decide) (gro_c ha (by decide)) (gro_c ha (by decide)) (gro_c ha (by decide)) (gro_c ha (by decide)), RG_c hG ha hb (by decide) (by decide), RO_c hO ha hb (by decide) (by decide), RZ_c hZ ha hb (by decide) (by decide)⟩
set_option maxHeartbeats 1000000 in
theorem op_open {a b : TS} {C : Nat} (h : Core a b C) (v : Int32) (hv : bitOk v = true) : Dne 112 [aR (some (96, 0)), aI v] 273 [aR (some (97, 0)), aI v] a b C := by
  have hR := h.1.1
  have hF := r_FC hR
  have hFR := r_FR hR
  obtain ⟨N1, N2, N3, N4, N5, N6, N7, N8⟩ := h.1.2.1
  have h0 : Core a (sI b 95 0 0 0) C := Core_th h th95_c th95_w
  have hF0 := r_FR h0.1.1
  have i5 : tI (sI b 95 0 0 0) 95 0 5 = tI b 95 0 5 := by rw [tI_sI, if_neg (fun q => absurd q.2.2 (by decide))]
  have i4 : tI (sI b 95 0 0 0) 95 0 4 = tI b 95 0 4 := by rw [tI_sI, if_neg (fun q => absurd q.2.2 (by decide))]
  have i0 : tI (sI b 95 0 0 0) 95 0 0 = 0 := by rw [tI_sI, if_pos ⟨rfl, rfl, rfl⟩]
  have n0 : (0 : Int32) ≤ 0 := by decide
  have gzv : ∀ r, gz v r = r := fun r => gz_b hv
  have f27 := fun h => lf_204_27 (some (95, 0)) v 0 0 h
  have f30 := fun h => lf_112_30 (some (96, 0)) (some (15, 0)) 0 0 h
  have z73_0 : z73 (sI (sI b 95 0 0 0) 95 0 4 0) 0 = sI (sI b 95 0 0 0) 95 0 4 0 := rfl
  have f99 := fun v2 z v1 h1 => y204_99 (b := sI (sI b 95 0 0 0) 95 0 4 0) (z := z) v2 (FxR_s hF0 ((Wr.rf _).cI _ _ _ _) (chF_I (D := []) (F := [(95, 4)]) (by simp) (chF_r _ _ _)) (by decide)) 8 0 rfl v1 h1
  rw [z73_0] at f99
  have o00 : Int32.ofNat 0 = 0 := rfl
  rw [o00] at f99
  have e273 : ∀ (b' : TS) (w : Int32), FxR b' → tI b' 95 0 0 = 0 → (∀ z, Ex 204 [aR (some (95, 0)), aI v] (enc 2 b z) = some (.inl (some (aI w)), enc 2 b' z)) → ∀ z, Ex 273 [aR (some (97, 0)), aI v] (enc 2 b z) = some (.inl (some (aI w)), enc 2 (sI b' 97 0 8 0) z) := fun b' w hF' h0' hx z => by
    have f256 := fun v z => y256 (b := b') (z := z) (v := v) hF'
    rw [h0'] at f256
    refine (X_in (by decide +kernel) (frN_97 hFR) rfl).trans ((lf_273_0 ..).trans ?_)
    simp (config := {decide := true}) only [gfI_enc, gfL_enc, gfR_enc, pfI_enc, pfL_enc, pfR_enc, Option.bind_some, cI_v, cL_v, cF_v, cD_v, cR_v, cV_v, cI_x, cL_x, cR_x, cV_x, gz_0, gz_1, acc_enc, tI_sI, tL_sI, tR_sI, tN_sI, tZ_sI, tC_sI, tc_sI, tz_sI, tI_sL, tL_sL, tR_sL, tN_sL, tZ_sL, tC_sL, tc_sL, tz_sL, tI_sR, tL_sR, tR_sR, tN_sR, tZ_sR, tC_sR, tc_sR, tz_sR, tI_sZ, tL_sZ, tR_sZ, tN_sZ, tZ_sZ, tC_sZ, tc_sZ, tz_sZ, tI_sC, tL_sC, tR_sC, tN_sC, tZ_sC, tC_sC, tc_sC, tz_sC, tI_aC, tL_aC, tR_aC, tN_aC, tZ_aC, tC_aC, tc_aC, tz_aC, tI_rmL, tL_rmL, tR_rmL, tN_rmL, tZ_rmL, tC_rmL, tc_rmL, tz_rmL, tI_mk, tL_mk, tR_mk, tN_mk, tZ_mk, tC_mk, tc_mk, tz_mk, tI_pushL, tL_pushL, tR_pushL, tN_pushL, tZ_pushL, tC_pushL, tc_pushL, tz_pushL, tI_pushB, tL_pushB, tR_pushB, tN_pushB, tZ_pushB, tC_pushB, tc_pushB, tz_pushB, tI_cpL, tL_cpL, tR_cpL, tN_cpL, tZ_cpL, tC_cpL, tc_cpL, tz_cpL, eq_self, true_and, and_true, false_and, and_false, if_true, if_false, reduceIte, ite_true, ite_false, not_true_eq_false, not_false_eq_true, frN_97 hFR, frR_97_4 hFR, hx, f256]
  rcases bit01 hv with ev | ev
  · -- it closes
    subst ev
    by_cases ho : tI b 95 0 5 = 0
    · have eA : sI a 31 0 2 0 = a := sI_self a 31 0 2 (N7.trans ho)
      have eB : sI (sI b 95 0 0 0) 95 0 5 0 = sI b 95 0 0 0 := sI_self _ 95 0 5 (i5.trans ho)
      refine ⟨0, a, sI (sI b 95 0 0 0) 97 0 8 0, fun z => ?_, e273 _ 0 hF0 i0 (fun z => ?_), th_v, Core_th h0 th_c th_w, Wr.rf _, th95_w.t th_w, sam_r _ _, sam_t (sam_c (th95_c (b := b) (v := 0)) (by decide)) th_s⟩
      · refine (X_in (by decide +kernel) (fcN_96 hF) rfl).trans ((lf_112_0 ..).trans ?_)
        simp (config := {decide := true}) only [gfI_enc, gfL_enc, gfR_enc, pfI_enc, pfL_enc, pfR_enc, Option.bind_some, cI_v, cL_v, cF_v, cD_v, cR_v, cV_v, cI_x, cL_x, cR_x, cV_x, gz_0, gz_1, acc_enc, tI_sI, tL_sI, tR_sI, tN_sI, tZ_sI, tC_sI, tc_sI, tz_sI, tI_sL, tL_sL, tR_sL, tN_sL, tZ_sL, tC_sL, tc_sL, tz_sL, tI_sR, tL_sR, tR_sR, tN_sR, tZ_sR, tC_sR, tc_sR, tz_sR, tI_sZ, tL_sZ, tR_sZ, tN_sZ, tZ_sZ, tC_sZ, tc_sZ, tz_sZ, tI_sC, tL_sC, tR_sC, tN_sC, tZ_sC, tC_sC, tc_sC, tz_sC, tI_aC, tL_aC, tR_aC, tN_aC, tZ_aC, tC_aC, tc_aC, tz_aC, tI_rmL, tL_rmL, tR_rmL, tN_rmL, tZ_rmL, tC_rmL, tc_rmL, tz_rmL, tI_mk, tL_mk, tR_mk, tN_mk, tZ_mk, tC_mk, tc_mk, tz_mk, tI_pushL, tL_pushL, tR_pushL, tN_pushL, tZ_pushL, tC_pushL, tc_pushL, tz_pushL, tI_pushB, tL_pushB, tR_pushB, tN_pushB, tZ_pushB, tC_pushB, tc_pushB, tz_pushB, tI_cpL, tL_cpL, tR_cpL, tN_cpL, tZ_cpL, tC_cpL, tc_cpL, tz_cpL, eq_self, true_and, and_true, false_and, and_false, if_true, if_false, reduceIte, ite_true, ite_false, not_true_eq_false, not_false_eq_true, fcN_96 hF, fcR_96_7 hF, fcN_31 hF, eA]
      · refine (X_in (by decide +kernel) (frN_95 hFR) rfl).trans ((lf_204_0 ..).trans ?_)
        simp (config := {decide := true}) only [gfI_enc, gfL_enc, gfR_enc, pfI_enc, pfL_enc, pfR_enc, Option.bind_some, cI_v, cL_v, cF_v, cD_v, cR_v, cV_v, cI_x, cL_x, cR_x, cV_x, gz_0, gz_1, acc_enc, tI_sI, tL_sI, tR_sI, tN_sI, tZ_sI, tC_sI, tc_sI, tz_sI, tI_sL, tL_sL, tR_sL, tN_sL, tZ_sL, tC_sL, tc_sL, tz_sL, tI_sR, tL_sR, tR_sR, tN_sR, tZ_sR, tC_sR, tc_sR, tz_sR, tI_sZ, tL_sZ, tR_sZ, tN_sZ, tZ_sZ, tC_sZ, tc_sZ, tz_sZ, tI_sC, tL_sC, tR_sC, tN_sC, tZ_sC, tC_sC, tc_sC, tz_sC, tI_aC, tL_aC, tR_aC, tN_aC, tZ_aC, tC_aC, tc_aC, tz_aC, tI_rmL, tL_rmL, tR_rmL, tN_rmL, tZ_rmL, tC_rmL, tc_rmL, tz_rmL, tI_mk, tL_mk, tR_mk, tN_mk, tZ_mk, tC_mk, tc_mk, tz_mk, tI_pushL, tL_pushL, tR_pushL, tN_pushL, tZ_pushL, tC_pushL, tc_pushL, tz_pushL, tI_pushB, tL_pushB, tR_pushB, tN_pushB, tZ_pushB, tC_pushB, tc_pushB, tz_pushB, tI_cpL, tL_cpL, tR_cpL, tN_cpL, tZ_cpL, tC_cpL, tc_cpL, tz_cpL, eq_self, true_and, and_true, false_and, and_false, if_true, if_false, reduceIte, ite_true, ite_false, not_true_eq_false, not_false_eq_true, frN_95 hFR, f27, n0, ho, eB]
    · have hz := N6 ho
      have ho' : ¬ 0 = tI b 95 0 5 := fun e => ho e.symm
      obtain ⟨v1, v2, v3, v4⟩ := opB_v (sI b 95 0 0 0) 0
      have hR1 : R0 (sI a 31 0 2 0) (opB (sI b 95 0 0 0) 0) := by
        have := R0_op (R0_31 h0.1.1 0) 0
        rwa [sZ_self (sI a 31 0 2 0) 15 0 (show tZ (sI a 31 0 2 0) 15 0 = 0 from hz)] at this
      have ca : chF [1, 3, 4, 15] [(31, 2), (35, 1), (37, 14)] a (sI a 31 0 2 0) := chF_I (by simp) (chF_r _ _ _)
      have cb : chF [44, 53, 54, 55, 56, 61, 62, 63, 64, 73] [(94, 6), (95, 0), (95, 4), (95, 5)] b (opB (sI b 95 0 0 0) 0) := chF_t (chF_I (by simp) (chF_r _ _ _)) (chF_m (opB_c _ 0) (by simp) (by simp))
      have hc := core_open h rfl hR1 ca cb (fun _ => rfl) hz v1 v3 (by rw [tI_sI, if_pos ⟨rfl, rfl, rfl⟩]) v2
      refine ⟨0, sI a 31 0 2 0, sI (opB (sI b 95 0 0 0) 0) 97 0 8 0, fun z => ?_, e273 _ 0 (r_FR hR1) (v4.trans i0) (fun z => ?_), th_v, Core_th hc th_c th_w, (Wr.rf _).cI _ _ _ _, (th95_w.t (opB_w _ 0)).t th_w, sam_c ca (by decide), sam_t (sam_c cb (by decide)) th_s⟩
      · refine (X_in (by decide +kernel) (fcN_96 hF) rfl).trans ((lf_112_0 ..).trans ?_)
        simp (config := {decide := true}) only [gfI_enc, gfL_enc, gfR_enc, pfI_enc, pfL_enc, pfR_enc, Option.bind_some, cI_v, cL_v, cF_v, cD_v, cR_v, cV_v, cI_x, cL_x, cR_x, cV_x, gz_0, gz_1, acc_enc, tI_sI, tL_sI, tR_sI, tN_sI, tZ_sI, tC_sI, tc_sI, tz_sI, tI_sL, tL_sL, tR_sL, tN_sL, tZ_sL, tC_sL, tc_sL, tz_sL, tI_sR, tL_sR, tR_sR, tN_sR, tZ_sR, tC_sR, tc_sR, tz_sR, tI_sZ, tL_sZ, tR_sZ, tN_sZ, tZ_sZ, tC_sZ, tc_sZ, tz_sZ, tI_sC, tL_sC, tR_sC, tN_sC, tZ_sC, tC_sC, tc_sC, tz_sC, tI_aC, tL_aC, tR_aC, tN_aC, tZ_aC, tC_aC, tc_aC, tz_aC, tI_rmL, tL_rmL, tR_rmL, tN_rmL, tZ_rmL, tC_rmL, tc_rmL, tz_rmL, tI_mk, tL_mk, tR_mk, tN_mk, tZ_mk, tC_mk, tc_mk, tz_mk, tI_pushL, tL_pushL, tR_pushL, tN_pushL, tZ_pushL, tC_pushL, tc_pushL, tz_pushL, tI_pushB, tL_pushB, tR_pushB, tN_pushB, tZ_pushB, tC_pushB, tc_pushB, tz_pushB, tI_cpL, tL_cpL, tR_cpL, tN_cpL, tZ_cpL, tC_cpL, tc_cpL, tz_cpL, eq_self, true_and, and_true, false_and, and_false, if_true, if_false, reduceIte, ite_true, ite_false, not_true_eq_false, not_false_eq_true, fcN_96 hF, fcR_96_7 hF, fcN_31 hF]
      · refine (X_in (by decide +kernel) (frN_95 hFR) rfl).trans ((lf_204_0 ..).trans ?_)
        simp (config := {decide := true}) only [gfI_enc, gfL_enc, gfR_enc, pfI_enc, pfL_enc, pfR_enc, Option.bind_some, cI_v, cL_v, cF_v, cD_v, cR_v, cV_v, cI_x, cL_x, cR_x, cV_x, gz_0, gz_1, acc_enc, tI_sI, tL_sI, tR_sI, tN_sI, tZ_sI, tC_sI, tc_sI, tz_sI, tI_sL, tL_sL, tR_sL, tN_sL, tZ_sL, tC_sL, tc_sL, tz_sL, tI_sR, tL_sR, tR_sR, tN_sR, tZ_sR, tC_sR, tc_sR, tz_sR, tI_sZ, tL_sZ, tR_sZ, tN_sZ, tZ_sZ, tC_sZ, tc_sZ, tz_sZ, tI_sC, tL_sC, tR_sC, tN_sC, tZ_sC, tC_sC, tc_sC, tz_sC, tI_aC, tL_aC, tR_aC, tN_aC, tZ_aC, tC_aC, tc_aC, tz_aC, tI_rmL, tL_rmL, tR_rmL, tN_rmL, tZ_rmL, tC_rmL, tc_rmL, tz_rmL, tI_mk, tL_mk, tR_mk, tN_mk, tZ_mk, tC_mk, tc_mk, tz_mk, tI_pushL, tL_pushL, tR_pushL, tN_pushL, tZ_pushL, tC_pushL, tc_pushL, tz_pushL, tI_pushB, tL_pushB, tR_pushB, tN_pushB, tZ_pushB, tC_pushB, tc_pushB, tz_pushB, tI_cpL, tL_cpL, tR_cpL, tN_cpL, tZ_cpL, tC_cpL, tc_cpL, tz_cpL, eq_self, true_and, and_true, false_and, and_false, if_true, if_false, reduceIte, ite_true, ite_false, not_true_eq_false, not_false_eq_true, frN_95 hFR, f27, n0, ho', f99]
        rfl
  · -- it opens
    subst ev
    have one0 : ¬ (1 : Int32) = 0 := by decide
    by_cases ho : tI b 95 0 5 = 0
    · have P1 := (r_P' hR).1
      have hn2 : tZ a 15 0 ≤ 200 := Nat.le_trans (Nt_le h.1.2.1 P1) P1
      obtain ⟨a2, b2, x, y, hR2, ca, cb, wa, wb⟩ := note_loop (n := tZ a 15 0) hn2 (tZ a 15 0) 0 (sI a 31 0 2 1) (sI b 95 0 0 0) (Nat.zero_add _) (R0_31 h0.1.1 1) (fun j hj => by
        have caa : chF [] [(31, 2)] a (sI a 31 0 2 1) := chF_I (by simp) (chF_r _ _ _)
        have cbb : chF [] FtH b (sI b 95 0 0 0) := th95_c
        exact ntM_c (N3 j hj) (PM_c caa cbb (by decide) (by decide)) (gro_c caa (by decide)) rfl rfl (groQ_c cbb (by decide +kernel)) (by rw [tI_sI, if_neg (fun q => absurd q.1 (by decide))])) rfl
      obtain ⟨v1, v2, v3, v4⟩ := opB_v b2 1
      have hR3 := R0_op hR2 1
      have ca' : chF [1, 3, 4, 15] [(31, 2), (35, 1), (37, 14)] a (sZ a2 15 0 0) := chF_t (chF_I (by simp) (chF_r _ _ _)) (chF_t (chF_m ca (by simp) (by simp)) (chF_g (chg_sZ (by simp) (chg_r _ _))))
      have cb' : chF [44, 53, 54, 55, 56, 61, 62, 63, 64, 73] [(94, 6), (95, 0), (95, 4), (95, 5)] b (opB b2 1) := chF_t (chF_t (chF_I (by simp) (chF_r _ _ _)) (chF_m cb (by simp) (by simp))) (chF_m (opB_c _ 1) (by simp) (by simp))
      have i31 : tI a2 31 0 2 = 1 := by rw [dIS ca (S := [31]) (P := []) (s := 31) (by decide) (by simp), tI_sI, if_pos ⟨rfl, rfl, rfl⟩]
      have c15 : ∀ i, tC (sZ a2 15 0 0) 15 i = tC a 15 i := fun i => dC ca (S := [15]) (P := []) (s := 15) (by decide) (by simp) i
      have hc := core_open h rfl hR3 ca' cb' c15 (by rw [tZ_sZ, if_pos ⟨rfl, rfl⟩]) v1 v3 i31 v2
      have hF2 := r_FC hR2
      have hFR2 := r_FR hR2
      have z15 : tZ a2 15 0 = tZ a 15 0 := dZ ca (S := [15]) (P := []) (s := 15) (by decide) (by simp) 0
      have b95 : tI b2 95 0 5 = 0 := by rw [dIS cb (S := [95]) (P := []) (s := 95) (by decide) (by simp), i5]; exact ho
      have b950 : tI b2 95 0 0 = 0 := by rw [dIS cb (S := [95]) (P := []) (s := 95) (by decide) (by simp)]; exact i0
      have gnn : Int32.ofNat (tZ a 15 0) ≤ Int32.ofNat (tZ a 15 0) := Int32.le_refl _
      have f99' := fun v2 z => y204_99 (b := sI b2 95 0 4 0) (z := z) v2 (FxR_s hFR2 ((Wr.rf _).cI _ _ _ _) (chF_I (D := []) (F := [(95, 4)]) (by simp) (chF_r _ _ _)) (by decide)) 8 0 rfl 1 rfl
      have z73_0' : z73 (sI b2 95 0 4 0) 0 = sI b2 95 0 4 0 := rfl
      rw [z73_0', o00] at f99'
      refine ⟨Int32.ofNat (tZ a 15 0), _, sI (opB b2 1) 97 0 8 0, fun z => ?_, e273 _ _ (r_FR hR3) (v4.trans b950) (fun z => ?_), th_v, Core_th hc th_c th_w, ((((Wr.rf _).cI _ _ _ _).t wa).cZ _ _ (Or.inl (by decide +kernel))), ((th95_w.t wb).t (opB_w _ 1)).t th_w, sam_c ca' (by decide), sam_t (sam_c cb' (by decide)) th_s⟩
      · refine (X_in (by decide +kernel) (fcN_96 hF) rfl).trans ((lf_112_0 ..).trans ?_)
        simp (config := {decide := true}) only [gfI_enc, gfL_enc, gfR_enc, pfI_enc, pfL_enc, pfR_enc, Option.bind_some, cI_v, cL_v, cF_v, cD_v, cR_v, cV_v, cI_x, cL_x, cR_x, cV_x, gz_0, gz_1, acc_enc, tI_sI, tL_sI, tR_sI, tN_sI, tZ_sI, tC_sI, tc_sI, tz_sI, tI_sL, tL_sL, tR_sL, tN_sL, tZ_sL, tC_sL, tc_sL, tz_sL, tI_sR, tL_sR, tR_sR, tN_sR, tZ_sR, tC_sR, tc_sR, tz_sR, tI_sZ, tL_sZ, tR_sZ, tN_sZ, tZ_sZ, tC_sZ, tc_sZ, tz_sZ, tI_sC, tL_sC, tR_sC, tN_sC, tZ_sC, tC_sC, tc_sC, tz_sC, tI_aC, tL_aC, tR_aC, tN_aC, tZ_aC, tC_aC, tc_aC, tz_aC, tI_rmL, tL_rmL, tR_rmL, tN_rmL, tZ_rmL, tC_rmL, tc_rmL, tz_rmL, tI_mk, tL_mk, tR_mk, tN_mk, tZ_mk, tC_mk, tc_mk, tz_mk, tI_pushL, tL_pushL, tR_pushL, tN_pushL, tZ_pushL, tC_pushL, tc_pushL, tz_pushL, tI_pushB, tL_pushB, tR_pushB, tN_pushB, tZ_pushB, tC_pushB, tc_pushB, tz_pushB, tI_cpL, tL_cpL, tR_cpL, tN_cpL, tZ_cpL, tC_cpL, tc_cpL, tz_cpL, eq_self, true_and, and_true, false_and, and_false, if_true, if_false, reduceIte, ite_true, ite_false, not_true_eq_false, not_false_eq_true, fcN_96 hF, fcR_96_7 hF, fcN_31 hF, one0, fcR_31_0 hF, X405, fcN_15 hF]
        refine (x _ z).trans ?_
        rw [lf_112_30]
        simp (config := {decide := true}) only [gfI_enc, gfL_enc, gfR_enc, pfI_enc, pfL_enc, pfR_enc, Option.bind_some, cI_v, cL_v, cF_v, cD_v, cR_v, cV_v, cI_x, cL_x, cR_x, cV_x, gz_0, gz_1, acc_enc, tI_sI, tL_sI, tR_sI, tN_sI, tZ_sI, tC_sI, tc_sI, tz_sI, tI_sL, tL_sL, tR_sL, tN_sL, tZ_sL, tC_sL, tc_sL, tz_sL, tI_sR, tL_sR, tR_sR, tN_sR, tZ_sR, tC_sR, tc_sR, tz_sR, tI_sZ, tL_sZ, tR_sZ, tN_sZ, tZ_sZ, tC_sZ, tc_sZ, tz_sZ, tI_sC, tL_sC, tR_sC, tN_sC, tZ_sC, tC_sC, tc_sC, tz_sC, tI_aC, tL_aC, tR_aC, tN_aC, tZ_aC, tC_aC, tc_aC, tz_aC, tI_rmL, tL_rmL, tR_rmL, tN_rmL, tZ_rmL, tC_rmL, tc_rmL, tz_rmL, tI_mk, tL_mk, tR_mk, tN_mk, tZ_mk, tC_mk, tc_mk, tz_mk, tI_pushL, tL_pushL, tR_pushL, tN_pushL, tZ_pushL, tC_pushL, tc_pushL, tz_pushL, tI_pushB, tL_pushB, tR_pushB, tN_pushB, tZ_pushB, tC_pushB, tc_pushB, tz_pushB, tI_cpL, tL_cpL, tR_cpL, tN_cpL, tZ_cpL, tC_cpL, tc_cpL, tz_cpL, eq_self, true_and, and_true, false_and, and_false, if_true, if_false, reduceIte, ite_true, ite_false, not_true_eq_false, not_false_eq_true, X405, fcN_15 hF2, z15, gnn, X407]
      · refine (X_in (by decide +kernel) (frN_95 hFR) rfl).trans ((lf_204_0 ..).trans ?_)
        simp (config := {decide := true}) only [gfI_enc, gfL_enc, gfR_enc, pfI_enc, pfL_enc, pfR_enc, Option.bind_some, cI_v, cL_v, cF_v, cD_v, cR_v, cV_v, cI_x, cL_x, cR_x, cV_x, gz_0, gz_1, acc_enc, tI_sI, tL_sI, tR_sI, tN_sI, tZ_sI, tC_sI, tc_sI, tz_sI, tI_sL, tL_sL, tR_sL, tN_sL, tZ_sL, tC_sL, tc_sL, tz_sL, tI_sR, tL_sR, tR_sR, tN_sR, tZ_sR, tC_sR, tc_sR, tz_sR, tI_sZ, tL_sZ, tR_sZ, tN_sZ, tZ_sZ, tC_sZ, tc_sZ, tz_sZ, tI_sC, tL_sC, tR_sC, tN_sC, tZ_sC, tC_sC, tc_sC, tz_sC, tI_aC, tL_aC, tR_aC, tN_aC, tZ_aC, tC_aC, tc_aC, tz_aC, tI_rmL, tL_rmL, tR_rmL, tN_rmL, tZ_rmL, tC_rmL, tc_rmL, tz_rmL, tI_mk, tL_mk, tR_mk, tN_mk, tZ_mk, tC_mk, tc_mk, tz_mk, tI_pushL, tL_pushL, tR_pushL, tN_pushL, tZ_pushL, tC_pushL, tc_pushL, tz_pushL, tI_pushB, tL_pushB, tR_pushB, tN_pushB, tZ_pushB, tC_pushB, tc_pushB, tz_pushB, tI_cpL, tL_cpL, tR_cpL, tN_cpL, tZ_cpL, tC_cpL, tc_cpL, tz_cpL, eq_self, true_and, and_true, false_and, and_false, if_true, if_false, reduceIte, ite_true, ite_false, not_true_eq_false, not_false_eq_true, frN_95 hFR, one0, ho, N2]
        refine (y z).trans ?_
        rw [lf_204_27]
        simp (config := {decide := true}) only [gfI_enc, gfL_enc, gfR_enc, pfI_enc, pfL_enc, pfR_enc, Option.bind_some, cI_v, cL_v, cF_v, cD_v, cR_v, cV_v, cI_x, cL_x, cR_x, cV_x, gz_0, gz_1, acc_enc, tI_sI, tL_sI, tR_sI, tN_sI, tZ_sI, tC_sI, tc_sI, tz_sI, tI_sL, tL_sL, tR_sL, tN_sL, tZ_sL, tC_sL, tc_sL, tz_sL, tI_sR, tL_sR, tR_sR, tN_sR, tZ_sR, tC_sR, tc_sR, tz_sR, tI_sZ, tL_sZ, tR_sZ, tN_sZ, tZ_sZ, tC_sZ, tc_sZ, tz_sZ, tI_sC, tL_sC, tR_sC, tN_sC, tZ_sC, tC_sC, tc_sC, tz_sC, tI_aC, tL_aC, tR_aC, tN_aC, tZ_aC, tC_aC, tc_aC, tz_aC, tI_rmL, tL_rmL, tR_rmL, tN_rmL, tZ_rmL, tC_rmL, tc_rmL, tz_rmL, tI_mk, tL_mk, tR_mk, tN_mk, tZ_mk, tC_mk, tc_mk, tz_mk, tI_pushL, tL_pushL, tR_pushL, tN_pushL, tZ_pushL, tC_pushL, tc_pushL, tz_pushL, tI_pushB, tL_pushB, tR_pushB, tN_pushB, tZ_pushB, tC_pushB, tc_pushB, tz_pushB, tI_cpL, tL_cpL, tR_cpL, tN_cpL, tZ_cpL, tC_cpL, tc_cpL, tz_cpL, eq_self, true_and, and_true, false_and, and_false, if_true, if_false, reduceIte, ite_true, ite_false, not_true_eq_false, not_false_eq_true, gnn, frN_95 hFR2, b95, one0, f99']
        rfl
    · have hz := N6 ho
      have ho1 : tI b 95 0 5 = 1 := bit_1 N8 ho
      have eA : sI a 31 0 2 1 = a := sI_self a 31 0 2 (N7.trans ho1)
      have eB : sI (sI b 95 0 0 0) 95 0 5 1 = sI b 95 0 0 0 := sI_self _ 95 0 5 (i5.trans ho1)
      have eZ : sZ a 15 0 0 = a := sZ_self a 15 0 hz
      refine ⟨0, a, sI (sI b 95 0 0 0) 97 0 8 0, fun z => ?_, e273 _ 0 hF0 i0 (fun z => ?_), th_v, Core_th h0 th_c th_w, Wr.rf _, th95_w.t th_w, sam_r _ _, sam_t (sam_c (th95_c (b := b) (v := 0)) (by decide)) th_s⟩
      · refine (X_in (by decide +kernel) (fcN_96 hF) rfl).trans ((lf_112_0 ..).trans ?_)
        simp (config := {decide := true}) only [gfI_enc, gfL_enc, gfR_enc, pfI_enc, pfL_enc, pfR_enc, Option.bind_some, cI_v, cL_v, cF_v, cD_v, cR_v, cV_v, cI_x, cL_x, cR_x, cV_x, gz_0, gz_1, acc_enc, tI_sI, tL_sI, tR_sI, tN_sI, tZ_sI, tC_sI, tc_sI, tz_sI, tI_sL, tL_sL, tR_sL, tN_sL, tZ_sL, tC_sL, tc_sL, tz_sL, tI_sR, tL_sR, tR_sR, tN_sR, tZ_sR, tC_sR, tc_sR, tz_sR, tI_sZ, tL_sZ, tR_sZ, tN_sZ, tZ_sZ, tC_sZ, tc_sZ, tz_sZ, tI_sC, tL_sC, tR_sC, tN_sC, tZ_sC, tC_sC, tc_sC, tz_sC, tI_aC, tL_aC, tR_aC, tN_aC, tZ_aC, tC_aC, tc_aC, tz_aC, tI_rmL, tL_rmL, tR_rmL, tN_rmL, tZ_rmL, tC_rmL, tc_rmL, tz_rmL, tI_mk, tL_mk, tR_mk, tN_mk, tZ_mk, tC_mk, tc_mk, tz_mk, tI_pushL, tL_pushL, tR_pushL, tN_pushL, tZ_pushL, tC_pushL, tc_pushL, tz_pushL, tI_pushB, tL_pushB, tR_pushB, tN_pushB, tZ_pushB, tC_pushB, tc_pushB, tz_pushB, tI_cpL, tL_cpL, tR_cpL, tN_cpL, tZ_cpL, tC_cpL, tc_cpL, tz_cpL, eq_self, true_and, and_true, false_and, and_false, if_true, if_false, reduceIte, ite_true, ite_false, not_true_eq_false, not_false_eq_true, fcN_96 hF, fcR_96_7 hF, fcN_31 hF, one0, eA, fcR_31_0 hF, X405, fcN_15 hF, hz, o00, f30, n0, X407, eZ]
      · refine (X_in (by decide +kernel) (frN_95 hFR) rfl).trans ((lf_204_0 ..).trans ?_)
        simp (config := {decide := true}) only [gfI_enc, gfL_enc, gfR_enc, pfI_enc, pfL_enc, pfR_enc, Option.bind_some, cI_v, cL_v, cF_v, cD_v, cR_v, cV_v, cI_x, cL_x, cR_x, cV_x, gz_0, gz_1, acc_enc, tI_sI, tL_sI, tR_sI, tN_sI, tZ_sI, tC_sI, tc_sI, tz_sI, tI_sL, tL_sL, tR_sL, tN_sL, tZ_sL, tC_sL, tc_sL, tz_sL, tI_sR, tL_sR, tR_sR, tN_sR, tZ_sR, tC_sR, tc_sR, tz_sR, tI_sZ, tL_sZ, tR_sZ, tN_sZ, tZ_sZ, tC_sZ, tc_sZ, tz_sZ, tI_sC, tL_sC, tR_sC, tN_sC, tZ_sC, tC_sC, tc_sC, tz_sC, tI_aC, tL_aC, tR_aC, tN_aC, tZ_aC, tC_aC, tc_aC, tz_aC, tI_rmL, tL_rmL, tR_rmL, tN_rmL, tZ_rmL, tC_rmL, tc_rmL, tz_rmL, tI_mk, tL_mk, tR_mk, tN_mk, tZ_mk, tC_mk, tc_mk, tz_mk, tI_pushL, tL_pushL, tR_pushL, tN_pushL, tZ_pushL, tC_pushL, tc_pushL, tz_pushL, tI_pushB, tL_pushB, tR_pushB, tN_pushB, tZ_pushB, tC_pushB, tc_pushB, tz_pushB, tI_cpL, tL_cpL, tR_cpL, tN_cpL, tZ_cpL, tC_cpL, tc_cpL, tz_cpL, eq_self, true_and, and_true, false_and, and_false, if_true, if_false, reduceIte, ite_true, ite_false, not_true_eq_false, not_false_eq_true, frN_95 hFR, one0, ho1, f27, n0, eB]
