/-! ===== the issuer opens and closes (class alone) ===== -/
theorem x112_30 {a b a1 : TS} {z : Hp} {n i i' : Nat} (v3 : Int32) (hR : R0 a b) (hn : tZ a 15 0 = n) (hn2 : n ≤ 200) (hi : i < n) (h15 : tR a 15 0 i = some (17, i')) (hi' : i' < tN a 17) (f21 : ∀ z, Ex 21 [aR (some (30, 0)), aR (some (17, i'))] (enc 1 a z) = some (.inl none, enc 1 a1 z)) :
    Ru 112 30 [(0, aR (some (96, 0))), (2, aR (some (15, 0))), (3, aI v3), (4, aI (Int32.ofNat i))] [] (enc 1 a z) = Ru 112 30 [(0, aR (some (96, 0))), (2, aR (some (15, 0))), (3, aI v3), (4, aI (Int32.ofNat (i + 1)))] [] (enc 1 a1 z) := by
  have hF := r_FC hR
  have g1 : (Int32.ofNat i).toNatClampNeg = i := o_ix (by omega)
  have g2 : ¬ Int32.ofNat i < 0 := o_lt0 (by omega)
  have g3 : ¬ Int32.ofNat n ≤ Int32.ofNat i := by rw [o_le (by omega) (by omega)]; omega
  rw [lf_112_30]
  simp (config := {decide := true}) only [gfI_enc, gfL_enc, gfR_enc, pfI_enc, pfL_enc, pfR_enc, Option.bind_some, cI_v, cL_v, cF_v, cD_v, cR_v, cV_v, cI_x, cL_x, cR_x, cV_x, gz_0, gz_1, acc_enc, tI_sI, tL_sI, tR_sI, tN_sI, tZ_sI, tC_sI, tc_sI, tz_sI, tI_sL, tL_sL, tR_sL, tN_sL, tZ_sL, tC_sL, tc_sL, tz_sL, tI_sR, tL_sR, tR_sR, tN_sR, tZ_sR, tC_sR, tc_sR, tz_sR, tI_sZ, tL_sZ, tR_sZ, tN_sZ, tZ_sZ, tC_sZ, tc_sZ, tz_sZ, tI_sC, tL_sC, tR_sC, tN_sC, tZ_sC, tC_sC, tc_sC, tz_sC, tI_aC, tL_aC, tR_aC, tN_aC, tZ_aC, tC_aC, tc_aC, tz_aC, tI_rmL, tL_rmL, tR_rmL, tN_rmL, tZ_rmL, tC_rmL, tc_rmL, tz_rmL, tI_mk, tL_mk, tR_mk, tN_mk, tZ_mk, tC_mk, tc_mk, tz_mk, tI_pushL, tL_pushL, tR_pushL, tN_pushL, tZ_pushL, tC_pushL, tc_pushL, tz_pushL, tI_pushB, tL_pushB, tR_pushB, tN_pushB, tZ_pushB, tC_pushB, tc_pushB, tz_pushB, tI_cpL, tL_cpL, tR_cpL, tN_cpL, tZ_cpL, tC_cpL, tc_cpL, tz_cpL, eq_self, true_and, and_true, false_and, and_false, if_true, if_false, reduceIte, ite_true, ite_false, not_true_eq_false, not_false_eq_true, X405, X402, fcN_15 hF, hn, g1, g2, g3, hi, h15, acc_enc, hi', fcN_96 hF, fcR_96_6 hF, f21, o_s]
/-- a note is heard -/
def EvN (a b a' b' : TS) : Prop := ∃ k p cd c, k < tZ a 15 0 ∧ ntP a k = Int32.ofNat p ∧ p < tZ a 29 0 ∧ cd < tZ a 28 0 ∧ c < 201 ∧ (tI b 87 0 (10 * p + 1) = Int32.ofNat cd ∧ tI b 87 0 (10 * p + 4) = Int32.ofNat c) ∧ NoteP b b' p cd c (tI b 87 0 (10 * p + 3)) ∧
  chF [1, 3, 4] [(35, 1), (37, 14)] a a' ∧ chF [44, 53, 54, 55, 56, 61, 62, 63, 64] [(94, 6)] b b' ∧ R0 a b ∧ R0 a' b'
/-- another payment has its card and counter -/
def Dup (b : TS) (p : Nat) : Prop := ∃ N q, tI b 93 0 8 = Int32.ofNat N ∧ N ≤ 200 ∧ q < N ∧ q ≠ p ∧ tI b 87 0 (10 * q + 1) = tI b 87 0 (10 * p + 1) ∧ tI b 87 0 (10 * q + 4) = tI b 87 0 (10 * p + 4)
theorem NoteP_7 {b b' : TS} {p cd c : Nat} {m : Int32} (h : NoteP b b' p cd c m) (n : Nat) (hn : n < 1000) (h7 : hI b n 7 ≠ 0) : hI b' n 7 ≠ 0 := by
  rcases h with ⟨N, q, -, -, -, -, -, -, h8, -⟩ | ⟨t, -, -, h8, -⟩
  · rw [h8 n 7 hn]
    exact h7
  · rw [h8 n 7 hn, if_neg (fun q => absurd q.2.2 (by decide)), if_neg (fun q => absurd q.2.2 (by decide))]
    split
    · decide
    · exact h7
theorem NoteP_p {b b' : TS} {p cd c : Nat} {m : Int32} (h : NoteP b b' p cd c m) (hp : p < 1000) (h1 : tI b 87 0 (10 * p + 1) = Int32.ofNat cd) (h4 : tI b 87 0 (10 * p + 4) = Int32.ofNat c) : hI b' p 7 ≠ 0 ∨ Dup b p := by
  rcases h with ⟨N, q, k1, k2, k3, k4, k5, k6, -⟩ | ⟨t, -, -, h8, -⟩
  · exact Or.inr ⟨N, q, k1, k2, k3, k4, k5.trans h1.symm, k6.trans h4.symm⟩
  · refine Or.inl ?_
    rw [h8 p 7 hp, if_neg (fun q => absurd q.2.2 (by decide)), if_neg (fun q => absurd q.2.2 (by decide)), if_pos ⟨rfl, rfl⟩]
    decide
theorem note_loop {n : Nat} (hn2 : n ≤ 200) : ∀ k i a b, i + k = n → R0 a b → (∀ j, j < n → ntM a b j) → tZ a 15 0 = n →
    ∃ a' b', (∀ v3 z, Ru 112 30 [(0, aR (some (96, 0))), (2, aR (some (15, 0))), (3, aI v3), (4, aI (Int32.ofNat i))] [] (enc 1 a z) = Ru 112 30 [(0, aR (some (96, 0))), (2, aR (some (15, 0))), (3, aI v3), (4, aI (Int32.ofNat n))] [] (enc 1 a' z)) ∧
      R0 a' b' ∧ chF [1, 3, 4] [(35, 1), (37, 14)] a a' ∧ chF [44, 53, 54, 55, 56, 61, 62, 63, 64] [(94, 6)] b b' ∧ Wr a a' ∧ Wr b b' ∧ StpE EvN a b a' b' ∧ (∀ n', n' < 1000 → hI b n' 7 ≠ 0 → hI b' n' 7 ≠ 0) ∧ (∀ j, i ≤ j → j < n → ∃ p, p < tZ a 29 0 ∧ ntP a j = Int32.ofNat p ∧ (hI b' p 7 ≠ 0 ∨ Dup b p)) := by
  intro k
  induction k with
  | zero =>
    intro i a b hk hR hM hz
    have : i = n := by omega
    subst this
    exact ⟨a, b, fun _ _ => rfl, hR, chF_r _ _ _, chF_r _ _ _, Wr.rf _, Wr.rf _, StpE_r a b, fun _ _ h => h, fun j h1 h2 => by omega⟩
  | succ k ih =>
    intro i a b hk hR hM hz
    obtain ⟨i', q, p, cd, c, sh, i1, i2, i3, i4, i5, i6, i7, i8, i9, ⟨j1, j2, j3, j4, j5, j6⟩, ⟨k1, k2, k3, k4, k5⟩, k6, l1, l2, l3⟩ := hM i (by omega)
    have hpos := (r_P' hR).2.2.2.2.1 p i6
    have h200 := (r_P' hR).1
    have hm0 : 0 < tI b 87 0 (10 * p + 3) := hpos.2.2.2.2.1.2.1
    obtain ⟨a1, b1, x, y, hR1, ca, cb, wa, wb, hNP⟩ := sim_note (m := tI b 87 0 (10 * p + 3)) (st := pst b p 2) hR i6 i1 j1 j2 j3 j4 j5 j6 i7 i8 l1 l2 rfl l3 rfl hm0
    have hPM : PM a a1 b b1 := PM_c ca cb (by decide) (by decide)
    have g17 : gro a a1 17 := gro_c ca (by decide)
    have gq' : groQ b b1 := groQ_c cb (by decide +kernel)
    have z15 : tZ a1 15 0 = tZ a 15 0 := dZ ca (S := [15]) (P := []) (s := 15) (by decide) (by simp) 0
    have z29 : tZ a1 29 0 = tZ a 29 0 := dZ ca (S := [29]) (P := []) (s := 29) (by decide) (by simp) 0
    have e87 : ∀ j, tI b1 87 0 j = tI b 87 0 j := dIS cb (S := [87]) (P := []) (s := 87) (by decide) (by simp) 0
    have e93 : tI b1 93 0 8 = tI b 93 0 8 := dIS cb (S := [93]) (P := []) (s := 93) (by decide) (by simp) 0 8
    have eNP : ntP a i = Int32.ofNat p := by
      unfold ntP
      rw [i2]
      exact j1
    obtain ⟨a2, b2, x2, hR2, ca2, cb2, wa2, wb2, s2, h7, hall⟩ := ih (i + 1) a1 b1 (by omega) hR1 (fun j hj => ntM_c (hM j hj) hPM g17 (dR ca (S := [15]) (P := []) (s := 15) (by decide) (by simp) 0 j) (dR cb (S := [71]) (P := []) (s := 71) (by decide) (by simp) 0 j) gq' (dIS cb (S := [72]) (P := []) (s := 72) (by decide) (by simp) 0 j)) (by rw [z15]; exact hz)
    refine ⟨a2, b2, fun v3 z => (x112_30 v3 hR hz hn2 (by omega) i2 i1 x).trans (x2 v3 z), hR2, chF_t ca ca2, chF_t cb cb2, wa.t wa2, wb.t wb2, StpE_t (StpE_1 ⟨i, p, cd, c, by omega, eNP, i6, i7, i8, ⟨l1, l3⟩, hNP, ca, cb, hR, hR1⟩) s2, fun n' hn h => h7 n' hn (NoteP_7 hNP n' hn h), fun j h1 h2 => ?_⟩
    by_cases e : j = i
    · subst e
      refine ⟨p, i6, eNP, ?_⟩
      rcases NoteP_p hNP (by omega) l1 l3 with w | w
      · exact Or.inl (h7 p (by omega) w)
      · exact Or.inr w
    · obtain ⟨p', q1, q2, q3⟩ := hall j (by omega) h2
      refine ⟨p', by rw [← z29]; exact q1, ?_, q3.imp id (fun ⟨N, q', w1, w2, w3, w4, w5, w6⟩ => ⟨N, q', by rw [← e93]; exact w1, w2, w3, w4, by rw [← e87, ← e87]; exact w5, by rw [← e87, ← e87]; exact w6⟩)⟩
      rw [← q2]
      exact ((ntPC_c (hM j h2) g17 (dR ca (S := [15]) (P := []) (s := 15) (by decide) (by simp) 0 j)).1).symm
/-- the counts of the switch begin anew -/
def z73 (b : TS) (k : Nat) : TS := cpL b 73 0 (fun _ => 0) (List.range k)
theorem z73_s (b : TS) (k : Nat) : z73 b (k + 1) = sI (z73 b k) 73 0 k 0 := by
  unfold z73 cpL
  rw [List.range_succ, List.foldl_append]
  rfl
theorem z73_c (b : TS) (k : Nat) : chF [73] [] b (z73 b k) := chF_g (chg_cpL (by simp) (chg_r _ _))
theorem z73_w (b : TS) (k : Nat) : Wr b (z73 b k) := Wr.cpL (Wr.rf _) _ _ _ _
theorem sZ_self (m : TS) (s i : Nat) {n : Nat} (h : tZ m s i = n) : sZ m s i n = m := by
  obtain ⟨f1, f2, f3, f4, f5, f6, f7, f8⟩ := m
  have e : uq2 f5 s i n = f5 := by
    funext s' i'
    unfold uq2
    split
    · rename_i e
      rw [e.1, e.2]
      exact h.symm
    · rfl
  show (f1, f2, f3, f4, uq2 f5 s i n, f6, f7, f8) = (f1, f2, f3, f4, f5, f6, f7, f8)
  rw [e]
/-- it is open, or closed, then: no notes are left -/
theorem core_open {a b a' b' : TS} {C : Nat} {v : Int32} (h : Core a b C) (hv : bitOk v = true) (hR' : R0 a' b')
    (ca : chF [1, 3, 4, 15] [(31, 2), (35, 1), (37, 14)] a a') (cb : chF [44, 53, 54, 55, 56, 61, 62, 63, 64, 73] [(94, 6), (95, 0), (95, 4), (95, 5)] b b') (c15 : ∀ i, tC a' 15 i = tC a 15 i) (z15 : tZ a' 15 0 = 0) (i4 : tI b' 95 0 4 = 0) (i73 : ∀ k, k < 8 → tI b' 73 0 k = 0) (o1 : tI a' 31 0 2 = v) (o2 : tI b' 95 0 5 = v) : Core a' b' C := by
  obtain ⟨⟨n1, n2, n3⟩, -⟩ := h.1.2.1
  refine Core_n h hR' ⟨⟨by rw [z15]; exact Nat.zero_le _, by rw [c15]; exact n2, by rw [c15]; exact n3⟩, by rw [i4, z15]; rfl, fun k hk => ?_, fun k k' hk hk' => ?_, fun cd hcd => ?_, fun _ => z15, by rw [o1, o2], by rw [o2]; exact hv⟩ ca cb (by decide) (by decide) (by decide) (groQ_c cb (by decide +kernel))
  · rw [z15] at hk
    exact absurd hk (Nat.not_lt_zero _)
  · rw [z15] at hk'
    exact absurd hk' (Nat.not_lt_zero _)
  · rw [i73 cd hcd, z15]
    rfl
theorem R0_31 {a b : TS} (h : R0 a b) (v : Int32) : R0 (sI a 31 0 2 v) b := by
  have ha : chF [] [(31, 2)] a (sI a 31 0 2 v) := chF_I (by simp) (chF_r _ _ _)
  have hb : chF [] [] b b := chF_r _ _ _
  have wa : Wr a (sI a 31 0 2 v) := (Wr.rf _).cI _ _ _ _
  have wb : Wr b b := Wr.rf _
  obtain ⟨hFC, hFR, hB, hS, hM, hW, hV, hC, hD, hE, hP, hQ, hH, hK, hG, hO, hZ⟩ := h
  exact ⟨FxC_s hFC wa ha (by decide), FxR_s hFR wb hb (by decide), RB_c hB ha hb (by decide) (by decide), RS_c hS ha hb (by decide) (by decide), RM_c hM ha hb (by decide) (by decide), RW_c hW ha hb (by decide) (by decide), RV_c hV ha hb (by decide) (by decide), RC_c hC ha hb (by decide) (by decide), RD_c hD ha hb (by decide) (by decide), RE_c hE ha hb (by decide) (by decide), RP_c hP ha hb (by decide) (by decide), RQ_c hQ ha hb (by decide) (by decide), RH_c hH ha hb (by decide) (by decide), RK_c hK ha hb (by decide) (by decide) (gro_c ha (by decide)) (gro_c ha (by decide)) (gro_c ha (by decide)) (gro_c ha (by decide)), RG_c hG ha hb (by decide) (by decide), RO_c hO ha hb (by decide) (by decide), RZ_c hZ ha hb (by decide) (by decide)⟩
def opB (b : TS) (v : Int32) : TS := sI (z73 (sI b 95 0 4 0) 8) 95 0 5 v
theorem opB_c (b : TS) (v : Int32) : chF [73] [(95, 4), (95, 5)] b (opB b v) := chF_I (by simp) (chF_t (chF_I (by simp) (chF_r _ _ _)) (chF_m (z73_c _ 8) (by simp) (by simp)))
theorem opB_w (b : TS) (v : Int32) : Wr b (opB b v) := (((Wr.rf _).cI _ _ _ _).t (z73_w _ 8)).cI _ _ _ _
theorem opB_v (b : TS) (v : Int32) : tI (opB b v) 95 0 4 = 0 ∧ tI (opB b v) 95 0 5 = v ∧ (∀ k, k < 8 → tI (opB b v) 73 0 k = 0) ∧ tI (opB b v) 95 0 0 = tI b 95 0 0 := by
  unfold opB z73
  refine ⟨?_, ?_, fun k hk => ?_, ?_⟩
  · rw [tI_sI, if_neg (fun q => absurd q.2.2 (by decide)), tI_cpL, if_neg (fun q => absurd q.1 (by decide)), tI_sI, if_pos ⟨rfl, rfl, rfl⟩]
  · rw [tI_sI, if_pos ⟨rfl, rfl, rfl⟩]
  · rw [tI_sI, if_neg (fun q => absurd q.1 (by decide)), tI_cpL, if_pos ⟨rfl, rfl, List.mem_range.mpr hk⟩]
  · rw [tI_sI, if_neg (fun q => absurd q.2.2 (by decide)), tI_cpL, if_neg (fun q => absurd q.1 (by decide)), tI_sI, if_neg (fun q => absurd q.2.2 (by decide))]
theorem R0_op {a b : TS} (h : R0 a b) (v : Int32) : R0 (sZ a 15 0 0) (opB b v) := by
  have ha : chF [15] [] a (sZ a 15 0 0) := chF_g (chg_sZ (by simp) (chg_r _ _))
  have hb := opB_c b v
  have wa : Wr a (sZ a 15 0 0) := (Wr.rf _).cZ _ _ (Or.inl (by decide +kernel))
  have wb := opB_w b v
  obtain ⟨hFC, hFR, hB, hS, hM, hW, hV, hC, hD, hE, hP, hQ, hH, hK, hG, hO, hZ⟩ := h
  exact ⟨FxC_s hFC wa ha (by decide), FxR_s hFR wb hb (by decide), RB_c hB ha hb (by decide) (by decide), RS_c hS ha hb (by decide) (by decide), RM_c hM ha hb (by decide) (by decide), RW_c hW ha hb (by decide) (by decide), RV_c hV ha hb (by decide) (by decide), RC_c hC ha hb (by decide) (by decide), RD_c hD ha hb (by decide) (by decide), RE_c hE ha hb (by decide) (by decide), RP_c hP ha hb (by decide) (by decide), RQ_c hQ ha hb (by decide) (by decide), RH_c hH ha hb (by decide) (by decide), RK_c hK ha hb (by decide) (by decide) (gro_c ha (by decide)) (gro_c ha (by decide)) (gro_c ha (by decide)) (gro_c ha (by decide)), RG_c hG ha hb (by decide) (by decide), RO_c hO ha hb (by decide) (by decide), RZ_c hZ ha hb (by decide) (by decide)⟩
/-- it closes -/
theorem oc_close {a b : TS} {C : Nat} (h : Core a b C) :
    ∃ a' b', (∀ z, Ex 111 [aR (some (96, 0)), aI 0] (enc 1 a z) = some (.inl (some (aI 0)), enc 1 a' z)) ∧ Core a' b' C ∧ Wr a a' ∧ tI b' 95 0 5 = 0 ∧ (tI b 95 0 5 = 0 ∧ a' = a ∧ b' = b ∨ tI b 95 0 5 ≠ 0 ∧ tZ a 15 0 = 0 ∧ chF [] [(31, 2)] a a' ∧ chF [73] [(95, 4), (95, 5)] b b') := by
  have hR := h.1.1
  have hF := r_FC hR
  obtain ⟨N1, N2, N3, N4, N5, N6, N7, N8⟩ := h.1.2.1
  have n0 : (0 : Int32) ≤ 0 := by decide
  have gz0 : ∀ r, gz 0 r = r := fun r => gz_b rfl
  by_cases ho : tI b 95 0 5 = 0
  · have eA : sI a 31 0 2 0 = a := sI_self a 31 0 2 (N7.trans ho)
    refine ⟨a, b, fun z => ?_, h, Wr.rf _, ho, Or.inl ⟨ho, rfl, rfl⟩⟩
    have f112 : ∀ z, Ex 112 [aR (some (96, 0)), aI 0] (enc 1 a z) = some (.inl (some (aI 0)), enc 1 a z) := fun z => by
      refine (X_in (by decide +kernel) (fcN_96 hF) rfl).trans ((lf_112_0 ..).trans ?_)
      simp (config := {decide := true}) only [gfI_enc, gfL_enc, gfR_enc, pfI_enc, pfL_enc, pfR_enc, Option.bind_some, cI_v, cL_v, cF_v, cD_v, cR_v, cV_v, cI_x, cL_x, cR_x, cV_x, gz_0, gz_1, acc_enc, tI_sI, tL_sI, tR_sI, tN_sI, tZ_sI, tC_sI, tc_sI, tz_sI, tI_sL, tL_sL, tR_sL, tN_sL, tZ_sL, tC_sL, tc_sL, tz_sL, tI_sR, tL_sR, tR_sR, tN_sR, tZ_sR, tC_sR, tc_sR, tz_sR, tI_sZ, tL_sZ, tR_sZ, tN_sZ, tZ_sZ, tC_sZ, tc_sZ, tz_sZ, tI_sC, tL_sC, tR_sC, tN_sC, tZ_sC, tC_sC, tc_sC, tz_sC, tI_aC, tL_aC, tR_aC, tN_aC, tZ_aC, tC_aC, tc_aC, tz_aC, tI_rmL, tL_rmL, tR_rmL, tN_rmL, tZ_rmL, tC_rmL, tc_rmL, tz_rmL, tI_mk, tL_mk, tR_mk, tN_mk, tZ_mk, tC_mk, tc_mk, tz_mk, tI_pushL, tL_pushL, tR_pushL, tN_pushL, tZ_pushL, tC_pushL, tc_pushL, tz_pushL, tI_pushB, tL_pushB, tR_pushB, tN_pushB, tZ_pushB, tC_pushB, tc_pushB, tz_pushB, tI_cpL, tL_cpL, tR_cpL, tN_cpL, tZ_cpL, tC_cpL, tc_cpL, tz_cpL, eq_self, true_and, and_true, false_and, and_false, if_true, if_false, reduceIte, ite_true, ite_false, not_true_eq_false, not_false_eq_true, fcN_96 hF, fcR_96_7 hF, fcN_31 hF, eA]
    refine (X_in (by decide +kernel) (fcN_96 hF) rfl).trans ((lf_111_0 ..).trans ?_)
    simp (config := {decide := true}) only [gfI_enc, gfL_enc, gfR_enc, pfI_enc, pfL_enc, pfR_enc, Option.bind_some, cI_v, cL_v, cF_v, cD_v, cR_v, cV_v, cI_x, cL_x, cR_x, cV_x, gz_0, gz_1, acc_enc, tI_sI, tL_sI, tR_sI, tN_sI, tZ_sI, tC_sI, tc_sI, tz_sI, tI_sL, tL_sL, tR_sL, tN_sL, tZ_sL, tC_sL, tc_sL, tz_sL, tI_sR, tL_sR, tR_sR, tN_sR, tZ_sR, tC_sR, tc_sR, tz_sR, tI_sZ, tL_sZ, tR_sZ, tN_sZ, tZ_sZ, tC_sZ, tc_sZ, tz_sZ, tI_sC, tL_sC, tR_sC, tN_sC, tZ_sC, tC_sC, tc_sC, tz_sC, tI_aC, tL_aC, tR_aC, tN_aC, tZ_aC, tC_aC, tc_aC, tz_aC, tI_rmL, tL_rmL, tR_rmL, tN_rmL, tZ_rmL, tC_rmL, tc_rmL, tz_rmL, tI_mk, tL_mk, tR_mk, tN_mk, tZ_mk, tC_mk, tc_mk, tz_mk, tI_pushL, tL_pushL, tR_pushL, tN_pushL, tZ_pushL, tC_pushL, tc_pushL, tz_pushL, tI_pushB, tL_pushB, tR_pushB, tN_pushB, tZ_pushB, tC_pushB, tc_pushB, tz_pushB, tI_cpL, tL_cpL, tR_cpL, tN_cpL, tZ_cpL, tC_cpL, tc_cpL, tz_cpL, eq_self, true_and, and_true, false_and, and_false, if_true, if_false, reduceIte, ite_true, ite_false, not_true_eq_false, not_false_eq_true, gz0, f112]
  · have hz := N6 ho
    obtain ⟨v1, v2, v3, v4⟩ := opB_v b 0
    have hR1 : R0 (sI a 31 0 2 0) (opB b 0) := by
      have := R0_op (R0_31 hR 0) 0
      rwa [sZ_self (sI a 31 0 2 0) 15 0 (show tZ (sI a 31 0 2 0) 15 0 = 0 from hz)] at this
    have ca : chF [1, 3, 4, 15] [(31, 2), (35, 1), (37, 14)] a (sI a 31 0 2 0) := chF_I (by simp) (chF_r _ _ _)
    have cb : chF [44, 53, 54, 55, 56, 61, 62, 63, 64, 73] [(94, 6), (95, 0), (95, 4), (95, 5)] b (opB b 0) := chF_m (opB_c _ 0) (by simp) (by simp)
    have hc := core_open h rfl hR1 ca cb (fun _ => rfl) hz v1 v3 (by rw [tI_sI, if_pos ⟨rfl, rfl, rfl⟩]) v2
    refine ⟨sI a 31 0 2 0, opB b 0, fun z => ?_, hc, (Wr.rf _).cI _ _ _ _, v2, Or.inr ⟨ho, hz, chF_I (by simp) (chF_r _ _ _), opB_c b 0⟩⟩
    have f112 : ∀ z, Ex 112 [aR (some (96, 0)), aI 0] (enc 1 a z) = some (.inl (some (aI 0)), enc 1 (sI a 31 0 2 0) z) := fun z => by
      refine (X_in (by decide +kernel) (fcN_96 hF) rfl).trans ((lf_112_0 ..).trans ?_)
      simp (config := {decide := true}) only [gfI_enc, gfL_enc, gfR_enc, pfI_enc, pfL_enc, pfR_enc, Option.bind_some, cI_v, cL_v, cF_v, cD_v, cR_v, cV_v, cI_x, cL_x, cR_x, cV_x, gz_0, gz_1, acc_enc, tI_sI, tL_sI, tR_sI, tN_sI, tZ_sI, tC_sI, tc_sI, tz_sI, tI_sL, tL_sL, tR_sL, tN_sL, tZ_sL, tC_sL, tc_sL, tz_sL, tI_sR, tL_sR, tR_sR, tN_sR, tZ_sR, tC_sR, tc_sR, tz_sR, tI_sZ, tL_sZ, tR_sZ, tN_sZ, tZ_sZ, tC_sZ, tc_sZ, tz_sZ, tI_sC, tL_sC, tR_sC, tN_sC, tZ_sC, tC_sC, tc_sC, tz_sC, tI_aC, tL_aC, tR_aC, tN_aC, tZ_aC, tC_aC, tc_aC, tz_aC, tI_rmL, tL_rmL, tR_rmL, tN_rmL, tZ_rmL, tC_rmL, tc_rmL, tz_rmL, tI_mk, tL_mk, tR_mk, tN_mk, tZ_mk, tC_mk, tc_mk, tz_mk, tI_pushL, tL_pushL, tR_pushL, tN_pushL, tZ_pushL, tC_pushL, tc_pushL, tz_pushL, tI_pushB, tL_pushB, tR_pushB, tN_pushB, tZ_pushB, tC_pushB, tc_pushB, tz_pushB, tI_cpL, tL_cpL, tR_cpL, tN_cpL, tZ_cpL, tC_cpL, tc_cpL, tz_cpL, eq_self, true_and, and_true, false_and, and_false, if_true, if_false, reduceIte, ite_true, ite_false, not_true_eq_false, not_false_eq_true, fcN_96 hF, fcR_96_7 hF, fcN_31 hF]
    refine (X_in (by decide +kernel) (fcN_96 hF) rfl).trans ((lf_111_0 ..).trans ?_)
    simp (config := {decide := true}) only [gfI_enc, gfL_enc, gfR_enc, pfI_enc, pfL_enc, pfR_enc, Option.bind_some, cI_v, cL_v, cF_v, cD_v, cR_v, cV_v, cI_x, cL_x, cR_x, cV_x, gz_0, gz_1, acc_enc, tI_sI, tL_sI, tR_sI, tN_sI, tZ_sI, tC_sI, tc_sI, tz_sI, tI_sL, tL_sL, tR_sL, tN_sL, tZ_sL, tC_sL, tc_sL, tz_sL, tI_sR, tL_sR, tR_sR, tN_sR, tZ_sR, tC_sR, tc_sR, tz_sR, tI_sZ, tL_sZ, tR_sZ, tN_sZ, tZ_sZ, tC_sZ, tc_sZ, tz_sZ, tI_sC, tL_sC, tR_sC, tN_sC, tZ_sC, tC_sC, tc_sC, tz_sC, tI_aC, tL_aC, tR_aC, tN_aC, tZ_aC, tC_aC, tc_aC, tz_aC, tI_rmL, tL_rmL, tR_rmL, tN_rmL, tZ_rmL, tC_rmL, tc_rmL, tz_rmL, tI_mk, tL_mk, tR_mk, tN_mk, tZ_mk, tC_mk, tc_mk, tz_mk, tI_pushL, tL_pushL, tR_pushL, tN_pushL, tZ_pushL, tC_pushL, tc_pushL, tz_pushL, tI_pushB, tL_pushB, tR_pushB, tN_pushB, tZ_pushB, tC_pushB, tc_pushB, tz_pushB, tI_cpL, tL_cpL, tR_cpL, tN_cpL, tZ_cpL, tC_cpL, tc_cpL, tz_cpL, eq_self, true_and, and_true, false_and, and_false, if_true, if_false, reduceIte, ite_true, ite_false, not_true_eq_false, not_false_eq_true, gz0, f112]
set_option maxHeartbeats 1000000 in
/-- it opens -/
theorem oc_open {a b : TS} {C : Nat} (h : Core a b C) :
    ∃ a' b', (∀ z, Ex 111 [aR (some (96, 0)), aI 1] (enc 1 a z) = some (.inl (some (aI (Int32.ofNat (tZ a 15 0)))), enc 1 a' z)) ∧ Core a' b' C ∧ Wr a a' ∧ tI b' 95 0 5 = 1 ∧ tZ a' 15 0 = 0 ∧ (tI b 95 0 5 ≠ 0 ∧ a' = a ∧ b' = b ∨
      tI b 95 0 5 = 0 ∧ chF [1, 3, 4, 15] [(31, 2), (35, 1), (37, 14)] a a' ∧ chF [44, 53, 54, 55, 56, 61, 62, 63, 64, 73] [(94, 6), (95, 0), (95, 4), (95, 5)] b b' ∧ ∃ a1 a2 b2, chF [] [(31, 2)] a a1 ∧ StpE EvN a1 b a2 b2 ∧ (∀ j, j < tZ a 15 0 → ∃ p, p < tZ a 29 0 ∧ ntP a j = Int32.ofNat p ∧ (hI b2 p 7 ≠ 0 ∨ Dup b p)) ∧ chF [15] [] a2 a' ∧ chF [73] [(95, 4), (95, 5)] b2 b') := by
  have hR := h.1.1
  have hF := r_FC hR
  obtain ⟨N1, N2, N3, N4, N5, N6, N7, N8⟩ := h.1.2.1
  have n0 : (0 : Int32) ≤ 0 := by decide
  have gz1' : ∀ r, gz 1 r = r := fun r => gz_b rfl
  have f30 := fun h => lf_112_30 (some (96, 0)) (some (15, 0)) 0 0 h
  have o00 : Int32.ofNat 0 = 0 := rfl
  have one0 : ¬ (1 : Int32) = 0 := by decide
  by_cases ho : tI b 95 0 5 = 0
  · have P1 := (r_P' hR).1
    have hn2 : tZ a 15 0 ≤ 200 := Nat.le_trans (Nt_le h.1.2.1 P1) P1
    have caa : chF [] [(31, 2)] a (sI a 31 0 2 1) := chF_I (by simp) (chF_r _ _ _)
    obtain ⟨a2, b2, x, hR2, ca, cb, wa, wb, hS, -, hall⟩ := note_loop (n := tZ a 15 0) hn2 (tZ a 15 0) 0 (sI a 31 0 2 1) b (Nat.zero_add _) (R0_31 hR 1) (fun j hj =>
      ntM_c (N3 j hj) (PM_c caa (chF_r [] [] b) (by decide) (by decide)) (gro_c caa (by decide)) rfl rfl (groQ_c (chF_r [] [] b) (by decide +kernel)) rfl) rfl
    obtain ⟨v1, v2, v3, v4⟩ := opB_v b2 1
    have hR3 := R0_op hR2 1
    have ca' : chF [1, 3, 4, 15] [(31, 2), (35, 1), (37, 14)] a (sZ a2 15 0 0) := chF_t (chF_m caa (by simp) (by simp)) (chF_t (chF_m ca (by simp) (by simp)) (chF_g (chg_sZ (by simp) (chg_r _ _))))
    have cb' : chF [44, 53, 54, 55, 56, 61, 62, 63, 64, 73] [(94, 6), (95, 0), (95, 4), (95, 5)] b (opB b2 1) := chF_t (chF_m cb (by simp) (by simp)) (chF_m (opB_c _ 1) (by simp) (by simp))
    have i31 : tI a2 31 0 2 = 1 := by rw [dIS ca (S := [31]) (P := []) (s := 31) (by decide) (by simp), tI_sI, if_pos ⟨rfl, rfl, rfl⟩]
    have c15 : ∀ i, tC (sZ a2 15 0 0) 15 i = tC a 15 i := fun i => dC ca (S := [15]) (P := []) (s := 15) (by decide) (by simp) i
    have hc := core_open h rfl hR3 ca' cb' c15 (by rw [tZ_sZ, if_pos ⟨rfl, rfl⟩]) v1 v3 i31 v2
    have hF2 := r_FC hR2
    have z15 : tZ a2 15 0 = tZ a 15 0 := dZ ca (S := [15]) (P := []) (s := 15) (by decide) (by simp) 0
    have gnn : Int32.ofNat (tZ a 15 0) ≤ Int32.ofNat (tZ a 15 0) := Int32.le_refl _
    have hN1 : ∀ j, ntP (sI a 31 0 2 1) j = ntP a j := fun j => by
      unfold ntP
      rw [tR_sI]
      split
      · rename_i q hq
        rw [tI_sI, if_neg (fun w => absurd w.2.2 (by decide))]
      · rfl
    refine ⟨sZ a2 15 0 0, opB b2 1, fun z => ?_, hc, (((Wr.rf _).cI _ _ _ _).t wa).cZ _ _ (Or.inl (by decide +kernel)), v2, by rw [tZ_sZ, if_pos ⟨rfl, rfl⟩], Or.inr ⟨ho, ca', cb', sI a 31 0 2 1, a2, b2, caa, hS, fun j hj => ?_, chF_g (chg_sZ (by simp) (chg_r _ _)), opB_c b2 1⟩⟩
    · have f112 : ∀ z, Ex 112 [aR (some (96, 0)), aI 1] (enc 1 a z) = some (.inl (some (aI (Int32.ofNat (tZ a 15 0)))), enc 1 (sZ a2 15 0 0) z) := fun z => by
        refine (X_in (by decide +kernel) (fcN_96 hF) rfl).trans ((lf_112_0 ..).trans ?_)
        simp (config := {decide := true}) only [gfI_enc, gfL_enc, gfR_enc, pfI_enc, pfL_enc, pfR_enc, Option.bind_some, cI_v, cL_v, cF_v, cD_v, cR_v, cV_v, cI_x, cL_x, cR_x, cV_x, gz_0, gz_1, acc_enc, tI_sI, tL_sI, tR_sI, tN_sI, tZ_sI, tC_sI, tc_sI, tz_sI, tI_sL, tL_sL, tR_sL, tN_sL, tZ_sL, tC_sL, tc_sL, tz_sL, tI_sR, tL_sR, tR_sR, tN_sR, tZ_sR, tC_sR, tc_sR, tz_sR, tI_sZ, tL_sZ, tR_sZ, tN_sZ, tZ_sZ, tC_sZ, tc_sZ, tz_sZ, tI_sC, tL_sC, tR_sC, tN_sC, tZ_sC, tC_sC, tc_sC, tz_sC, tI_aC, tL_aC, tR_aC, tN_aC, tZ_aC, tC_aC, tc_aC, tz_aC, tI_rmL, tL_rmL, tR_rmL, tN_rmL, tZ_rmL, tC_rmL, tc_rmL, tz_rmL, tI_mk, tL_mk, tR_mk, tN_mk, tZ_mk, tC_mk, tc_mk, tz_mk, tI_pushL, tL_pushL, tR_pushL, tN_pushL, tZ_pushL, tC_pushL, tc_pushL, tz_pushL, tI_pushB, tL_pushB, tR_pushB, tN_pushB, tZ_pushB, tC_pushB, tc_pushB, tz_pushB, tI_cpL, tL_cpL, tR_cpL, tN_cpL, tZ_cpL, tC_cpL, tc_cpL, tz_cpL, eq_self, true_and, and_true, false_and, and_false, if_true, if_false, reduceIte, ite_true, ite_false, not_true_eq_false, not_false_eq_true, fcN_96 hF, fcR_96_7 hF, fcN_31 hF, one0, fcR_31_0 hF, X405, fcN_15 hF]
        refine (x _ z).trans ?_
        rw [lf_112_30]
        simp (config := {decide := true}) only [gfI_enc, gfL_enc, gfR_enc, pfI_enc, pfL_enc, pfR_enc, Option.bind_some, cI_v, cL_v, cF_v, cD_v, cR_v, cV_v, cI_x, cL_x, cR_x, cV_x, gz_0, gz_1, acc_enc, tI_sI, tL_sI, tR_sI, tN_sI, tZ_sI, tC_sI, tc_sI, tz_sI, tI_sL, tL_sL, tR_sL, tN_sL, tZ_sL, tC_sL, tc_sL, tz_sL, tI_sR, tL_sR, tR_sR, tN_sR, tZ_sR, tC_sR, tc_sR, tz_sR, tI_sZ, tL_sZ, tR_sZ, tN_sZ, tZ_sZ, tC_sZ, tc_sZ, tz_sZ, tI_sC, tL_sC, tR_sC, tN_sC, tZ_sC, tC_sC, tc_sC, tz_sC, tI_aC, tL_aC, tR_aC, tN_aC, tZ_aC, tC_aC, tc_aC, tz_aC, tI_rmL, tL_rmL, tR_rmL, tN_rmL, tZ_rmL, tC_rmL, tc_rmL, tz_rmL, tI_mk, tL_mk, tR_mk, tN_mk, tZ_mk, tC_mk, tc_mk, tz_mk, tI_pushL, tL_pushL, tR_pushL, tN_pushL, tZ_pushL, tC_pushL, tc_pushL, tz_pushL, tI_pushB, tL_pushB, tR_pushB, tN_pushB, tZ_pushB, tC_pushB, tc_pushB, tz_pushB, tI_cpL, tL_cpL, tR_cpL, tN_cpL, tZ_cpL, tC_cpL, tc_cpL, tz_cpL, eq_self, true_and, and_true, false_and, and_false, if_true, if_false, reduceIte, ite_true, ite_false, not_true_eq_false, not_false_eq_true, X405, fcN_15 hF2, z15, gnn, X407]
      refine (X_in (by decide +kernel) (fcN_96 hF) rfl).trans ((lf_111_0 ..).trans ?_)
      simp (config := {decide := true}) only [gfI_enc, gfL_enc, gfR_enc, pfI_enc, pfL_enc, pfR_enc, Option.bind_some, cI_v, cL_v, cF_v, cD_v, cR_v, cV_v, cI_x, cL_x, cR_x, cV_x, gz_0, gz_1, acc_enc, tI_sI, tL_sI, tR_sI, tN_sI, tZ_sI, tC_sI, tc_sI, tz_sI, tI_sL, tL_sL, tR_sL, tN_sL, tZ_sL, tC_sL, tc_sL, tz_sL, tI_sR, tL_sR, tR_sR, tN_sR, tZ_sR, tC_sR, tc_sR, tz_sR, tI_sZ, tL_sZ, tR_sZ, tN_sZ, tZ_sZ, tC_sZ, tc_sZ, tz_sZ, tI_sC, tL_sC, tR_sC, tN_sC, tZ_sC, tC_sC, tc_sC, tz_sC, tI_aC, tL_aC, tR_aC, tN_aC, tZ_aC, tC_aC, tc_aC, tz_aC, tI_rmL, tL_rmL, tR_rmL, tN_rmL, tZ_rmL, tC_rmL, tc_rmL, tz_rmL, tI_mk, tL_mk, tR_mk, tN_mk, tZ_mk, tC_mk, tc_mk, tz_mk, tI_pushL, tL_pushL, tR_pushL, tN_pushL, tZ_pushL, tC_pushL, tc_pushL, tz_pushL, tI_pushB, tL_pushB, tR_pushB, tN_pushB, tZ_pushB, tC_pushB, tc_pushB, tz_pushB, tI_cpL, tL_cpL, tR_cpL, tN_cpL, tZ_cpL, tC_cpL, tc_cpL, tz_cpL, eq_self, true_and, and_true, false_and, and_false, if_true, if_false, reduceIte, ite_true, ite_false, not_true_eq_false, not_false_eq_true, gz1', f112]
    · obtain ⟨p, q1, q2, q3⟩ := hall j (Nat.zero_le _) hj
      exact ⟨p, q1, (hN1 j).symm.trans q2, q3⟩
  · have hz := N6 ho
    have ho1 : tI b 95 0 5 = 1 := bit_1 N8 ho
    have eA : sI a 31 0 2 1 = a := sI_self a 31 0 2 (N7.trans ho1)
    have eZ : sZ a 15 0 0 = a := sZ_self a 15 0 hz
    refine ⟨a, b, fun z => ?_, h, Wr.rf _, ho1, hz, Or.inl ⟨ho, rfl, rfl⟩⟩
    have f112 : ∀ z, Ex 112 [aR (some (96, 0)), aI 1] (enc 1 a z) = some (.inl (some (aI 0)), enc 1 a z) := fun z => by
      refine (X_in (by decide +kernel) (fcN_96 hF) rfl).trans ((lf_112_0 ..).trans ?_)
      simp (config := {decide := true}) only [gfI_enc, gfL_enc, gfR_enc, pfI_enc, pfL_enc, pfR_enc, Option.bind_some, cI_v, cL_v, cF_v, cD_v, cR_v, cV_v, cI_x, cL_x, cR_x, cV_x, gz_0, gz_1, acc_enc, tI_sI, tL_sI, tR_sI, tN_sI, tZ_sI, tC_sI, tc_sI, tz_sI, tI_sL, tL_sL, tR_sL, tN_sL, tZ_sL, tC_sL, tc_sL, tz_sL, tI_sR, tL_sR, tR_sR, tN_sR, tZ_sR, tC_sR, tc_sR, tz_sR, tI_sZ, tL_sZ, tR_sZ, tN_sZ, tZ_sZ, tC_sZ, tc_sZ, tz_sZ, tI_sC, tL_sC, tR_sC, tN_sC, tZ_sC, tC_sC, tc_sC, tz_sC, tI_aC, tL_aC, tR_aC, tN_aC, tZ_aC, tC_aC, tc_aC, tz_aC, tI_rmL, tL_rmL, tR_rmL, tN_rmL, tZ_rmL, tC_rmL, tc_rmL, tz_rmL, tI_mk, tL_mk, tR_mk, tN_mk, tZ_mk, tC_mk, tc_mk, tz_mk, tI_pushL, tL_pushL, tR_pushL, tN_pushL, tZ_pushL, tC_pushL, tc_pushL, tz_pushL, tI_pushB, tL_pushB, tR_pushB, tN_pushB, tZ_pushB, tC_pushB, tc_pushB, tz_pushB, tI_cpL, tL_cpL, tR_cpL, tN_cpL, tZ_cpL, tC_cpL, tc_cpL, tz_cpL, eq_self, true_and, and_true, false_and, and_false, if_true, if_false, reduceIte, ite_true, ite_false, not_true_eq_false, not_false_eq_true, fcN_96 hF, fcR_96_7 hF, fcN_31 hF, one0, eA, fcR_31_0 hF, X405, fcN_15 hF, hz, o00, f30, n0, X407, eZ]
    refine (X_in (by decide +kernel) (fcN_96 hF) rfl).trans ((lf_111_0 ..).trans ?_)
    simp (config := {decide := true}) only [gfI_enc, gfL_enc, gfR_enc, pfI_enc, pfL_enc, pfR_enc, Option.bind_some, cI_v, cL_v, cF_v, cD_v, cR_v, cV_v, cI_x, cL_x, cR_x, cV_x, gz_0, gz_1, acc_enc, tI_sI, tL_sI, tR_sI, tN_sI, tZ_sI, tC_sI, tc_sI, tz_sI, tI_sL, tL_sL, tR_sL, tN_sL, tZ_sL, tC_sL, tc_sL, tz_sL, tI_sR, tL_sR, tR_sR, tN_sR, tZ_sR, tC_sR, tc_sR, tz_sR, tI_sZ, tL_sZ, tR_sZ, tN_sZ, tZ_sZ, tC_sZ, tc_sZ, tz_sZ, tI_sC, tL_sC, tR_sC, tN_sC, tZ_sC, tC_sC, tc_sC, tz_sC, tI_aC, tL_aC, tR_aC, tN_aC, tZ_aC, tC_aC, tc_aC, tz_aC, tI_rmL, tL_rmL, tR_rmL, tN_rmL, tZ_rmL, tC_rmL, tc_rmL, tz_rmL, tI_mk, tL_mk, tR_mk, tN_mk, tZ_mk, tC_mk, tc_mk, tz_mk, tI_pushL, tL_pushL, tR_pushL, tN_pushL, tZ_pushL, tC_pushL, tc_pushL, tz_pushL, tI_pushB, tL_pushB, tR_pushB, tN_pushB, tZ_pushB, tC_pushB, tc_pushB, tz_pushB, tI_cpL, tL_cpL, tR_cpL, tN_cpL, tZ_cpL, tC_cpL, tc_cpL, tz_cpL, eq_self, true_and, and_true, false_and, and_false, if_true, if_false, reduceIte, ite_true, ite_false, not_true_eq_false, not_false_eq_true, gz1', f112, hz]
    rfl
