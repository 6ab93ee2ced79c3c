/-! ===== a batch is sent ===== -/
theorem x45 {a : TS} {z : Hp} {p : Nat} (hp : p < tN a 38) : Ex 45 [aR (some (38, p))] (enc 1 a z) = some (.inl (some (aI (if tI a 38 p 7 = 0 ∨ tI a 38 p 7 = 2 then 1 else 0))), enc 1 a z) := by
  refine (X_in (by decide +kernel) (hp) rfl).trans ((lf_45_0 ..).trans ?_)
  by_cases e0 : tI a 38 p 7 = 0
  · simp (config := {decide := true}) only [gfI_enc, gfL_enc, gfR_enc, pfI_enc, pfL_enc, pfR_enc, Option.bind_some, cI_v, cL_v, cF_v, cD_v, cR_v, cV_v, cI_x, cL_x, cR_x, cV_x, gz_0, gz_1, acc_enc, tI_sI, tL_sI, tR_sI, tN_sI, tZ_sI, tC_sI, tc_sI, tz_sI, tI_sL, tL_sL, tR_sL, tN_sL, tZ_sL, tC_sL, tc_sL, tz_sL, tI_sR, tL_sR, tR_sR, tN_sR, tZ_sR, tC_sR, tc_sR, tz_sR, tI_sZ, tL_sZ, tR_sZ, tN_sZ, tZ_sZ, tC_sZ, tc_sZ, tz_sZ, tI_sC, tL_sC, tR_sC, tN_sC, tZ_sC, tC_sC, tc_sC, tz_sC, tI_aC, tL_aC, tR_aC, tN_aC, tZ_aC, tC_aC, tc_aC, tz_aC, tI_rmL, tL_rmL, tR_rmL, tN_rmL, tZ_rmL, tC_rmL, tc_rmL, tz_rmL, tI_mk, tL_mk, tR_mk, tN_mk, tZ_mk, tC_mk, tc_mk, tz_mk, tI_pushL, tL_pushL, tR_pushL, tN_pushL, tZ_pushL, tC_pushL, tc_pushL, tz_pushL, tI_pushB, tL_pushB, tR_pushB, tN_pushB, tZ_pushB, tC_pushB, tc_pushB, tz_pushB, tI_cpL, tL_cpL, tR_cpL, tN_cpL, tZ_cpL, tC_cpL, tc_cpL, tz_cpL, eq_self, true_and, and_true, false_and, and_false, if_true, if_false, reduceIte, ite_true, ite_false, not_true_eq_false, not_false_eq_true, hp, e0, true_or]
  · by_cases e2 : tI a 38 p 7 = 2
    · simp (config := {decide := true}) only [gfI_enc, gfL_enc, gfR_enc, pfI_enc, pfL_enc, pfR_enc, Option.bind_some, cI_v, cL_v, cF_v, cD_v, cR_v, cV_v, cI_x, cL_x, cR_x, cV_x, gz_0, gz_1, acc_enc, tI_sI, tL_sI, tR_sI, tN_sI, tZ_sI, tC_sI, tc_sI, tz_sI, tI_sL, tL_sL, tR_sL, tN_sL, tZ_sL, tC_sL, tc_sL, tz_sL, tI_sR, tL_sR, tR_sR, tN_sR, tZ_sR, tC_sR, tc_sR, tz_sR, tI_sZ, tL_sZ, tR_sZ, tN_sZ, tZ_sZ, tC_sZ, tc_sZ, tz_sZ, tI_sC, tL_sC, tR_sC, tN_sC, tZ_sC, tC_sC, tc_sC, tz_sC, tI_aC, tL_aC, tR_aC, tN_aC, tZ_aC, tC_aC, tc_aC, tz_aC, tI_rmL, tL_rmL, tR_rmL, tN_rmL, tZ_rmL, tC_rmL, tc_rmL, tz_rmL, tI_mk, tL_mk, tR_mk, tN_mk, tZ_mk, tC_mk, tc_mk, tz_mk, tI_pushL, tL_pushL, tR_pushL, tN_pushL, tZ_pushL, tC_pushL, tc_pushL, tz_pushL, tI_pushB, tL_pushB, tR_pushB, tN_pushB, tZ_pushB, tC_pushB, tc_pushB, tz_pushB, tI_cpL, tL_cpL, tR_cpL, tN_cpL, tZ_cpL, tC_cpL, tc_cpL, tz_cpL, eq_self, true_and, and_true, false_and, and_false, if_true, if_false, reduceIte, ite_true, ite_false, not_true_eq_false, not_false_eq_true, hp, e0, e2, or_true]
    · simp (config := {decide := true}) only [gfI_enc, gfL_enc, gfR_enc, pfI_enc, pfL_enc, pfR_enc, Option.bind_some, cI_v, cL_v, cF_v, cD_v, cR_v, cV_v, cI_x, cL_x, cR_x, cV_x, gz_0, gz_1, acc_enc, tI_sI, tL_sI, tR_sI, tN_sI, tZ_sI, tC_sI, tc_sI, tz_sI, tI_sL, tL_sL, tR_sL, tN_sL, tZ_sL, tC_sL, tc_sL, tz_sL, tI_sR, tL_sR, tR_sR, tN_sR, tZ_sR, tC_sR, tc_sR, tz_sR, tI_sZ, tL_sZ, tR_sZ, tN_sZ, tZ_sZ, tC_sZ, tc_sZ, tz_sZ, tI_sC, tL_sC, tR_sC, tN_sC, tZ_sC, tC_sC, tc_sC, tz_sC, tI_aC, tL_aC, tR_aC, tN_aC, tZ_aC, tC_aC, tc_aC, tz_aC, tI_rmL, tL_rmL, tR_rmL, tN_rmL, tZ_rmL, tC_rmL, tc_rmL, tz_rmL, tI_mk, tL_mk, tR_mk, tN_mk, tZ_mk, tC_mk, tc_mk, tz_mk, tI_pushL, tL_pushL, tR_pushL, tN_pushL, tZ_pushL, tC_pushL, tc_pushL, tz_pushL, tI_pushB, tL_pushB, tR_pushB, tN_pushB, tZ_pushB, tC_pushB, tc_pushB, tz_pushB, tI_cpL, tL_cpL, tR_cpL, tN_cpL, tZ_cpL, tC_cpL, tc_cpL, tz_cpL, eq_self, true_and, and_true, false_and, and_false, if_true, if_false, reduceIte, ite_true, ite_false, not_true_eq_false, not_false_eq_true, hp, e0, e2, or_self]
theorem y200_start {a b : TS} {z : Hp} {p sh : Nat} (v : Int32) (hR : R0 a b) (hp : p < tZ a 29 0) : Ru 200 19 [(0, aR (some (95, 0))), (1, aI (Int32.ofNat sh)), (2, aI v), (3, aI (Int32.ofNat p))] [] (enc 2 b z) = Ru 200 19 [(0, aR (some (95, 0))), (1, aI (Int32.ofNat sh)), (2, aI v), (3, aI (Int32.ofNat p))] [] (enc 2 (sI b 93 0 10 0) z) := by
  have hF := r_FR hR
  obtain ⟨P1, P2, P3, P4, -⟩ := r_P' hR
  have g3 : ¬ Int32.ofNat (tZ a 29 0) ≤ Int32.ofNat p := by rw [o_le (by omega) (by omega)]; omega
  have hR1 : R0 a (sI b 93 0 10 0) := by
    have ha : chF [] [] a a := chF_r _ _ _
    have hb : chF [] FtH b (sI b 93 0 10 0) := th93_c
    have wa : Wr a a := Wr.rf _
    have wb : Wr b (sI b 93 0 10 0) := th93_w
    obtain ⟨hFC, hFR, hB, hS, hM, hW, hV, hC, hD, hE, hP, hQ, hH, hK, hG, hO, hZ⟩ := hR
    exact ⟨FxC_s hFC wa ha (by decide), FxR_s hFR wb hb (by decide), RB_c hB ha hb (by decide) (by decide), RS_c hS ha hb (by decide) (by decide), RM_c hM ha hb (by decide) (by decide), RW_c hW ha hb (by decide) (by decide), RV_c hV ha hb (by decide) (by decide), RC_c hC ha hb (by decide) (by decide), RD_c hD ha hb (by decide) (by decide), RE_c hE ha hb (by decide) (by decide), RP_c hP ha hb (by decide) (by decide), RQ_c hQ ha hb (by decide) (by decide), RH_c hH ha hb (by decide) (by decide), RK_c hK ha hb (by decide) (by decide) (gro_c ha (by decide)) (gro_c ha (by decide)) (gro_c ha (by decide)) (gro_c ha (by decide)), RG_c hG ha hb (by decide) (by decide), RO_c hO ha hb (by decide) (by decide), RZ_c hZ ha hb (by decide) (by decide)⟩
  have f0 := fun z => y247 (b := b) (z := z) (p := p) (w := 0) hR hp (by omega)
  have f0' := fun z => y247s (b := sI b 93 0 10 0) (z := z) (p := p) (w := 0) hR1 hp (by omega) (by rw [tI_sI, if_pos ⟨rfl, rfl, rfl⟩])
  have e87 : tI (sI b 93 0 10 0) 87 0 (10 * p + 0) = tI b 87 0 (10 * p + 0) := by rw [tI_sI, if_neg (fun q => absurd q.1 (by decide))]
  rw [e87] at f0'
  have o0 : Int32.ofNat 0 = 0 := rfl
  rw [o0] at f0 f0'
  rw [lf_200_19]
  conv => rhs; rw [lf_200_19]
  simp (config := {decide := true}) only [gfI_enc, gfL_enc, gfR_enc, pfI_enc, pfL_enc, pfR_enc, Option.bind_some, cI_v, cL_v, cF_v, cD_v, cR_v, cV_v, cI_x, cL_x, cR_x, cV_x, gz_0, gz_1, acc_enc, tI_sI, tL_sI, tR_sI, tN_sI, tZ_sI, tC_sI, tc_sI, tz_sI, tI_sL, tL_sL, tR_sL, tN_sL, tZ_sL, tC_sL, tc_sL, tz_sL, tI_sR, tL_sR, tR_sR, tN_sR, tZ_sR, tC_sR, tc_sR, tz_sR, tI_sZ, tL_sZ, tR_sZ, tN_sZ, tZ_sZ, tC_sZ, tc_sZ, tz_sZ, tI_sC, tL_sC, tR_sC, tN_sC, tZ_sC, tC_sC, tc_sC, tz_sC, tI_aC, tL_aC, tR_aC, tN_aC, tZ_aC, tC_aC, tc_aC, tz_aC, tI_rmL, tL_rmL, tR_rmL, tN_rmL, tZ_rmL, tC_rmL, tc_rmL, tz_rmL, tI_mk, tL_mk, tR_mk, tN_mk, tZ_mk, tC_mk, tc_mk, tz_mk, tI_pushL, tL_pushL, tR_pushL, tN_pushL, tZ_pushL, tC_pushL, tc_pushL, tz_pushL, tI_pushB, tL_pushB, tR_pushB, tN_pushB, tZ_pushB, tC_pushB, tc_pushB, tz_pushB, tI_cpL, tL_cpL, tR_cpL, tN_cpL, tZ_cpL, tC_cpL, tc_cpL, tz_cpL, eq_self, true_and, and_true, false_and, and_false, if_true, if_false, reduceIte, ite_true, ite_false, not_true_eq_false, not_false_eq_true, frN_95 hF, frR_95_7 hF, frN_93 hF, P4, g3, f0, f0']
set_option maxHeartbeats 2000000 in
theorem sends_loop {C sh : Nat} : ∀ k p v a b, p + k = tZ a 29 0 → sh < tZ a 27 0 → Core a b C → tI b 95 0 0 = 0 → tI b 93 0 10 = 0 →
    ∃ w a' b', (∀ z, Ru 98 17 [(0, aR (some (96, 0))), (2, aR (some (36, sh))), (3, aI v), (4, aI (Int32.ofNat p))] [] (enc 1 a z) = some (.inl (some (aI w)), enc 1 a' z)) ∧ (∀ z, Ru 200 19 [(0, aR (some (95, 0))), (1, aI (Int32.ofNat sh)), (2, aI v), (3, aI (Int32.ofNat p))] [] (enc 2 b z) = some (.inl (some (aI w)), enc 2 b' z)) ∧
      Core a' b' C ∧ Wr a a' ∧ Wr b b' ∧ sam txA a a' ∧ sam txB b b' ∧ tI b' 95 0 0 = 0 := by
  intro k
  induction k with
  | zero =>
    intro p v a b hk hsh h h95 h93
    have hR := h.1.1
    have hF := r_FC hR
    have hFR := r_FR hR
    obtain ⟨P1, P2, P3, P4, -⟩ := r_P' hR
    have : p = tZ a 29 0 := by omega
    subst this
    have g3 : Int32.ofNat (tZ a 29 0) ≤ Int32.ofNat (tZ a 29 0) := Int32.le_refl _
    refine ⟨v, a, b, fun z => ?_, fun z => ?_, h, Wr.rf _, Wr.rf _, sam_r _ _, sam_r _ _, h95⟩
    · rw [lf_98_17]
      simp (config := {decide := true}) only [gfI_enc, gfL_enc, gfR_enc, pfI_enc, pfL_enc, pfR_enc, Option.bind_some, cI_v, cL_v, cF_v, cD_v, cR_v, cV_v, cI_x, cL_x, cR_x, cV_x, gz_0, gz_1, acc_enc, tI_sI, tL_sI, tR_sI, tN_sI, tZ_sI, tC_sI, tc_sI, tz_sI, tI_sL, tL_sL, tR_sL, tN_sL, tZ_sL, tC_sL, tc_sL, tz_sL, tI_sR, tL_sR, tR_sR, tN_sR, tZ_sR, tC_sR, tc_sR, tz_sR, tI_sZ, tL_sZ, tR_sZ, tN_sZ, tZ_sZ, tC_sZ, tc_sZ, tz_sZ, tI_sC, tL_sC, tR_sC, tN_sC, tZ_sC, tC_sC, tc_sC, tz_sC, tI_aC, tL_aC, tR_aC, tN_aC, tZ_aC, tC_aC, tc_aC, tz_aC, tI_rmL, tL_rmL, tR_rmL, tN_rmL, tZ_rmL, tC_rmL, tc_rmL, tz_rmL, tI_mk, tL_mk, tR_mk, tN_mk, tZ_mk, tC_mk, tc_mk, tz_mk, tI_pushL, tL_pushL, tR_pushL, tN_pushL, tZ_pushL, tC_pushL, tc_pushL, tz_pushL, tI_pushB, tL_pushB, tR_pushB, tN_pushB, tZ_pushB, tC_pushB, tc_pushB, tz_pushB, tI_cpL, tL_cpL, tR_cpL, tN_cpL, tZ_cpL, tC_cpL, tc_cpL, tz_cpL, eq_self, true_and, and_true, false_and, and_false, if_true, if_false, reduceIte, ite_true, ite_false, not_true_eq_false, not_false_eq_true, fcN_96 hF, fcR_96_5 hF, X405, fcN_29 hF, g3]
    · rw [lf_200_19]
      simp (config := {decide := true}) only [gfI_enc, gfL_enc, gfR_enc, pfI_enc, pfL_enc, pfR_enc, Option.bind_some, cI_v, cL_v, cF_v, cD_v, cR_v, cV_v, cI_x, cL_x, cR_x, cV_x, gz_0, gz_1, acc_enc, tI_sI, tL_sI, tR_sI, tN_sI, tZ_sI, tC_sI, tc_sI, tz_sI, tI_sL, tL_sL, tR_sL, tN_sL, tZ_sL, tC_sL, tc_sL, tz_sL, tI_sR, tL_sR, tR_sR, tN_sR, tZ_sR, tC_sR, tc_sR, tz_sR, tI_sZ, tL_sZ, tR_sZ, tN_sZ, tZ_sZ, tC_sZ, tc_sZ, tz_sZ, tI_sC, tL_sC, tR_sC, tN_sC, tZ_sC, tC_sC, tc_sC, tz_sC, tI_aC, tL_aC, tR_aC, tN_aC, tZ_aC, tC_aC, tc_aC, tz_aC, tI_rmL, tL_rmL, tR_rmL, tN_rmL, tZ_rmL, tC_rmL, tc_rmL, tz_rmL, tI_mk, tL_mk, tR_mk, tN_mk, tZ_mk, tC_mk, tc_mk, tz_mk, tI_pushL, tL_pushL, tR_pushL, tN_pushL, tZ_pushL, tC_pushL, tc_pushL, tz_pushL, tI_pushB, tL_pushB, tR_pushB, tN_pushB, tZ_pushB, tC_pushB, tc_pushB, tz_pushB, tI_cpL, tL_cpL, tR_cpL, tN_cpL, tZ_cpL, tC_cpL, tc_cpL, tz_cpL, eq_self, true_and, and_true, false_and, and_false, if_true, if_false, reduceIte, ite_true, ite_false, not_true_eq_false, not_false_eq_true, frN_95 hFR, frR_95_7 hFR, frN_93 hFR, P4, g3]
  | succ k ih =>
    intro p v a b hk hsh h h95 h93
    have hR := h.1.1
    have hF := r_FC hR
    have hFR := r_FR hR
    obtain ⟨S1, S2, ⟨S3, S4, S5', S6, S7, S8⟩, S9, S10⟩ := r_S hR
    obtain ⟨P1, P2, P3, P4, P5, P6, P7⟩ := r_P' hR
    have hp : p < tZ a 29 0 := by omega
    obtain ⟨t1, t2, t3⟩ := paym_at hR hp
    obtain ⟨-, u0, ⟨cd, c1, c2, c3⟩, ⟨s', v1, v2, v3⟩, ⟨u3, -⟩, ⟨u4, -⟩, -⟩ := P5 p hp
    obtain ⟨e5, e7, e8, e9, e10, eb, n0, n1, n2, n3, n4, n5⟩ := (r_Q hR).1 p hp
    obtain ⟨d1, d2, d3⟩ := card_at hR c1
    have d0 : tI a 37 cd 0 = Int32.ofNat cd := ((r_C hR).2.2.2.2 cd c1).2.1
    have g1 : (Int32.ofNat p).toNatClampNeg = p := o_ix (by omega)
    have g2 : ¬ Int32.ofNat p < 0 := o_lt0 (by omega)
    have g3 : ¬ Int32.ofNat (tZ a 29 0) ≤ Int32.ofNat p := by rw [o_le (by omega) (by omega)]; omega
    have g4 : p < 200 := by omega
    have aqq : ∀ z r, aq (enc 1 a z) (some (36, s')) (some (36, sh)) r = r := fun z r => aq_enc (fun q hq => by cases hq; exact ⟨show ow 36 = 1 from by decide +kernel, show kd 36 < 24 from by decide +kernel, by show s' < tN a 36; omega⟩) (fun q hq => by cases hq; exact ⟨show ow 36 = 1 from by decide +kernel, show kd 36 < 24 from by decide +kernel, by show sh < tN a 36; omega⟩)
    have f45 := fun z => x45 (a := a) (z := z) (p := p) t2
    rw [e7] at f45
    have f0 := fun z => y247s (b := b) (z := z) (p := p) (w := 0) hR hp (by omega) h93
    have f2 := fun z => y247s (b := b) (z := z) (p := p) (w := 2) hR hp (by omega) h93
    have o0 : Int32.ofNat 0 = 0 := rfl
    have o2 : Int32.ofNat 2 = 2 := rfl
    rw [o0, Nat.add_zero] at f0
    rw [o2, v3] at f2
    obtain ⟨w, a', b', x, y, hc, wa, wb, sa, sb, h95'⟩ := ih (p + 1) v a b (by omega) hsh h h95 h93
    by_cases es : s' = sh
    · subst es
      have esp : (some ((36 : Nat), s') = some ((36 : Nat), s')) = True := eq_true rfl
      have eso : (Int32.ofNat s' = Int32.ofNat s') = True := eq_true rfl
      by_cases good : tI b 87 0 (10 * p) = 0 ∨ tI b 87 0 (10 * p) = 2
      · rw [if_pos good] at f45
        by_cases h70 : tI b 70 0 p = 0
        · -- it is sent
          obtain ⟨a1, b1, x1, y1, h1, wa1, wb1, sa1, sb1, i95, i29, i27, i93⟩ := core_send h hsh hp v3 good h70 c1 c3
          have hR1 := sent_R hR hp
          have f49 := fun z => x49 (a := sI a 38 p 10 1) (z := z) (p := p) (cd := cd) (by rw [tN_sI]; exact t2) (by rw [tR_sI]; exact c2) (by rw [tN_sI]; exact d2)
          have iA : ∀ f, f ≠ 10 → tI (sI a 38 p 10 1) 38 p f = tI a 38 p f := fun f hf => by rw [tI_sI, if_neg (fun q => hf q.2.2)]
          have iA37 : tI (sI a 38 p 10 1) 37 cd 0 = Int32.ofNat cd := by rw [tI_sI, if_neg (fun q => absurd q.1 (by decide))]; exact d0
          rw [iA 0 (by decide), iA 4 (by decide), iA 3 (by decide), iA 5 (by decide), iA 9 (by decide), iA37, u0, u3, u4, e5, e9, tN_sI] at f49
          have i70 : ∀ k, tI (sI b 70 0 p 1) 87 0 k = tI b 87 0 k := fun k => by rw [tI_sI, if_neg (fun q => absurd q.1 (by decide))]
          have j93 : tI (sI b 70 0 p 1) 93 0 10 = 0 := by rw [tI_sI, if_neg (fun q => absurd q.1 (by decide))]; exact h93
          have f199 := fun n so z => y199 (a := sI a 38 p 10 1) (b := sI b 70 0 p 1) (z := z) (p := p) n so hR1 hp j93
          rw [i70, i70, i70, i70, tN_sI] at f199
          have f8 := fun z => y247s (a := sI a 38 p 10 1) (b := sI b 70 0 p 1) (z := z) (p := p) (w := 8) hR1 hp (by omega) j93
          have o8 : Int32.ofNat 8 = 8 := rfl
          rw [i70, o8] at f8
          obtain ⟨w2, a2, b2, x2, y2, hc2, wa2, wb2, sa2, sb2, h952⟩ := ih (p + 1) (v + 1) a1 b1 (by omega) (by omega) h1 (i95.trans h95) (i93.trans h93)
          have ne10 : ¬ (1 : Int32) = 0 := by decide
          refine ⟨w2, a2, b2, fun z => ?_, fun z => ?_, hc2, wa1.t wa2, wb1.t wb2, sam_t sa1 sa2, sam_t sb1 sb2, h952⟩
          · rw [lf_98_17]
            simp (config := {decide := true}) only [gfI_enc, gfL_enc, gfR_enc, pfI_enc, pfL_enc, pfR_enc, Option.bind_some, cI_v, cL_v, cF_v, cD_v, cR_v, cV_v, cI_x, cL_x, cR_x, cV_x, gz_0, gz_1, acc_enc, tI_sI, tL_sI, tR_sI, tN_sI, tZ_sI, tC_sI, tc_sI, tz_sI, tI_sL, tL_sL, tR_sL, tN_sL, tZ_sL, tC_sL, tc_sL, tz_sL, tI_sR, tL_sR, tR_sR, tN_sR, tZ_sR, tC_sR, tc_sR, tz_sR, tI_sZ, tL_sZ, tR_sZ, tN_sZ, tZ_sZ, tC_sZ, tc_sZ, tz_sZ, tI_sC, tL_sC, tR_sC, tN_sC, tZ_sC, tC_sC, tc_sC, tz_sC, tI_aC, tL_aC, tR_aC, tN_aC, tZ_aC, tC_aC, tc_aC, tz_aC, tI_rmL, tL_rmL, tR_rmL, tN_rmL, tZ_rmL, tC_rmL, tc_rmL, tz_rmL, tI_mk, tL_mk, tR_mk, tN_mk, tZ_mk, tC_mk, tc_mk, tz_mk, tI_pushL, tL_pushL, tR_pushL, tN_pushL, tZ_pushL, tC_pushL, tc_pushL, tz_pushL, tI_pushB, tL_pushB, tR_pushB, tN_pushB, tZ_pushB, tC_pushB, tc_pushB, tz_pushB, tI_cpL, tL_cpL, tR_cpL, tN_cpL, tZ_cpL, tC_cpL, tc_cpL, tz_cpL, eq_self, true_and, and_true, false_and, and_false, if_true, if_false, reduceIte, ite_true, ite_false, not_true_eq_false, not_false_eq_true, fcN_96 hF, fcR_96_5 hF, X405, X402, fcN_29 hF, g1, g2, g3, hp, t1, acc_enc, t2, v2, aqq, esp, f45, ne10, e10, h70, f49, x1, o_s]
            exact x2 z
          · rw [lf_200_19]
            rcases good with g0 | g0
            · have e8z : tI b 87 0 (10 * p + 8) = 0 := by
                refine n4 (fun e => ?_)
                subst e
                rw [n2] at g0
                exact absurd g0 (by decide)
              have one : (1 : Int32) + tI b 87 0 (10 * p + 8) = 1 := by rw [e8z]; rfl
              rw [one] at y1
              simp (config := {decide := true}) only [gfI_enc, gfL_enc, gfR_enc, pfI_enc, pfL_enc, pfR_enc, Option.bind_some, cI_v, cL_v, cF_v, cD_v, cR_v, cV_v, cI_x, cL_x, cR_x, cV_x, gz_0, gz_1, acc_enc, tI_sI, tL_sI, tR_sI, tN_sI, tZ_sI, tC_sI, tc_sI, tz_sI, tI_sL, tL_sL, tR_sL, tN_sL, tZ_sL, tC_sL, tc_sL, tz_sL, tI_sR, tL_sR, tR_sR, tN_sR, tZ_sR, tC_sR, tc_sR, tz_sR, tI_sZ, tL_sZ, tR_sZ, tN_sZ, tZ_sZ, tC_sZ, tc_sZ, tz_sZ, tI_sC, tL_sC, tR_sC, tN_sC, tZ_sC, tC_sC, tc_sC, tz_sC, tI_aC, tL_aC, tR_aC, tN_aC, tZ_aC, tC_aC, tc_aC, tz_aC, tI_rmL, tL_rmL, tR_rmL, tN_rmL, tZ_rmL, tC_rmL, tc_rmL, tz_rmL, tI_mk, tL_mk, tR_mk, tN_mk, tZ_mk, tC_mk, tc_mk, tz_mk, tI_pushL, tL_pushL, tR_pushL, tN_pushL, tZ_pushL, tC_pushL, tc_pushL, tz_pushL, tI_pushB, tL_pushB, tR_pushB, tN_pushB, tZ_pushB, tC_pushB, tc_pushB, tz_pushB, tI_cpL, tL_cpL, tR_cpL, tN_cpL, tZ_cpL, tC_cpL, tc_cpL, tz_cpL, eq_self, true_and, and_true, false_and, and_false, if_true, if_false, reduceIte, ite_true, ite_false, not_true_eq_false, not_false_eq_true, frN_95 hFR, frR_95_7 hFR, frN_93 hFR, P4, g3, f0, f2, eso, frR_95_15 hFR, frN_70 hFR, frZ_70 hFR, gaI_enc, paI_enc, g1, g2, g4, h70, g0, f199, y1, o_s]
              exact y2 z
            · have g00 : ¬ (2 : Int32) = 0 := by decide
              simp (config := {decide := true}) only [gfI_enc, gfL_enc, gfR_enc, pfI_enc, pfL_enc, pfR_enc, Option.bind_some, cI_v, cL_v, cF_v, cD_v, cR_v, cV_v, cI_x, cL_x, cR_x, cV_x, gz_0, gz_1, acc_enc, tI_sI, tL_sI, tR_sI, tN_sI, tZ_sI, tC_sI, tc_sI, tz_sI, tI_sL, tL_sL, tR_sL, tN_sL, tZ_sL, tC_sL, tc_sL, tz_sL, tI_sR, tL_sR, tR_sR, tN_sR, tZ_sR, tC_sR, tc_sR, tz_sR, tI_sZ, tL_sZ, tR_sZ, tN_sZ, tZ_sZ, tC_sZ, tc_sZ, tz_sZ, tI_sC, tL_sC, tR_sC, tN_sC, tZ_sC, tC_sC, tc_sC, tz_sC, tI_aC, tL_aC, tR_aC, tN_aC, tZ_aC, tC_aC, tc_aC, tz_aC, tI_rmL, tL_rmL, tR_rmL, tN_rmL, tZ_rmL, tC_rmL, tc_rmL, tz_rmL, tI_mk, tL_mk, tR_mk, tN_mk, tZ_mk, tC_mk, tc_mk, tz_mk, tI_pushL, tL_pushL, tR_pushL, tN_pushL, tZ_pushL, tC_pushL, tc_pushL, tz_pushL, tI_pushB, tL_pushB, tR_pushB, tN_pushB, tZ_pushB, tC_pushB, tc_pushB, tz_pushB, tI_cpL, tL_cpL, tR_cpL, tN_cpL, tZ_cpL, tC_cpL, tc_cpL, tz_cpL, eq_self, true_and, and_true, false_and, and_false, if_true, if_false, reduceIte, ite_true, ite_false, not_true_eq_false, not_false_eq_true, frN_95 hFR, frR_95_7 hFR, frN_93 hFR, P4, g3, f0, f2, eso, frR_95_15 hFR, frN_70 hFR, frZ_70 hFR, gaI_enc, paI_enc, g1, g2, g4, h70, g0, g00, f8, f199, y1, o_s]
              exact y2 z
        · refine ⟨w, a', b', fun z => ?_, fun z => ?_, hc, wa, wb, sa, sb, h95'⟩
          · have ne10 : ¬ (1 : Int32) = 0 := by decide
            rw [lf_98_17]
            simp (config := {decide := true}) only [gfI_enc, gfL_enc, gfR_enc, pfI_enc, pfL_enc, pfR_enc, Option.bind_some, cI_v, cL_v, cF_v, cD_v, cR_v, cV_v, cI_x, cL_x, cR_x, cV_x, gz_0, gz_1, acc_enc, tI_sI, tL_sI, tR_sI, tN_sI, tZ_sI, tC_sI, tc_sI, tz_sI, tI_sL, tL_sL, tR_sL, tN_sL, tZ_sL, tC_sL, tc_sL, tz_sL, tI_sR, tL_sR, tR_sR, tN_sR, tZ_sR, tC_sR, tc_sR, tz_sR, tI_sZ, tL_sZ, tR_sZ, tN_sZ, tZ_sZ, tC_sZ, tc_sZ, tz_sZ, tI_sC, tL_sC, tR_sC, tN_sC, tZ_sC, tC_sC, tc_sC, tz_sC, tI_aC, tL_aC, tR_aC, tN_aC, tZ_aC, tC_aC, tc_aC, tz_aC, tI_rmL, tL_rmL, tR_rmL, tN_rmL, tZ_rmL, tC_rmL, tc_rmL, tz_rmL, tI_mk, tL_mk, tR_mk, tN_mk, tZ_mk, tC_mk, tc_mk, tz_mk, tI_pushL, tL_pushL, tR_pushL, tN_pushL, tZ_pushL, tC_pushL, tc_pushL, tz_pushL, tI_pushB, tL_pushB, tR_pushB, tN_pushB, tZ_pushB, tC_pushB, tc_pushB, tz_pushB, tI_cpL, tL_cpL, tR_cpL, tN_cpL, tZ_cpL, tC_cpL, tc_cpL, tz_cpL, eq_self, true_and, and_true, false_and, and_false, if_true, if_false, reduceIte, ite_true, ite_false, not_true_eq_false, not_false_eq_true, fcN_96 hF, fcR_96_5 hF, X405, X402, fcN_29 hF, g1, g2, g3, hp, t1, acc_enc, t2, v2, aqq, esp, f45, ne10, e10, h70, o_s]
            exact x z
          · rw [lf_200_19]
            simp (config := {decide := true}) only [gfI_enc, gfL_enc, gfR_enc, pfI_enc, pfL_enc, pfR_enc, Option.bind_some, cI_v, cL_v, cF_v, cD_v, cR_v, cV_v, cI_x, cL_x, cR_x, cV_x, gz_0, gz_1, acc_enc, tI_sI, tL_sI, tR_sI, tN_sI, tZ_sI, tC_sI, tc_sI, tz_sI, tI_sL, tL_sL, tR_sL, tN_sL, tZ_sL, tC_sL, tc_sL, tz_sL, tI_sR, tL_sR, tR_sR, tN_sR, tZ_sR, tC_sR, tc_sR, tz_sR, tI_sZ, tL_sZ, tR_sZ, tN_sZ, tZ_sZ, tC_sZ, tc_sZ, tz_sZ, tI_sC, tL_sC, tR_sC, tN_sC, tZ_sC, tC_sC, tc_sC, tz_sC, tI_aC, tL_aC, tR_aC, tN_aC, tZ_aC, tC_aC, tc_aC, tz_aC, tI_rmL, tL_rmL, tR_rmL, tN_rmL, tZ_rmL, tC_rmL, tc_rmL, tz_rmL, tI_mk, tL_mk, tR_mk, tN_mk, tZ_mk, tC_mk, tc_mk, tz_mk, tI_pushL, tL_pushL, tR_pushL, tN_pushL, tZ_pushL, tC_pushL, tc_pushL, tz_pushL, tI_pushB, tL_pushB, tR_pushB, tN_pushB, tZ_pushB, tC_pushB, tc_pushB, tz_pushB, tI_cpL, tL_cpL, tR_cpL, tN_cpL, tZ_cpL, tC_cpL, tc_cpL, tz_cpL, eq_self, true_and, and_true, false_and, and_false, if_true, if_false, reduceIte, ite_true, ite_false, not_true_eq_false, not_false_eq_true, frN_95 hFR, frR_95_7 hFR, frN_93 hFR, P4, g3, f0, f2, eso, frR_95_15 hFR, frN_70 hFR, frZ_70 hFR, gaI_enc, g1, g2, g4, h70, o_s]
            exact y z
      · rw [if_neg good] at f45
        have b0 : ¬ tI b 87 0 (10 * p) = 0 := fun e => good (Or.inl e)
        have b2 : ¬ tI b 87 0 (10 * p) = 2 := fun e => good (Or.inr e)
        refine ⟨w, a', b', fun z => ?_, fun z => ?_, hc, wa, wb, sa, sb, h95'⟩
        · rw [lf_98_17]
          simp (config := {decide := true}) only [gfI_enc, gfL_enc, gfR_enc, pfI_enc, pfL_enc, pfR_enc, Option.bind_some, cI_v, cL_v, cF_v, cD_v, cR_v, cV_v, cI_x, cL_x, cR_x, cV_x, gz_0, gz_1, acc_enc, tI_sI, tL_sI, tR_sI, tN_sI, tZ_sI, tC_sI, tc_sI, tz_sI, tI_sL, tL_sL, tR_sL, tN_sL, tZ_sL, tC_sL, tc_sL, tz_sL, tI_sR, tL_sR, tR_sR, tN_sR, tZ_sR, tC_sR, tc_sR, tz_sR, tI_sZ, tL_sZ, tR_sZ, tN_sZ, tZ_sZ, tC_sZ, tc_sZ, tz_sZ, tI_sC, tL_sC, tR_sC, tN_sC, tZ_sC, tC_sC, tc_sC, tz_sC, tI_aC, tL_aC, tR_aC, tN_aC, tZ_aC, tC_aC, tc_aC, tz_aC, tI_rmL, tL_rmL, tR_rmL, tN_rmL, tZ_rmL, tC_rmL, tc_rmL, tz_rmL, tI_mk, tL_mk, tR_mk, tN_mk, tZ_mk, tC_mk, tc_mk, tz_mk, tI_pushL, tL_pushL, tR_pushL, tN_pushL, tZ_pushL, tC_pushL, tc_pushL, tz_pushL, tI_pushB, tL_pushB, tR_pushB, tN_pushB, tZ_pushB, tC_pushB, tc_pushB, tz_pushB, tI_cpL, tL_cpL, tR_cpL, tN_cpL, tZ_cpL, tC_cpL, tc_cpL, tz_cpL, eq_self, true_and, and_true, false_and, and_false, if_true, if_false, reduceIte, ite_true, ite_false, not_true_eq_false, not_false_eq_true, fcN_96 hF, fcR_96_5 hF, X405, X402, fcN_29 hF, g1, g2, g3, hp, t1, acc_enc, t2, v2, aqq, esp, f45, o_s]
          exact x z
        · rw [lf_200_19]
          by_cases h70 : tI b 70 0 p = 0
          · simp (config := {decide := true}) only [gfI_enc, gfL_enc, gfR_enc, pfI_enc, pfL_enc, pfR_enc, Option.bind_some, cI_v, cL_v, cF_v, cD_v, cR_v, cV_v, cI_x, cL_x, cR_x, cV_x, gz_0, gz_1, acc_enc, tI_sI, tL_sI, tR_sI, tN_sI, tZ_sI, tC_sI, tc_sI, tz_sI, tI_sL, tL_sL, tR_sL, tN_sL, tZ_sL, tC_sL, tc_sL, tz_sL, tI_sR, tL_sR, tR_sR, tN_sR, tZ_sR, tC_sR, tc_sR, tz_sR, tI_sZ, tL_sZ, tR_sZ, tN_sZ, tZ_sZ, tC_sZ, tc_sZ, tz_sZ, tI_sC, tL_sC, tR_sC, tN_sC, tZ_sC, tC_sC, tc_sC, tz_sC, tI_aC, tL_aC, tR_aC, tN_aC, tZ_aC, tC_aC, tc_aC, tz_aC, tI_rmL, tL_rmL, tR_rmL, tN_rmL, tZ_rmL, tC_rmL, tc_rmL, tz_rmL, tI_mk, tL_mk, tR_mk, tN_mk, tZ_mk, tC_mk, tc_mk, tz_mk, tI_pushL, tL_pushL, tR_pushL, tN_pushL, tZ_pushL, tC_pushL, tc_pushL, tz_pushL, tI_pushB, tL_pushB, tR_pushB, tN_pushB, tZ_pushB, tC_pushB, tc_pushB, tz_pushB, tI_cpL, tL_cpL, tR_cpL, tN_cpL, tZ_cpL, tC_cpL, tc_cpL, tz_cpL, eq_self, true_and, and_true, false_and, and_false, if_true, if_false, reduceIte, ite_true, ite_false, not_true_eq_false, not_false_eq_true, frN_95 hFR, frR_95_7 hFR, frN_93 hFR, P4, g3, f0, f2, eso, frR_95_15 hFR, frN_70 hFR, frZ_70 hFR, gaI_enc, g1, g2, g4, h70, b0, b2, o_s]
            exact y z
          · simp (config := {decide := true}) only [gfI_enc, gfL_enc, gfR_enc, pfI_enc, pfL_enc, pfR_enc, Option.bind_some, cI_v, cL_v, cF_v, cD_v, cR_v, cV_v, cI_x, cL_x, cR_x, cV_x, gz_0, gz_1, acc_enc, tI_sI, tL_sI, tR_sI, tN_sI, tZ_sI, tC_sI, tc_sI, tz_sI, tI_sL, tL_sL, tR_sL, tN_sL, tZ_sL, tC_sL, tc_sL, tz_sL, tI_sR, tL_sR, tR_sR, tN_sR, tZ_sR, tC_sR, tc_sR, tz_sR, tI_sZ, tL_sZ, tR_sZ, tN_sZ, tZ_sZ, tC_sZ, tc_sZ, tz_sZ, tI_sC, tL_sC, tR_sC, tN_sC, tZ_sC, tC_sC, tc_sC, tz_sC, tI_aC, tL_aC, tR_aC, tN_aC, tZ_aC, tC_aC, tc_aC, tz_aC, tI_rmL, tL_rmL, tR_rmL, tN_rmL, tZ_rmL, tC_rmL, tc_rmL, tz_rmL, tI_mk, tL_mk, tR_mk, tN_mk, tZ_mk, tC_mk, tc_mk, tz_mk, tI_pushL, tL_pushL, tR_pushL, tN_pushL, tZ_pushL, tC_pushL, tc_pushL, tz_pushL, tI_pushB, tL_pushB, tR_pushB, tN_pushB, tZ_pushB, tC_pushB, tc_pushB, tz_pushB, tI_cpL, tL_cpL, tR_cpL, tN_cpL, tZ_cpL, tC_cpL, tc_cpL, tz_cpL, eq_self, true_and, and_true, false_and, and_false, if_true, if_false, reduceIte, ite_true, ite_false, not_true_eq_false, not_false_eq_true, frN_95 hFR, frR_95_7 hFR, frN_93 hFR, P4, g3, f0, f2, eso, frR_95_15 hFR, frN_70 hFR, frZ_70 hFR, gaI_enc, g1, g2, g4, h70, o_s]
            exact y z
    · have esp : ¬ (some ((36 : Nat), s') = some ((36 : Nat), sh)) := fun q => es (by injection q with q; injection q)
      have eso : ¬ (Int32.ofNat s' = Int32.ofNat sh) := fun q => es (o_inj (by omega) (by omega) q)
      refine ⟨w, a', b', fun z => ?_, fun z => ?_, hc, wa, wb, sa, sb, h95'⟩
      · rw [lf_98_17]
        simp (config := {decide := true}) only [gfI_enc, gfL_enc, gfR_enc, pfI_enc, pfL_enc, pfR_enc, Option.bind_some, cI_v, cL_v, cF_v, cD_v, cR_v, cV_v, cI_x, cL_x, cR_x, cV_x, gz_0, gz_1, acc_enc, tI_sI, tL_sI, tR_sI, tN_sI, tZ_sI, tC_sI, tc_sI, tz_sI, tI_sL, tL_sL, tR_sL, tN_sL, tZ_sL, tC_sL, tc_sL, tz_sL, tI_sR, tL_sR, tR_sR, tN_sR, tZ_sR, tC_sR, tc_sR, tz_sR, tI_sZ, tL_sZ, tR_sZ, tN_sZ, tZ_sZ, tC_sZ, tc_sZ, tz_sZ, tI_sC, tL_sC, tR_sC, tN_sC, tZ_sC, tC_sC, tc_sC, tz_sC, tI_aC, tL_aC, tR_aC, tN_aC, tZ_aC, tC_aC, tc_aC, tz_aC, tI_rmL, tL_rmL, tR_rmL, tN_rmL, tZ_rmL, tC_rmL, tc_rmL, tz_rmL, tI_mk, tL_mk, tR_mk, tN_mk, tZ_mk, tC_mk, tc_mk, tz_mk, tI_pushL, tL_pushL, tR_pushL, tN_pushL, tZ_pushL, tC_pushL, tc_pushL, tz_pushL, tI_pushB, tL_pushB, tR_pushB, tN_pushB, tZ_pushB, tC_pushB, tc_pushB, tz_pushB, tI_cpL, tL_cpL, tR_cpL, tN_cpL, tZ_cpL, tC_cpL, tc_cpL, tz_cpL, eq_self, true_and, and_true, false_and, and_false, if_true, if_false, reduceIte, ite_true, ite_false, not_true_eq_false, not_false_eq_true, fcN_96 hF, fcR_96_5 hF, X405, X402, fcN_29 hF, g1, g2, g3, hp, t1, acc_enc, t2, v2, aqq, esp, o_s]
        exact x z
      · rw [lf_200_19]
        simp (config := {decide := true}) only [gfI_enc, gfL_enc, gfR_enc, pfI_enc, pfL_enc, pfR_enc, Option.bind_some, cI_v, cL_v, cF_v, cD_v, cR_v, cV_v, cI_x, cL_x, cR_x, cV_x, gz_0, gz_1, acc_enc, tI_sI, tL_sI, tR_sI, tN_sI, tZ_sI, tC_sI, tc_sI, tz_sI, tI_sL, tL_sL, tR_sL, tN_sL, tZ_sL, tC_sL, tc_sL, tz_sL, tI_sR, tL_sR, tR_sR, tN_sR, tZ_sR, tC_sR, tc_sR, tz_sR, tI_sZ, tL_sZ, tR_sZ, tN_sZ, tZ_sZ, tC_sZ, tc_sZ, tz_sZ, tI_sC, tL_sC, tR_sC, tN_sC, tZ_sC, tC_sC, tc_sC, tz_sC, tI_aC, tL_aC, tR_aC, tN_aC, tZ_aC, tC_aC, tc_aC, tz_aC, tI_rmL, tL_rmL, tR_rmL, tN_rmL, tZ_rmL, tC_rmL, tc_rmL, tz_rmL, tI_mk, tL_mk, tR_mk, tN_mk, tZ_mk, tC_mk, tc_mk, tz_mk, tI_pushL, tL_pushL, tR_pushL, tN_pushL, tZ_pushL, tC_pushL, tc_pushL, tz_pushL, tI_pushB, tL_pushB, tR_pushB, tN_pushB, tZ_pushB, tC_pushB, tc_pushB, tz_pushB, tI_cpL, tL_cpL, tR_cpL, tN_cpL, tZ_cpL, tC_cpL, tc_cpL, tz_cpL, eq_self, true_and, and_true, false_and, and_false, if_true, if_false, reduceIte, ite_true, ite_false, not_true_eq_false, not_false_eq_true, frN_95 hFR, frR_95_7 hFR, frN_93 hFR, P4, g3, f0, f2, eso, o_s]
        exact y z
theorem op_sends {a b : TS} {C : Nat} (h : Core a b C) (p : Int32) : OpR 140 [aI p, aI (Int32.ofNat (tZ a 27 0))] 98 [aR (some (96, 0)), aI p] 267 [aR (some (97, 0)), aI p] (fun r => r) a b C C := by
  have hR := h.1.1
  have hF := r_FC hR
  have hFR := r_FR hR
  by_cases e0 : inR p 0 (Int32.ofNat (tZ a 27 0) - 1)
  · have x0 := x140_1 e0
    obtain ⟨sh, hsh, e⟩ := inR_ex e0 (by have := (r_S hR).1; omega)
    subst e
    obtain ⟨r1, r2, r3⟩ := shop_at hR hsh
    have y0 := fun z => y191_1 (z := z) hR hsh
    have f189 := fun w z => y189_1 (b := b) (z := z) (w := w) hFR
    have h0 : Core a (sI b 95 0 0 0) C := Core_th h th95_c th95_w
    have i95 : tI (sI b 95 0 0 0) 95 0 0 = 0 := by rw [tI_sI, if_pos ⟨rfl, rfl, rfl⟩]
    have g1 : (Int32.ofNat sh).toNatClampNeg = sh := o_ix (by omega)
    have g2 : ¬ Int32.ofNat sh < 0 := o_lt0 (by omega)
    have o0 : Int32.ofNat 0 = 0 := rfl
    have key : ∃ w a' b', (∀ z, Ru 98 17 [(0, aR (some (96, 0))), (2, aR (some (36, sh))), (3, aI 0), (4, aI 0)] [] (enc 1 a z) = some (.inl (some (aI w)), enc 1 a' z)) ∧ (∀ z, Ru 200 19 [(0, aR (some (95, 0))), (1, aI (Int32.ofNat sh)), (2, aI 0), (3, aI 0)] [] (enc 2 (sI b 95 0 0 0) z) = some (.inl (some (aI w)), enc 2 b' z)) ∧
        Core a' b' C ∧ Wr a a' ∧ Wr b b' ∧ sam txA a a' ∧ sam txB b b' ∧ tI b' 95 0 0 = 0 := by
      by_cases hz : tZ a 29 0 = 0
      · have hF0 := r_FR h0.1.1
        obtain ⟨P1, P2, P3, P4, -⟩ := r_P' h0.1.1
        rw [hz] at P4
        have n0 : (0 : Int32) ≤ 0 := by decide
        refine ⟨0, a, sI b 95 0 0 0, fun z => ?_, fun z => ?_, h0, Wr.rf _, th95_w, sam_r _ _, sam_c (th95_c (b := b) (v := 0)) (by decide), i95⟩
        · rw [lf_98_17]
          simp (config := {decide := true}) only [gfI_enc, gfL_enc, gfR_enc, pfI_enc, pfL_enc, pfR_enc, Option.bind_some, cI_v, cL_v, cF_v, cD_v, cR_v, cV_v, cI_x, cL_x, cR_x, cV_x, gz_0, gz_1, acc_enc, tI_sI, tL_sI, tR_sI, tN_sI, tZ_sI, tC_sI, tc_sI, tz_sI, tI_sL, tL_sL, tR_sL, tN_sL, tZ_sL, tC_sL, tc_sL, tz_sL, tI_sR, tL_sR, tR_sR, tN_sR, tZ_sR, tC_sR, tc_sR, tz_sR, tI_sZ, tL_sZ, tR_sZ, tN_sZ, tZ_sZ, tC_sZ, tc_sZ, tz_sZ, tI_sC, tL_sC, tR_sC, tN_sC, tZ_sC, tC_sC, tc_sC, tz_sC, tI_aC, tL_aC, tR_aC, tN_aC, tZ_aC, tC_aC, tc_aC, tz_aC, tI_rmL, tL_rmL, tR_rmL, tN_rmL, tZ_rmL, tC_rmL, tc_rmL, tz_rmL, tI_mk, tL_mk, tR_mk, tN_mk, tZ_mk, tC_mk, tc_mk, tz_mk, tI_pushL, tL_pushL, tR_pushL, tN_pushL, tZ_pushL, tC_pushL, tc_pushL, tz_pushL, tI_pushB, tL_pushB, tR_pushB, tN_pushB, tZ_pushB, tC_pushB, tc_pushB, tz_pushB, tI_cpL, tL_cpL, tR_cpL, tN_cpL, tZ_cpL, tC_cpL, tc_cpL, tz_cpL, eq_self, true_and, and_true, false_and, and_false, if_true, if_false, reduceIte, ite_true, ite_false, not_true_eq_false, not_false_eq_true, fcN_96 hF, fcR_96_5 hF, X405, fcN_29 hF, hz, o0, n0]
        · rw [lf_200_19]
          obtain ⟨-, -, -, P4', -⟩ := r_P' hR
          rw [hz] at P4'
          simp (config := {decide := true}) only [gfI_enc, gfL_enc, gfR_enc, pfI_enc, pfL_enc, pfR_enc, Option.bind_some, cI_v, cL_v, cF_v, cD_v, cR_v, cV_v, cI_x, cL_x, cR_x, cV_x, gz_0, gz_1, acc_enc, tI_sI, tL_sI, tR_sI, tN_sI, tZ_sI, tC_sI, tc_sI, tz_sI, tI_sL, tL_sL, tR_sL, tN_sL, tZ_sL, tC_sL, tc_sL, tz_sL, tI_sR, tL_sR, tR_sR, tN_sR, tZ_sR, tC_sR, tc_sR, tz_sR, tI_sZ, tL_sZ, tR_sZ, tN_sZ, tZ_sZ, tC_sZ, tc_sZ, tz_sZ, tI_sC, tL_sC, tR_sC, tN_sC, tZ_sC, tC_sC, tc_sC, tz_sC, tI_aC, tL_aC, tR_aC, tN_aC, tZ_aC, tC_aC, tc_aC, tz_aC, tI_rmL, tL_rmL, tR_rmL, tN_rmL, tZ_rmL, tC_rmL, tc_rmL, tz_rmL, tI_mk, tL_mk, tR_mk, tN_mk, tZ_mk, tC_mk, tc_mk, tz_mk, tI_pushL, tL_pushL, tR_pushL, tN_pushL, tZ_pushL, tC_pushL, tc_pushL, tz_pushL, tI_pushB, tL_pushB, tR_pushB, tN_pushB, tZ_pushB, tC_pushB, tc_pushB, tz_pushB, tI_cpL, tL_cpL, tR_cpL, tN_cpL, tZ_cpL, tC_cpL, tc_cpL, tz_cpL, eq_self, true_and, and_true, false_and, and_false, if_true, if_false, reduceIte, ite_true, ite_false, not_true_eq_false, not_false_eq_true, frN_95 hFR, frR_95_7 hFR, frN_93 hFR, P4', o0, n0]
      · have st := fun z => y200_start (b := sI b 95 0 0 0) (z := z) (p := 0) (sh := sh) 0 h0.1.1 (by omega)
        rw [o0] at st
        have h1 : Core a (sI (sI b 95 0 0 0) 93 0 10 0) C := Core_th h0 th93_c th93_w
        obtain ⟨w, a', b', x, y, hc, wa, wb, sa, sb, h95'⟩ := sends_loop (tZ a 29 0) 0 0 a _ (Nat.zero_add _) hsh h1 (by rw [tI_sI, if_neg (fun q => absurd q.1 (by decide))]; exact i95) (by rw [tI_sI, if_pos ⟨rfl, rfl, rfl⟩])
        rw [o0] at x y
        exact ⟨w, a', b', x, fun z => (st z).trans (y z), hc, wa, (th95_w.t th93_w).t wb, sa, sam_t (sam_c (chF_t (th95_c (b := b) (v := 0)) (th93_c (v := 0))) (by decide)) sb, h95'⟩
    obtain ⟨w, a', b', x, y, hc, wa, wb, sa, sb, h95'⟩ := key
    have f256 := fun v z => y256 (b := b') (z := z) (v := v) (r_FR hc.1.1)
    rw [h95'] at f256
    refine Or.inr (done_of (fun z => x0 _) ⟨w, a', sI b' 97 0 8 0, fun z => ?_, fun z => ?_, th_v, Core_th hc th_c th_w, wa, wb.t th_w, sa, sam_t sb th_s⟩)
    · refine (X_in (by decide +kernel) (fcN_96 hF) rfl).trans ((lf_98_0 ..).trans ?_)
      simp (config := {decide := true}) only [gfI_enc, gfL_enc, gfR_enc, pfI_enc, pfL_enc, pfR_enc, Option.bind_some, cI_v, cL_v, cF_v, cD_v, cR_v, cV_v, cI_x, cL_x, cR_x, cV_x, gz_0, gz_1, acc_enc, tI_sI, tL_sI, tR_sI, tN_sI, tZ_sI, tC_sI, tc_sI, tz_sI, tI_sL, tL_sL, tR_sL, tN_sL, tZ_sL, tC_sL, tc_sL, tz_sL, tI_sR, tL_sR, tR_sR, tN_sR, tZ_sR, tC_sR, tc_sR, tz_sR, tI_sZ, tL_sZ, tR_sZ, tN_sZ, tZ_sZ, tC_sZ, tc_sZ, tz_sZ, tI_sC, tL_sC, tR_sC, tN_sC, tZ_sC, tC_sC, tc_sC, tz_sC, tI_aC, tL_aC, tR_aC, tN_aC, tZ_aC, tC_aC, tc_aC, tz_aC, tI_rmL, tL_rmL, tR_rmL, tN_rmL, tZ_rmL, tC_rmL, tc_rmL, tz_rmL, tI_mk, tL_mk, tR_mk, tN_mk, tZ_mk, tC_mk, tc_mk, tz_mk, tI_pushL, tL_pushL, tR_pushL, tN_pushL, tZ_pushL, tC_pushL, tc_pushL, tz_pushL, tI_pushB, tL_pushB, tR_pushB, tN_pushB, tZ_pushB, tC_pushB, tc_pushB, tz_pushB, tI_cpL, tL_cpL, tR_cpL, tN_cpL, tZ_cpL, tC_cpL, tc_cpL, tz_cpL, eq_self, true_and, and_true, false_and, and_false, if_true, if_false, reduceIte, ite_true, ite_false, not_true_eq_false, not_false_eq_true, fcN_96 hF, fcR_96_3 hF, X402, fcN_27 hF, g1, g2, hsh, r1, acc_enc, r2]
      exact x z
    · have f200 : ∀ z, Ex 200 [aR (some (95, 0)), aI (Int32.ofNat sh)] (enc 2 b z) = some (.inl (some (aI w)), enc 2 b' z) := fun z => by
        refine (X_in (by decide +kernel) (frN_95 hFR) rfl).trans ((lf_200_0 ..).trans ?_)
        simp (config := {decide := true}) only [gfI_enc, gfL_enc, gfR_enc, pfI_enc, pfL_enc, pfR_enc, Option.bind_some, cI_v, cL_v, cF_v, cD_v, cR_v, cV_v, cI_x, cL_x, cR_x, cV_x, gz_0, gz_1, acc_enc, tI_sI, tL_sI, tR_sI, tN_sI, tZ_sI, tC_sI, tc_sI, tz_sI, tI_sL, tL_sL, tR_sL, tN_sL, tZ_sL, tC_sL, tc_sL, tz_sL, tI_sR, tL_sR, tR_sR, tN_sR, tZ_sR, tC_sR, tc_sR, tz_sR, tI_sZ, tL_sZ, tR_sZ, tN_sZ, tZ_sZ, tC_sZ, tc_sZ, tz_sZ, tI_sC, tL_sC, tR_sC, tN_sC, tZ_sC, tC_sC, tc_sC, tz_sC, tI_aC, tL_aC, tR_aC, tN_aC, tZ_aC, tC_aC, tc_aC, tz_aC, tI_rmL, tL_rmL, tR_rmL, tN_rmL, tZ_rmL, tC_rmL, tc_rmL, tz_rmL, tI_mk, tL_mk, tR_mk, tN_mk, tZ_mk, tC_mk, tc_mk, tz_mk, tI_pushL, tL_pushL, tR_pushL, tN_pushL, tZ_pushL, tC_pushL, tc_pushL, tz_pushL, tI_pushB, tL_pushB, tR_pushB, tN_pushB, tZ_pushB, tC_pushB, tc_pushB, tz_pushB, tI_cpL, tL_cpL, tR_cpL, tN_cpL, tZ_cpL, tC_cpL, tc_cpL, tz_cpL, eq_self, true_and, and_true, false_and, and_false, if_true, if_false, reduceIte, ite_true, ite_false, not_true_eq_false, not_false_eq_true, y0, f189]
        exact y z
      refine (X_in (by decide +kernel) (frN_97 hFR) rfl).trans ((lf_267_0 ..).trans ?_)
      simp (config := {decide := true}) only [gfI_enc, gfL_enc, gfR_enc, pfI_enc, pfL_enc, pfR_enc, Option.bind_some, cI_v, cL_v, cF_v, cD_v, cR_v, cV_v, cI_x, cL_x, cR_x, cV_x, gz_0, gz_1, acc_enc, tI_sI, tL_sI, tR_sI, tN_sI, tZ_sI, tC_sI, tc_sI, tz_sI, tI_sL, tL_sL, tR_sL, tN_sL, tZ_sL, tC_sL, tc_sL, tz_sL, tI_sR, tL_sR, tR_sR, tN_sR, tZ_sR, tC_sR, tc_sR, tz_sR, tI_sZ, tL_sZ, tR_sZ, tN_sZ, tZ_sZ, tC_sZ, tc_sZ, tz_sZ, tI_sC, tL_sC, tR_sC, tN_sC, tZ_sC, tC_sC, tc_sC, tz_sC, tI_aC, tL_aC, tR_aC, tN_aC, tZ_aC, tC_aC, tc_aC, tz_aC, tI_rmL, tL_rmL, tR_rmL, tN_rmL, tZ_rmL, tC_rmL, tc_rmL, tz_rmL, tI_mk, tL_mk, tR_mk, tN_mk, tZ_mk, tC_mk, tc_mk, tz_mk, tI_pushL, tL_pushL, tR_pushL, tN_pushL, tZ_pushL, tC_pushL, tc_pushL, tz_pushL, tI_pushB, tL_pushB, tR_pushB, tN_pushB, tZ_pushB, tC_pushB, tc_pushB, tz_pushB, tI_cpL, tL_cpL, tR_cpL, tN_cpL, tZ_cpL, tC_cpL, tc_cpL, tz_cpL, eq_self, true_and, and_true, false_and, and_false, if_true, if_false, reduceIte, ite_true, ite_false, not_true_eq_false, not_false_eq_true, frN_97 hFR, frR_97_4 hFR, f200, f256]
  · have x0 := x140_0 e0
    have y0 := fun z => y191_0 (z := z) hR e0
    have f189 := fun w z => y189_0 (b := b) (z := z) (w := w) hFR
    have f256 := fun v z => y256 (b := sI b 95 0 0 1) (z := z) (v := v) (r_FR (Core_th h th95_c th95_w).1.1)
    have e95 : tI (sI b 95 0 0 1) 95 0 0 = 1 := by rw [tI_sI, if_pos ⟨rfl, rfl, rfl⟩]
    have f200 : ∀ z, Ex 200 [aR (some (95, 0)), aI p] (enc 2 b z) = some (.inl (some (aI 0)), enc 2 (sI b 95 0 0 1) z) := fun z => by
      refine (X_in (by decide +kernel) (frN_95 hFR) rfl).trans ((lf_200_0 ..).trans ?_)
      simp (config := {decide := true}) only [gfI_enc, gfL_enc, gfR_enc, pfI_enc, pfL_enc, pfR_enc, Option.bind_some, cI_v, cL_v, cF_v, cD_v, cR_v, cV_v, cI_x, cL_x, cR_x, cV_x, gz_0, gz_1, acc_enc, tI_sI, tL_sI, tR_sI, tN_sI, tZ_sI, tC_sI, tc_sI, tz_sI, tI_sL, tL_sL, tR_sL, tN_sL, tZ_sL, tC_sL, tc_sL, tz_sL, tI_sR, tL_sR, tR_sR, tN_sR, tZ_sR, tC_sR, tc_sR, tz_sR, tI_sZ, tL_sZ, tR_sZ, tN_sZ, tZ_sZ, tC_sZ, tc_sZ, tz_sZ, tI_sC, tL_sC, tR_sC, tN_sC, tZ_sC, tC_sC, tc_sC, tz_sC, tI_aC, tL_aC, tR_aC, tN_aC, tZ_aC, tC_aC, tc_aC, tz_aC, tI_rmL, tL_rmL, tR_rmL, tN_rmL, tZ_rmL, tC_rmL, tc_rmL, tz_rmL, tI_mk, tL_mk, tR_mk, tN_mk, tZ_mk, tC_mk, tc_mk, tz_mk, tI_pushL, tL_pushL, tR_pushL, tN_pushL, tZ_pushL, tC_pushL, tc_pushL, tz_pushL, tI_pushB, tL_pushB, tR_pushB, tN_pushB, tZ_pushB, tC_pushB, tc_pushB, tz_pushB, tI_cpL, tL_cpL, tR_cpL, tN_cpL, tZ_cpL, tC_cpL, tc_cpL, tz_cpL, eq_self, true_and, and_true, false_and, and_false, if_true, if_false, reduceIte, ite_true, ite_false, not_true_eq_false, not_false_eq_true, y0, f189]
    refine OpR_bad (b' := sI (sI b 95 0 0 1) 97 0 8 1) h 1 (by omega) (by omega) (fun z => x0 _) (fun z => ?_) (chF_t th95_c th_c) (th95_w.t th_w) th_v
    refine (X_in (by decide +kernel) (frN_97 hFR) rfl).trans ((lf_267_0 ..).trans ?_)
    simp (config := {decide := true}) only [gfI_enc, gfL_enc, gfR_enc, pfI_enc, pfL_enc, pfR_enc, Option.bind_some, cI_v, cL_v, cF_v, cD_v, cR_v, cV_v, cI_x, cL_x, cR_x, cV_x, gz_0, gz_1, acc_enc, tI_sI, tL_sI, tR_sI, tN_sI, tZ_sI, tC_sI, tc_sI, tz_sI, tI_sL, tL_sL, tR_sL, tN_sL, tZ_sL, tC_sL, tc_sL, tz_sL, tI_sR, tL_sR, tR_sR, tN_sR, tZ_sR, tC_sR, tc_sR, tz_sR, tI_sZ, tL_sZ, tR_sZ, tN_sZ, tZ_sZ, tC_sZ, tc_sZ, tz_sZ, tI_sC, tL_sC, tR_sC, tN_sC, tZ_sC, tC_sC, tc_sC, tz_sC, tI_aC, tL_aC, tR_aC, tN_aC, tZ_aC, tC_aC, tc_aC, tz_aC, tI_rmL, tL_rmL, tR_rmL, tN_rmL, tZ_rmL, tC_rmL, tc_rmL, tz_rmL, tI_mk, tL_mk, tR_mk, tN_mk, tZ_mk, tC_mk, tc_mk, tz_mk, tI_pushL, tL_pushL, tR_pushL, tN_pushL, tZ_pushL, tC_pushL, tc_pushL, tz_pushL, tI_pushB, tL_pushB, tR_pushB, tN_pushB, tZ_pushB, tC_pushB, tc_pushB, tz_pushB, tI_cpL, tL_cpL, tR_cpL, tN_cpL, tZ_cpL, tC_cpL, tc_cpL, tz_cpL, eq_self, true_and, and_true, false_and, and_false, if_true, if_false, reduceIte, ite_true, ite_false, not_true_eq_false, not_false_eq_true, frN_97 hFR, frR_97_4 hFR, f200, f256, e95]
