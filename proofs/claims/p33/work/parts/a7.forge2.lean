theorem y199t {a b : TS} {z : Hp} {p : Nat} (n so : Int32) (hR : R0 a b) (hR1 : R0 a (sI b 93 0 10 0)) (hp : p < tZ a 29 0) : Ex 199 [aR (some (95, 0)), aI (Int32.ofNat p), aI n, aI so] (enc 2 b z) =
    some (.inl (some (aR (some (77, tN b 77)))), enc 2 (sI (maB (sI b 93 0 10 0) 2 n (tI b 87 0 (10 * p + 1)) (tI b 87 0 (10 * p + 4)) (tI b 87 0 (10 * p + 3)) (tI b 87 0 (10 * p + 5))) 77 (tN b 77) 6 so) z) := by
  have hF := r_FR hR
  have o77 : isO 2 17 77 := ⟨by decide +kernel, by decide +kernel⟩
  have e87 : ∀ w, tI (sI b 93 0 10 0) 87 0 (10 * p + w) = tI b 87 0 (10 * p + w) := fun w => by rw [tI_sI, if_neg (fun q => absurd q.1 (by decide))]
  have h0 : tI (sI b 93 0 10 0) 93 0 10 = 0 := by rw [tI_sI, if_pos ⟨rfl, rfl, rfl⟩]
  have f1 := fun z => y247 (b := b) (z := z) (p := p) (w := 1) hR hp (by omega)
  have f4 := fun z => y247s (b := sI b 93 0 10 0) (z := z) (p := p) (w := 4) hR1 hp (by omega) h0
  have f3 := fun z => y247s (b := sI b 93 0 10 0) (z := z) (p := p) (w := 3) hR1 hp (by omega) h0
  have f5 := fun z => y247s (b := sI b 93 0 10 0) (z := z) (p := p) (w := 5) hR1 hp (by omega) h0
  have o1 : Int32.ofNat 1 = 1 := rfl
  have o4 : Int32.ofNat 4 = 4 := rfl
  have o3 : Int32.ofNat 3 = 3 := rfl
  have o5 : Int32.ofNat 5 = 5 := rfl
  rw [o1] at f1
  rw [o4, e87] at f4
  rw [o3, e87] at f3
  rw [o5, e87] at f5
  have hn : tN b 77 < tN (maB (sI b 93 0 10 0) 2 n (tI b 87 0 (10 * p + 1)) (tI b 87 0 (10 * p + 4)) (tI b 87 0 (10 * p + 3)) (tI b 87 0 (10 * p + 5))) 77 := by rw [(maB_eq _ _ _ _ _ _ _).2.2.1, if_pos rfl, tN_sI]; omega
  refine (X_in (by decide +kernel) (frN_95 hF) rfl).trans ((lf_199_0 ..).trans ?_)
  simp (config := {decide := true}) only [gfI_enc, gfL_enc, gfR_enc, pfI_enc, pfL_enc, pfR_enc, Option.bind_some, cI_v, cL_v, cF_v, cD_v, cR_v, cV_v, cI_x, cL_x, cR_x, cV_x, gz_0, gz_1, acc_enc, tI_sI, tL_sI, tR_sI, tN_sI, tZ_sI, tC_sI, tc_sI, tz_sI, tI_sL, tL_sL, tR_sL, tN_sL, tZ_sL, tC_sL, tc_sL, tz_sL, tI_sR, tL_sR, tR_sR, tN_sR, tZ_sR, tC_sR, tc_sR, tz_sR, tI_sZ, tL_sZ, tR_sZ, tN_sZ, tZ_sZ, tC_sZ, tc_sZ, tz_sZ, tI_sC, tL_sC, tR_sC, tN_sC, tZ_sC, tC_sC, tc_sC, tz_sC, tI_aC, tL_aC, tR_aC, tN_aC, tZ_aC, tC_aC, tc_aC, tz_aC, tI_rmL, tL_rmL, tR_rmL, tN_rmL, tZ_rmL, tC_rmL, tc_rmL, tz_rmL, tI_mk, tL_mk, tR_mk, tN_mk, tZ_mk, tC_mk, tc_mk, tz_mk, tI_pushL, tL_pushL, tR_pushL, tN_pushL, tZ_pushL, tC_pushL, tc_pushL, tz_pushL, tI_pushB, tL_pushB, tR_pushB, tN_pushB, tZ_pushB, tC_pushB, tc_pushB, tz_pushB, tI_cpL, tL_cpL, tR_cpL, tN_cpL, tZ_cpL, tC_cpL, tc_cpL, tz_cpL, eq_self, true_and, and_true, false_and, and_false, if_true, if_false, reduceIte, ite_true, ite_false, not_true_eq_false, not_false_eq_true, frN_95 hF, frR_95_7 hF, f1, f4, f3, f5, y198, pI_o o77, hn]
set_option maxHeartbeats 4000000 in
theorem op_forge {a b : TS} {C : Nat} (h : Core a b C) (hC : C + 1 ≤ 512) (p0 p1 p2 : Int32) : OpR 103 [aR (some (96, 0)), aI p0, aI p1, aI p2] 102 [aR (some (96, 0)), aI p0, aI p1, aI p2] 269 [aR (some (97, 0)), aI p0, aI p1, aI p2] (fun r => r) a b C (C + 1) := by
  have hR := h.1.1
  have hF := r_FC hR
  have hFR := r_FR hR
  have up2 : ∀ {v w : Int32}, chF [] FtH b (sI (sI b 95 0 0 v) 95 0 0 w) ∧ Wr b (sI (sI b 95 0 0 v) 95 0 0 w) := fun {v w} => ⟨chF_t th95_c th95_c, th95_w.t th95_w⟩
  have bad1 : (∀ z, Ex 103 [aR (some (96, 0)), aI p0, aI p1, aI p2] (enc 1 a z) = some (.inl (some (aI 1)), enc 1 a z)) → (∀ z, Ex 202 [aR (some (95, 0)), aI p0, aI p1, aI p2] (enc 2 b z) = some (.inl (some (aI 0)), enc 2 (sI b 95 0 0 1) z)) →
      OpR 103 [aR (some (96, 0)), aI p0, aI p1, aI p2] 102 [aR (some (96, 0)), aI p0, aI p1, aI p2] 269 [aR (some (97, 0)), aI p0, aI p1, aI p2] (fun r => r) a b C (C + 1) := fun hx hy => by
    have f256 := fun v z => y256 (b := sI b 95 0 0 1) (z := z) (v := v) (r_FR (Core_th h th95_c th95_w).1.1)
    have e95 : tI (sI b 95 0 0 1) 95 0 0 = 1 := by rw [tI_sI, if_pos ⟨rfl, rfl, rfl⟩]
    refine OpR_bad (b' := sI (sI b 95 0 0 1) 97 0 8 1) h 1 (by omega) (by omega) hx (fun z => ?_) (chF_t th95_c th_c) (th95_w.t th_w) th_v
    refine (X_in (by decide +kernel) (frN_97 hFR) rfl).trans ((lf_269_0 ..).trans ?_)
    simp (config := {decide := true}) only [gfI_enc, gfL_enc, gfR_enc, pfI_enc, pfL_enc, pfR_enc, Option.bind_some, cI_v, cL_v, cF_v, cD_v, cR_v, cV_v, cI_x, cL_x, cR_x, cV_x, gz_0, gz_1, acc_enc, tI_sI, tL_sI, tR_sI, tN_sI, tZ_sI, tC_sI, tc_sI, tz_sI, tI_sL, tL_sL, tR_sL, tN_sL, tZ_sL, tC_sL, tc_sL, tz_sL, tI_sR, tL_sR, tR_sR, tN_sR, tZ_sR, tC_sR, tc_sR, tz_sR, tI_sZ, tL_sZ, tR_sZ, tN_sZ, tZ_sZ, tC_sZ, tc_sZ, tz_sZ, tI_sC, tL_sC, tR_sC, tN_sC, tZ_sC, tC_sC, tc_sC, tz_sC, tI_aC, tL_aC, tR_aC, tN_aC, tZ_aC, tC_aC, tc_aC, tz_aC, tI_rmL, tL_rmL, tR_rmL, tN_rmL, tZ_rmL, tC_rmL, tc_rmL, tz_rmL, tI_mk, tL_mk, tR_mk, tN_mk, tZ_mk, tC_mk, tc_mk, tz_mk, tI_pushL, tL_pushL, tR_pushL, tN_pushL, tZ_pushL, tC_pushL, tc_pushL, tz_pushL, tI_pushB, tL_pushB, tR_pushB, tN_pushB, tZ_pushB, tC_pushB, tc_pushB, tz_pushB, tI_cpL, tL_cpL, tR_cpL, tN_cpL, tZ_cpL, tC_cpL, tc_cpL, tz_cpL, eq_self, true_and, and_true, false_and, and_false, if_true, if_false, reduceIte, ite_true, ite_false, not_true_eq_false, not_false_eq_true, frN_97 hFR, frR_97_4 hFR, hy, f256, e95]
  by_cases e0 : inR p0 0 (Int32.ofNat (tZ a 27 0) - 1)
  · have x0 := x139_1 e0
    obtain ⟨sh, hsh, e⟩ := inR_ex e0 (by have := (r_S hR).1; omega)
    subst e
    have y0 := fun z => y191_1 (z := z) hR hsh
    have f189 := fun w z => y189_1 (b := b) (z := z) (w := w) hFR
    by_cases e1 : inR p1 0 (Int32.ofNat (tZ a 29 0) - 1)
    · have x1 := x139_1 e1
      obtain ⟨P1, P2, P3, P4, P5, P6, P7⟩ := r_P' hR
      obtain ⟨p, hp, e⟩ := inR_ex e1 (by omega)
      subst e
      have y1 := fun z => y192_1 (z := z) hR hp
      have hF0 : FxR (sI b 95 0 0 0) := r_FR (Core_th h th95_c th95_w).1.1
      have f189' := fun w z => y189_1 (b := sI b 95 0 0 0) (z := z) (w := w) hF0
      have f189n := fun w z => y189_0 (b := sI b 95 0 0 0) (z := z) (w := w) hF0
      by_cases e2 : inR p2 0 999
      · have x2 := x139_1 e2
        obtain ⟨n, -, hn, e⟩ := inR_nat (lo := 0) (hi := 999) e2 (by omega) (by omega)
        subst e
        have n2 : ¬ Int32.ofNat n < 0 := e2.1
        have n2' : ¬ (999 : Int32) < Int32.ofNat n := e2.2
        have hb0 : Core a (sI (sI b 95 0 0 0) 95 0 0 0) C := Core_th h up2.1 up2.2
        have hb1 : Core a (sI (sI (sI b 95 0 0 0) 95 0 0 0) 93 0 10 0) C := Core_th hb0 th93_c th93_w
        have f199 := fun z => y199t (z := z) (Int32.ofNat n) 1 hb0.1.1 hb1.1.1 hp
        have cb1 : chF [] FtH b (sI (sI (sI b 95 0 0 0) 95 0 0 0) 93 0 10 0) := chF_t up2.1 th93_c
        have wb1 : Wr b (sI (sI (sI b 95 0 0 0) 95 0 0 0) 93 0 10 0) := up2.2.t th93_w
        have i87 : ∀ k, tI (sI (sI b 95 0 0 0) 95 0 0 0) 87 0 k = tI (sI (sI (sI b 95 0 0 0) 95 0 0 0) 93 0 10 0) 87 0 k := fun k => by rw [tI_sI (sI (sI b 95 0 0 0) 95 0 0 0), if_neg (fun q => absurd q.1 (by decide))]
        have n77 : tN (sI (sI b 95 0 0 0) 95 0 0 0) 77 = tN (sI (sI (sI b 95 0 0 0) 95 0 0 0) 93 0 10 0) 77 := rfl
        have e95 : tI (sI (sI (sI b 95 0 0 0) 95 0 0 0) 93 0 10 0) 95 0 0 = 0 := by rw [tI_sI, if_neg (fun q => absurd q.1 (by decide)), tI_sI, if_pos ⟨rfl, rfl, rfl⟩]
        rw [n77, i87, i87, i87, i87] at f199
        generalize sI (sI (sI b 95 0 0 0) 95 0 0 0) 93 0 10 0 = b1 at *
        have hR1 := hb1.1.1
        obtain ⟨t1, t2, t3⟩ := paym_at hR1 hp
        obtain ⟨r1, r2, r3⟩ := shop_at hR1 hsh
        obtain ⟨-, -, -, -, Q5, -⟩ := r_P' hR1
        obtain ⟨-, u0, ⟨cd, c1, c2, c3⟩, -, ⟨u3, -⟩, ⟨u4, -⟩, -⟩ := Q5 p hp
        obtain ⟨s5, s7, s8, s9, s10, -⟩ := (r_Q hR1).1 p hp
        obtain ⟨d1, d2, d3⟩ := card_at hR1 c1
        have d0 : tI a 37 cd 0 = Int32.ofNat cd := ((r_C hR1).2.2.2.2 cd c1).2.1
        obtain ⟨S1, S2, ⟨S3, S4, S5', S6, S7, S8⟩, S9, S10⟩ := r_S hR1
        obtain ⟨T1, T2, T3, T4, T5, T6, T7, T8, T9, T10, T11⟩ := S10 sh hsh
        have f49 := fun z => x49 (a := a) (z := z) (p := p) (cd := cd) t2 c2 d2
        rw [u0, u3, u4, s5, s9, d0] at f49
        obtain ⟨a3, b3, x, y, hc, wa, wb, sa, sb, ⟨v1, v2, v3⟩, ⟨w1, w2⟩, v95⟩ := core_forge (b := b1) (n := n) (bd := tI b1 87 0 (10 * p + 8)) hb1 hC hsh hp (by omega) c1 c3
        obtain ⟨ta, -, tn, -⟩ := msA_eq (s := 12) (Or.inr rfl) a 3 (Int32.ofNat p) (Int32.ofNat cd) (tI b1 87 0 (10 * p + 4)) (tI b1 87 0 (10 * p + 3)) (tI b1 87 0 (10 * p + 5))
        obtain ⟨tb, -, tbn, -⟩ := maB_eq b1 2 (Int32.ofNat n) (tI b1 87 0 (10 * p + 1)) (tI b1 87 0 (10 * p + 4)) (tI b1 87 0 (10 * p + 3)) (tI b1 87 0 (10 * p + 5))
        unfold frgA at x
        unfold frgB at y
        generalize msA 12 a 3 (Int32.ofNat p) (Int32.ofNat cd) (tI b1 87 0 (10 * p + 4)) (tI b1 87 0 (10 * p + 3)) (tI b1 87 0 (10 * p + 5)) = M at *
        generalize maB b1 2 (Int32.ofNat n) (tI b1 87 0 (10 * p + 1)) (tI b1 87 0 (10 * p + 4)) (tI b1 87 0 (10 * p + 3)) (tI b1 87 0 (10 * p + 5)) = M2 at *
        have l12 : tN a 12 < tN M 12 := by rw [tn, if_pos rfl]; omega
        have l77 : tN b1 77 < tN M2 77 := by rw [tbn, if_pos rfl]; omega
        have hFM : 0 < tN M 96 := by rw [tn, if_neg (by decide)]; exact fcN_96 hF
        have hFM2 : 0 < tN M2 95 := by rw [tbn, if_neg (by decide)]; exact frN_95 (r_FR hR1)
        have m3 : tR M 96 0 3 = some (27, 0) := by rw [dR ta (S := [96]) (P := []) (s := 96) (by decide) (by simp)]; exact fcR_96_3 hF
        have m27 : 0 < tN M 27 := by rw [tn, if_neg (by decide)]; exact fcN_27 hF
        have mz : sh < tZ M 27 0 := by rw [dZ ta (S := [27]) (P := []) (s := 27) (by decide) (by simp)]; exact hsh
        have mr : tR M 27 0 sh = some (36, sh) := by rw [dR ta (S := [27]) (P := []) (s := 27) (by decide) (by simp)]; exact r1
        have m36 : sh < tN M 36 := by rw [tn, if_neg (by decide)]; exact r2
        have m4 : tR M 36 sh 4 = some (21, sh) := by rw [dR ta (S := [36]) (P := []) (s := 36) (by decide) (by simp)]; exact T6
        have g1 : (Int32.ofNat p).toNatClampNeg = p := o_ix (by omega)
        have g2 : ¬ Int32.ofNat p < 0 := o_lt0 (by omega)
        have g3 : (Int32.ofNat sh).toNatClampNeg = sh := o_ix (by omega)
        have g4 : ¬ Int32.ofNat sh < 0 := o_lt0 (by omega)
        have i12 : isM 12 := ⟨by decide +kernel, by decide +kernel⟩
        have o77 : isO 2 17 77 := ⟨by decide +kernel, by decide +kernel⟩
        have f103 : ∀ z, Ex 103 [aR (some (96, 0)), aI (Int32.ofNat sh), aI (Int32.ofNat p), aI (Int32.ofNat n)] (enc 1 a z) = some (.inl (some (aI 0)), enc 1 a z) := fun z => by
          refine (X_in (by decide +kernel) (fcN_96 hF) rfl).trans ((lf_103_0 ..).trans ?_)
          simp (config := {decide := true}) only [gfI_enc, gfL_enc, gfR_enc, pfI_enc, pfL_enc, pfR_enc, Option.bind_some, cI_v, cL_v, cF_v, cD_v, cR_v, cV_v, cI_x, cL_x, cR_x, cV_x, gz_0, gz_1, acc_enc, tI_sI, tL_sI, tR_sI, tN_sI, tZ_sI, tC_sI, tc_sI, tz_sI, tI_sL, tL_sL, tR_sL, tN_sL, tZ_sL, tC_sL, tc_sL, tz_sL, tI_sR, tL_sR, tR_sR, tN_sR, tZ_sR, tC_sR, tc_sR, tz_sR, tI_sZ, tL_sZ, tR_sZ, tN_sZ, tZ_sZ, tC_sZ, tc_sZ, tz_sZ, tI_sC, tL_sC, tR_sC, tN_sC, tZ_sC, tC_sC, tc_sC, tz_sC, tI_aC, tL_aC, tR_aC, tN_aC, tZ_aC, tC_aC, tc_aC, tz_aC, tI_rmL, tL_rmL, tR_rmL, tN_rmL, tZ_rmL, tC_rmL, tc_rmL, tz_rmL, tI_mk, tL_mk, tR_mk, tN_mk, tZ_mk, tC_mk, tc_mk, tz_mk, tI_pushL, tL_pushL, tR_pushL, tN_pushL, tZ_pushL, tC_pushL, tc_pushL, tz_pushL, tI_pushB, tL_pushB, tR_pushB, tN_pushB, tZ_pushB, tC_pushB, tc_pushB, tz_pushB, tI_cpL, tL_cpL, tR_cpL, tN_cpL, tZ_cpL, tC_cpL, tc_cpL, tz_cpL, eq_self, true_and, and_true, false_and, and_false, if_true, if_false, reduceIte, ite_true, ite_false, not_true_eq_false, not_false_eq_true, fcN_96 hF, fcR_96_3 hF, fcR_96_5 hF, X405, fcN_27 hF, fcN_29 hF, x0, x1, x2]
        have f142 : ∀ z, Ex 142 [aI 0] z = some (.inl none, z) := fun z => by
          refine (X_st (by decide +kernel) rfl).trans ((lf_142_0 ..).trans ?_)
          rfl
        have f256 := fun v z => y256 (b := b3) (z := z) (v := v) (r_FR hc.1.1)
        rw [v95, e95] at f256
        refine Or.inr (done_of f103 ⟨tI b1 87 0 (10 * p + 5), sI a3 96 0 11 1, sI b3 97 0 8 0, fun z => ?_, fun z => ?_, th_v, Core_th hc th_c th_w, wa, (wb1.t wb).t th_w, sa, sam_t (sam_t (sam_c cb1 (by decide)) sb) th_s⟩)
        · refine (X_in (by decide +kernel) (fcN_96 hF) rfl).trans ((lf_102_0 ..).trans ?_)
          simp (config := {decide := true}) only [gfI_enc, gfL_enc, gfR_enc, pfI_enc, pfL_enc, pfR_enc, Option.bind_some, cI_v, cL_v, cF_v, cD_v, cR_v, cV_v, cI_x, cL_x, cR_x, cV_x, gz_0, gz_1, acc_enc, tI_sI, tL_sI, tR_sI, tN_sI, tZ_sI, tC_sI, tc_sI, tz_sI, tI_sL, tL_sL, tR_sL, tN_sL, tZ_sL, tC_sL, tc_sL, tz_sL, tI_sR, tL_sR, tR_sR, tN_sR, tZ_sR, tC_sR, tc_sR, tz_sR, tI_sZ, tL_sZ, tR_sZ, tN_sZ, tZ_sZ, tC_sZ, tc_sZ, tz_sZ, tI_sC, tL_sC, tR_sC, tN_sC, tZ_sC, tC_sC, tc_sC, tz_sC, tI_aC, tL_aC, tR_aC, tN_aC, tZ_aC, tC_aC, tc_aC, tz_aC, tI_rmL, tL_rmL, tR_rmL, tN_rmL, tZ_rmL, tC_rmL, tc_rmL, tz_rmL, tI_mk, tL_mk, tR_mk, tN_mk, tZ_mk, tC_mk, tc_mk, tz_mk, tI_pushL, tL_pushL, tR_pushL, tN_pushL, tZ_pushL, tC_pushL, tc_pushL, tz_pushL, tI_pushB, tL_pushB, tR_pushB, tN_pushB, tZ_pushB, tC_pushB, tc_pushB, tz_pushB, tI_cpL, tL_cpL, tR_cpL, tN_cpL, tZ_cpL, tC_cpL, tc_cpL, tz_cpL, eq_self, true_and, and_true, false_and, and_false, if_true, if_false, reduceIte, ite_true, ite_false, not_true_eq_false, not_false_eq_true, f103, f142, fcN_96 hF, fcR_96_5 hF, X402, fcN_29 hF, g1, g2, hp, t1, t2, f49, l12, pm i12, hFM, m3, m27, g3, g4, mz, mr, m36, m4, x, v1, v2, v3]
        · have f202 : ∀ z, Ex 202 [aR (some (95, 0)), aI (Int32.ofNat sh), aI (Int32.ofNat p), aI (Int32.ofNat n)] (enc 2 b z) = some (.inl (some (aI (tI b1 87 0 (10 * p + 5)))), enc 2 b3 z) := fun z => by
            refine (X_in (by decide +kernel) (frN_95 hFR) rfl).trans ((lf_202_0 ..).trans ?_)
            simp (config := {decide := true}) only [gfI_enc, gfL_enc, gfR_enc, pfI_enc, pfL_enc, pfR_enc, Option.bind_some, cI_v, cL_v, cF_v, cD_v, cR_v, cV_v, cI_x, cL_x, cR_x, cV_x, gz_0, gz_1, acc_enc, tI_sI, tL_sI, tR_sI, tN_sI, tZ_sI, tC_sI, tc_sI, tz_sI, tI_sL, tL_sL, tR_sL, tN_sL, tZ_sL, tC_sL, tc_sL, tz_sL, tI_sR, tL_sR, tR_sR, tN_sR, tZ_sR, tC_sR, tc_sR, tz_sR, tI_sZ, tL_sZ, tR_sZ, tN_sZ, tZ_sZ, tC_sZ, tc_sZ, tz_sZ, tI_sC, tL_sC, tR_sC, tN_sC, tZ_sC, tC_sC, tc_sC, tz_sC, tI_aC, tL_aC, tR_aC, tN_aC, tZ_aC, tC_aC, tc_aC, tz_aC, tI_rmL, tL_rmL, tR_rmL, tN_rmL, tZ_rmL, tC_rmL, tc_rmL, tz_rmL, tI_mk, tL_mk, tR_mk, tN_mk, tZ_mk, tC_mk, tc_mk, tz_mk, tI_pushL, tL_pushL, tR_pushL, tN_pushL, tZ_pushL, tC_pushL, tc_pushL, tz_pushL, tI_pushB, tL_pushB, tR_pushB, tN_pushB, tZ_pushB, tC_pushB, tc_pushB, tz_pushB, tI_cpL, tL_cpL, tR_cpL, tN_cpL, tZ_cpL, tC_cpL, tc_cpL, tz_cpL, eq_self, true_and, and_true, false_and, and_false, if_true, if_false, reduceIte, ite_true, ite_false, not_true_eq_false, not_false_eq_true, y0, y1, f189, f189', n2, n2', f199, pI_o o77, l77, hFM2, y, w1, w2]
          refine (X_in (by decide +kernel) (frN_97 hFR) rfl).trans ((lf_269_0 ..).trans ?_)
          simp (config := {decide := true}) only [gfI_enc, gfL_enc, gfR_enc, pfI_enc, pfL_enc, pfR_enc, Option.bind_some, cI_v, cL_v, cF_v, cD_v, cR_v, cV_v, cI_x, cL_x, cR_x, cV_x, gz_0, gz_1, acc_enc, tI_sI, tL_sI, tR_sI, tN_sI, tZ_sI, tC_sI, tc_sI, tz_sI, tI_sL, tL_sL, tR_sL, tN_sL, tZ_sL, tC_sL, tc_sL, tz_sL, tI_sR, tL_sR, tR_sR, tN_sR, tZ_sR, tC_sR, tc_sR, tz_sR, tI_sZ, tL_sZ, tR_sZ, tN_sZ, tZ_sZ, tC_sZ, tc_sZ, tz_sZ, tI_sC, tL_sC, tR_sC, tN_sC, tZ_sC, tC_sC, tc_sC, tz_sC, tI_aC, tL_aC, tR_aC, tN_aC, tZ_aC, tC_aC, tc_aC, tz_aC, tI_rmL, tL_rmL, tR_rmL, tN_rmL, tZ_rmL, tC_rmL, tc_rmL, tz_rmL, tI_mk, tL_mk, tR_mk, tN_mk, tZ_mk, tC_mk, tc_mk, tz_mk, tI_pushL, tL_pushL, tR_pushL, tN_pushL, tZ_pushL, tC_pushL, tc_pushL, tz_pushL, tI_pushB, tL_pushB, tR_pushB, tN_pushB, tZ_pushB, tC_pushB, tc_pushB, tz_pushB, tI_cpL, tL_cpL, tR_cpL, tN_cpL, tZ_cpL, tC_cpL, tc_cpL, tz_cpL, eq_self, true_and, and_true, false_and, and_false, if_true, if_false, reduceIte, ite_true, ite_false, not_true_eq_false, not_false_eq_true, frN_97 hFR, frR_97_4 hFR, f202, f256]
      · have x2 := x139_0 e2
        have f256 := fun v z => y256 (b := sI (sI b 95 0 0 0) 95 0 0 2) (z := z) (v := v) (r_FR (Core_th h up2.1 up2.2).1.1)
        have e95 : tI (sI (sI b 95 0 0 0) 95 0 0 2) 95 0 0 = 2 := by rw [tI_sI, if_pos ⟨rfl, rfl, rfl⟩]
        refine OpR_bad (b' := sI (sI (sI b 95 0 0 0) 95 0 0 2) 97 0 8 2) h 2 (by omega) (by omega) (fun z => ?_) (fun z => ?_) (chF_t up2.1 th_c) (up2.2.t th_w) th_v
        · refine (X_in (by decide +kernel) (fcN_96 hF) rfl).trans ((lf_103_0 ..).trans ?_)
          simp (config := {decide := true}) only [gfI_enc, gfL_enc, gfR_enc, pfI_enc, pfL_enc, pfR_enc, Option.bind_some, cI_v, cL_v, cF_v, cD_v, cR_v, cV_v, cI_x, cL_x, cR_x, cV_x, gz_0, gz_1, acc_enc, tI_sI, tL_sI, tR_sI, tN_sI, tZ_sI, tC_sI, tc_sI, tz_sI, tI_sL, tL_sL, tR_sL, tN_sL, tZ_sL, tC_sL, tc_sL, tz_sL, tI_sR, tL_sR, tR_sR, tN_sR, tZ_sR, tC_sR, tc_sR, tz_sR, tI_sZ, tL_sZ, tR_sZ, tN_sZ, tZ_sZ, tC_sZ, tc_sZ, tz_sZ, tI_sC, tL_sC, tR_sC, tN_sC, tZ_sC, tC_sC, tc_sC, tz_sC, tI_aC, tL_aC, tR_aC, tN_aC, tZ_aC, tC_aC, tc_aC, tz_aC, tI_rmL, tL_rmL, tR_rmL, tN_rmL, tZ_rmL, tC_rmL, tc_rmL, tz_rmL, tI_mk, tL_mk, tR_mk, tN_mk, tZ_mk, tC_mk, tc_mk, tz_mk, tI_pushL, tL_pushL, tR_pushL, tN_pushL, tZ_pushL, tC_pushL, tc_pushL, tz_pushL, tI_pushB, tL_pushB, tR_pushB, tN_pushB, tZ_pushB, tC_pushB, tc_pushB, tz_pushB, tI_cpL, tL_cpL, tR_cpL, tN_cpL, tZ_cpL, tC_cpL, tc_cpL, tz_cpL, eq_self, true_and, and_true, false_and, and_false, if_true, if_false, reduceIte, ite_true, ite_false, not_true_eq_false, not_false_eq_true, fcN_96 hF, fcR_96_3 hF, fcR_96_5 hF, X405, fcN_27 hF, fcN_29 hF, x0, x1, x2]
          rfl
        · have f202 : ∀ z, Ex 202 [aR (some (95, 0)), aI (Int32.ofNat sh), aI (Int32.ofNat p), aI p2] (enc 2 b z) = some (.inl (some (aI 0)), enc 2 (sI (sI b 95 0 0 0) 95 0 0 2) z) := fun z => by
            refine (X_in (by decide +kernel) (frN_95 hFR) rfl).trans ((lf_202_0 ..).trans ?_)
            by_cases n2 : p2 < 0
            · simp (config := {decide := true}) only [gfI_enc, gfL_enc, gfR_enc, pfI_enc, pfL_enc, pfR_enc, Option.bind_some, cI_v, cL_v, cF_v, cD_v, cR_v, cV_v, cI_x, cL_x, cR_x, cV_x, gz_0, gz_1, acc_enc, tI_sI, tL_sI, tR_sI, tN_sI, tZ_sI, tC_sI, tc_sI, tz_sI, tI_sL, tL_sL, tR_sL, tN_sL, tZ_sL, tC_sL, tc_sL, tz_sL, tI_sR, tL_sR, tR_sR, tN_sR, tZ_sR, tC_sR, tc_sR, tz_sR, tI_sZ, tL_sZ, tR_sZ, tN_sZ, tZ_sZ, tC_sZ, tc_sZ, tz_sZ, tI_sC, tL_sC, tR_sC, tN_sC, tZ_sC, tC_sC, tc_sC, tz_sC, tI_aC, tL_aC, tR_aC, tN_aC, tZ_aC, tC_aC, tc_aC, tz_aC, tI_rmL, tL_rmL, tR_rmL, tN_rmL, tZ_rmL, tC_rmL, tc_rmL, tz_rmL, tI_mk, tL_mk, tR_mk, tN_mk, tZ_mk, tC_mk, tc_mk, tz_mk, tI_pushL, tL_pushL, tR_pushL, tN_pushL, tZ_pushL, tC_pushL, tc_pushL, tz_pushL, tI_pushB, tL_pushB, tR_pushB, tN_pushB, tZ_pushB, tC_pushB, tc_pushB, tz_pushB, tI_cpL, tL_cpL, tR_cpL, tN_cpL, tZ_cpL, tC_cpL, tc_cpL, tz_cpL, eq_self, true_and, and_true, false_and, and_false, if_true, if_false, reduceIte, ite_true, ite_false, not_true_eq_false, not_false_eq_true, y0, y1, f189, f189n, n2]
            · have n2' : (999 : Int32) < p2 := Classical.byContradiction (fun q => e2 ⟨n2, q⟩)
              simp (config := {decide := true}) only [gfI_enc, gfL_enc, gfR_enc, pfI_enc, pfL_enc, pfR_enc, Option.bind_some, cI_v, cL_v, cF_v, cD_v, cR_v, cV_v, cI_x, cL_x, cR_x, cV_x, gz_0, gz_1, acc_enc, tI_sI, tL_sI, tR_sI, tN_sI, tZ_sI, tC_sI, tc_sI, tz_sI, tI_sL, tL_sL, tR_sL, tN_sL, tZ_sL, tC_sL, tc_sL, tz_sL, tI_sR, tL_sR, tR_sR, tN_sR, tZ_sR, tC_sR, tc_sR, tz_sR, tI_sZ, tL_sZ, tR_sZ, tN_sZ, tZ_sZ, tC_sZ, tc_sZ, tz_sZ, tI_sC, tL_sC, tR_sC, tN_sC, tZ_sC, tC_sC, tc_sC, tz_sC, tI_aC, tL_aC, tR_aC, tN_aC, tZ_aC, tC_aC, tc_aC, tz_aC, tI_rmL, tL_rmL, tR_rmL, tN_rmL, tZ_rmL, tC_rmL, tc_rmL, tz_rmL, tI_mk, tL_mk, tR_mk, tN_mk, tZ_mk, tC_mk, tc_mk, tz_mk, tI_pushL, tL_pushL, tR_pushL, tN_pushL, tZ_pushL, tC_pushL, tc_pushL, tz_pushL, tI_pushB, tL_pushB, tR_pushB, tN_pushB, tZ_pushB, tC_pushB, tc_pushB, tz_pushB, tI_cpL, tL_cpL, tR_cpL, tN_cpL, tZ_cpL, tC_cpL, tc_cpL, tz_cpL, eq_self, true_and, and_true, false_and, and_false, if_true, if_false, reduceIte, ite_true, ite_false, not_true_eq_false, not_false_eq_true, y0, y1, f189, f189n, n2, n2']
          refine (X_in (by decide +kernel) (frN_97 hFR) rfl).trans ((lf_269_0 ..).trans ?_)
          simp (config := {decide := true}) only [gfI_enc, gfL_enc, gfR_enc, pfI_enc, pfL_enc, pfR_enc, Option.bind_some, cI_v, cL_v, cF_v, cD_v, cR_v, cV_v, cI_x, cL_x, cR_x, cV_x, gz_0, gz_1, acc_enc, tI_sI, tL_sI, tR_sI, tN_sI, tZ_sI, tC_sI, tc_sI, tz_sI, tI_sL, tL_sL, tR_sL, tN_sL, tZ_sL, tC_sL, tc_sL, tz_sL, tI_sR, tL_sR, tR_sR, tN_sR, tZ_sR, tC_sR, tc_sR, tz_sR, tI_sZ, tL_sZ, tR_sZ, tN_sZ, tZ_sZ, tC_sZ, tc_sZ, tz_sZ, tI_sC, tL_sC, tR_sC, tN_sC, tZ_sC, tC_sC, tc_sC, tz_sC, tI_aC, tL_aC, tR_aC, tN_aC, tZ_aC, tC_aC, tc_aC, tz_aC, tI_rmL, tL_rmL, tR_rmL, tN_rmL, tZ_rmL, tC_rmL, tc_rmL, tz_rmL, tI_mk, tL_mk, tR_mk, tN_mk, tZ_mk, tC_mk, tc_mk, tz_mk, tI_pushL, tL_pushL, tR_pushL, tN_pushL, tZ_pushL, tC_pushL, tc_pushL, tz_pushL, tI_pushB, tL_pushB, tR_pushB, tN_pushB, tZ_pushB, tC_pushB, tc_pushB, tz_pushB, tI_cpL, tL_cpL, tR_cpL, tN_cpL, tZ_cpL, tC_cpL, tc_cpL, tz_cpL, eq_self, true_and, and_true, false_and, and_false, if_true, if_false, reduceIte, ite_true, ite_false, not_true_eq_false, not_false_eq_true, frN_97 hFR, frR_97_4 hFR, f202, f256, e95]
    · have x1 := x139_0 e1
      have y1 := fun z => y192_0 (z := z) hR e1
      have f189n := fun w z => y189_0 (b := b) (z := z) (w := w) hFR
      refine bad1 (fun z => ?_) (fun z => ?_)
      · refine (X_in (by decide +kernel) (fcN_96 hF) rfl).trans ((lf_103_0 ..).trans ?_)
        simp (config := {decide := true}) only [gfI_enc, gfL_enc, gfR_enc, pfI_enc, pfL_enc, pfR_enc, Option.bind_some, cI_v, cL_v, cF_v, cD_v, cR_v, cV_v, cI_x, cL_x, cR_x, cV_x, gz_0, gz_1, acc_enc, tI_sI, tL_sI, tR_sI, tN_sI, tZ_sI, tC_sI, tc_sI, tz_sI, tI_sL, tL_sL, tR_sL, tN_sL, tZ_sL, tC_sL, tc_sL, tz_sL, tI_sR, tL_sR, tR_sR, tN_sR, tZ_sR, tC_sR, tc_sR, tz_sR, tI_sZ, tL_sZ, tR_sZ, tN_sZ, tZ_sZ, tC_sZ, tc_sZ, tz_sZ, tI_sC, tL_sC, tR_sC, tN_sC, tZ_sC, tC_sC, tc_sC, tz_sC, tI_aC, tL_aC, tR_aC, tN_aC, tZ_aC, tC_aC, tc_aC, tz_aC, tI_rmL, tL_rmL, tR_rmL, tN_rmL, tZ_rmL, tC_rmL, tc_rmL, tz_rmL, tI_mk, tL_mk, tR_mk, tN_mk, tZ_mk, tC_mk, tc_mk, tz_mk, tI_pushL, tL_pushL, tR_pushL, tN_pushL, tZ_pushL, tC_pushL, tc_pushL, tz_pushL, tI_pushB, tL_pushB, tR_pushB, tN_pushB, tZ_pushB, tC_pushB, tc_pushB, tz_pushB, tI_cpL, tL_cpL, tR_cpL, tN_cpL, tZ_cpL, tC_cpL, tc_cpL, tz_cpL, eq_self, true_and, and_true, false_and, and_false, if_true, if_false, reduceIte, ite_true, ite_false, not_true_eq_false, not_false_eq_true, fcN_96 hF, fcR_96_3 hF, fcR_96_5 hF, X405, fcN_27 hF, fcN_29 hF, x0, x1]
      · refine (X_in (by decide +kernel) (frN_95 hFR) rfl).trans ((lf_202_0 ..).trans ?_)
        simp (config := {decide := true}) only [gfI_enc, gfL_enc, gfR_enc, pfI_enc, pfL_enc, pfR_enc, Option.bind_some, cI_v, cL_v, cF_v, cD_v, cR_v, cV_v, cI_x, cL_x, cR_x, cV_x, gz_0, gz_1, acc_enc, tI_sI, tL_sI, tR_sI, tN_sI, tZ_sI, tC_sI, tc_sI, tz_sI, tI_sL, tL_sL, tR_sL, tN_sL, tZ_sL, tC_sL, tc_sL, tz_sL, tI_sR, tL_sR, tR_sR, tN_sR, tZ_sR, tC_sR, tc_sR, tz_sR, tI_sZ, tL_sZ, tR_sZ, tN_sZ, tZ_sZ, tC_sZ, tc_sZ, tz_sZ, tI_sC, tL_sC, tR_sC, tN_sC, tZ_sC, tC_sC, tc_sC, tz_sC, tI_aC, tL_aC, tR_aC, tN_aC, tZ_aC, tC_aC, tc_aC, tz_aC, tI_rmL, tL_rmL, tR_rmL, tN_rmL, tZ_rmL, tC_rmL, tc_rmL, tz_rmL, tI_mk, tL_mk, tR_mk, tN_mk, tZ_mk, tC_mk, tc_mk, tz_mk, tI_pushL, tL_pushL, tR_pushL, tN_pushL, tZ_pushL, tC_pushL, tc_pushL, tz_pushL, tI_pushB, tL_pushB, tR_pushB, tN_pushB, tZ_pushB, tC_pushB, tc_pushB, tz_pushB, tI_cpL, tL_cpL, tR_cpL, tN_cpL, tZ_cpL, tC_cpL, tc_cpL, tz_cpL, eq_self, true_and, and_true, false_and, and_false, if_true, if_false, reduceIte, ite_true, ite_false, not_true_eq_false, not_false_eq_true, y0, y1, f189n]
  · have x0 := x139_0 e0
    have y0 := fun z => y191_0 (z := z) hR e0
    have f189n := fun w z => y189_0 (b := b) (z := z) (w := w) hFR
    refine bad1 (fun z => ?_) (fun z => ?_)
    · refine (X_in (by decide +kernel) (fcN_96 hF) rfl).trans ((lf_103_0 ..).trans ?_)
      simp (config := {decide := true}) only [gfI_enc, gfL_enc, gfR_enc, pfI_enc, pfL_enc, pfR_enc, Option.bind_some, cI_v, cL_v, cF_v, cD_v, cR_v, cV_v, cI_x, cL_x, cR_x, cV_x, gz_0, gz_1, acc_enc, tI_sI, tL_sI, tR_sI, tN_sI, tZ_sI, tC_sI, tc_sI, tz_sI, tI_sL, tL_sL, tR_sL, tN_sL, tZ_sL, tC_sL, tc_sL, tz_sL, tI_sR, tL_sR, tR_sR, tN_sR, tZ_sR, tC_sR, tc_sR, tz_sR, tI_sZ, tL_sZ, tR_sZ, tN_sZ, tZ_sZ, tC_sZ, tc_sZ, tz_sZ, tI_sC, tL_sC, tR_sC, tN_sC, tZ_sC, tC_sC, tc_sC, tz_sC, tI_aC, tL_aC, tR_aC, tN_aC, tZ_aC, tC_aC, tc_aC, tz_aC, tI_rmL, tL_rmL, tR_rmL, tN_rmL, tZ_rmL, tC_rmL, tc_rmL, tz_rmL, tI_mk, tL_mk, tR_mk, tN_mk, tZ_mk, tC_mk, tc_mk, tz_mk, tI_pushL, tL_pushL, tR_pushL, tN_pushL, tZ_pushL, tC_pushL, tc_pushL, tz_pushL, tI_pushB, tL_pushB, tR_pushB, tN_pushB, tZ_pushB, tC_pushB, tc_pushB, tz_pushB, tI_cpL, tL_cpL, tR_cpL, tN_cpL, tZ_cpL, tC_cpL, tc_cpL, tz_cpL, eq_self, true_and, and_true, false_and, and_false, if_true, if_false, reduceIte, ite_true, ite_false, not_true_eq_false, not_false_eq_true, fcN_96 hF, fcR_96_3 hF, X405, fcN_27 hF, x0]
    · refine (X_in (by decide +kernel) (frN_95 hFR) rfl).trans ((lf_202_0 ..).trans ?_)
      simp (config := {decide := true}) only [gfI_enc, gfL_enc, gfR_enc, pfI_enc, pfL_enc, pfR_enc, Option.bind_some, cI_v, cL_v, cF_v, cD_v, cR_v, cV_v, cI_x, cL_x, cR_x, cV_x, gz_0, gz_1, acc_enc, tI_sI, tL_sI, tR_sI, tN_sI, tZ_sI, tC_sI, tc_sI, tz_sI, tI_sL, tL_sL, tR_sL, tN_sL, tZ_sL, tC_sL, tc_sL, tz_sL, tI_sR, tL_sR, tR_sR, tN_sR, tZ_sR, tC_sR, tc_sR, tz_sR, tI_sZ, tL_sZ, tR_sZ, tN_sZ, tZ_sZ, tC_sZ, tc_sZ, tz_sZ, tI_sC, tL_sC, tR_sC, tN_sC, tZ_sC, tC_sC, tc_sC, tz_sC, tI_aC, tL_aC, tR_aC, tN_aC, tZ_aC, tC_aC, tc_aC, tz_aC, tI_rmL, tL_rmL, tR_rmL, tN_rmL, tZ_rmL, tC_rmL, tc_rmL, tz_rmL, tI_mk, tL_mk, tR_mk, tN_mk, tZ_mk, tC_mk, tc_mk, tz_mk, tI_pushL, tL_pushL, tR_pushL, tN_pushL, tZ_pushL, tC_pushL, tc_pushL, tz_pushL, tI_pushB, tL_pushB, tR_pushB, tN_pushB, tZ_pushB, tC_pushB, tc_pushB, tz_pushB, tI_cpL, tL_cpL, tR_cpL, tN_cpL, tZ_cpL, tC_cpL, tc_cpL, tz_cpL, eq_self, true_and, and_true, false_and, and_false, if_true, if_false, reduceIte, ite_true, ite_false, not_true_eq_false, not_false_eq_true, y0, f189n]
