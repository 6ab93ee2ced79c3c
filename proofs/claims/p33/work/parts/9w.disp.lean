/-! ===== a payment is disputed ===== -/
theorem bit01 {x : Int32} (h : bitOk x = true) : x = 0 ∨ x = 1 := by
  by_cases e : x = 0
  · exact Or.inl e
  · exact Or.inr (bit_1 h e)
/-- may it be disputed -/
def dsC (b : TS) (q : Nat) : Prop := hI b q 8 ≠ 0 ∧ hI b q 11 = 0 ∧ tI b 87 0 (10 * q + 9) ≠ 0 ∧ ¬ 1 < tI b 94 0 11 - hI b q 15
theorem y178_86 {b : TS} {z : Hp} (v2 : Option (Nat × Nat)) (hF : FxR b) : Ru 178 86 [(0, aR (some (94, 0))), (2, aR v2)] [] (enc 2 b z) = some (.inl (some (aI 0)), enc 2 (sI b 94 0 10 2) z) := by
  rw [lf_178_86]
  simp (config := {decide := true}) only [gfI_enc, gfL_enc, gfR_enc, pfI_enc, pfL_enc, pfR_enc, Option.bind_some, cI_v, cL_v, cF_v, cD_v, cR_v, cV_v, cI_x, cL_x, cR_x, cV_x, gz_0, gz_1, acc_enc, tI_sI, tL_sI, tR_sI, tN_sI, tZ_sI, tC_sI, tc_sI, tz_sI, tI_sL, tL_sL, tR_sL, tN_sL, tZ_sL, tC_sL, tc_sL, tz_sL, tI_sR, tL_sR, tR_sR, tN_sR, tZ_sR, tC_sR, tc_sR, tz_sR, tI_sZ, tL_sZ, tR_sZ, tN_sZ, tZ_sZ, tC_sZ, tc_sZ, tz_sZ, tI_sC, tL_sC, tR_sC, tN_sC, tZ_sC, tC_sC, tc_sC, tz_sC, tI_aC, tL_aC, tR_aC, tN_aC, tZ_aC, tC_aC, tc_aC, tz_aC, tI_rmL, tL_rmL, tR_rmL, tN_rmL, tZ_rmL, tC_rmL, tc_rmL, tz_rmL, tI_mk, tL_mk, tR_mk, tN_mk, tZ_mk, tC_mk, tc_mk, tz_mk, tI_pushL, tL_pushL, tR_pushL, tN_pushL, tZ_pushL, tC_pushL, tc_pushL, tz_pushL, tI_pushB, tL_pushB, tR_pushB, tN_pushB, tZ_pushB, tC_pushB, tc_pushB, tz_pushB, tI_cpL, tL_cpL, tR_cpL, tN_cpL, tZ_cpL, tC_cpL, tc_cpL, tz_cpL, eq_self, true_and, and_true, false_and, and_false, if_true, if_false, reduceIte, ite_true, ite_false, not_true_eq_false, not_false_eq_true, frN_94 hF]
set_option maxHeartbeats 2000000 in
theorem op_dispute {a b : TS} {C : Nat} (h : Core a b C) (p : Int32) : OpR 121 [aR (some (96, 0)), aI p] 122 [aR (some (96, 0)), aI p] 277 [aR (some (97, 0)), aI p] (fun r => if r = 1 then 1 else 2) a b C C := by
  have hR := h.1.1
  have hF := r_FC hR
  have hFR := r_FR hR
  by_cases e0 : inR p 0 (Int32.ofNat (tZ a 29 0) - 1)
  · have x0 := x139_1 e0
    obtain ⟨q, hq, e⟩ := inR_ex e0 (by have := (r_P' hR).1; omega)
    subst e
    obtain ⟨r1, r2, r3⟩ := paym_at hR hq
    obtain ⟨P1, P2, P3, P4, P5, P6, P7⟩ := r_P' hR
    obtain ⟨-, -, -, -, -, -, -, u11, ub⟩ := P5 q hq
    have hq1 : q < 1000 := by omega
    obtain ⟨KA, KB, KN⟩ := r_K hR
    obtain ⟨-, ⟨-, -, -, -, k7, k7b, k11, k12, knn⟩, -, -, ⟨k8b, k8, k8'⟩⟩ := KN q hq1
    have hday : tI a 25 0 1 = tI b 94 0 11 := by
      obtain ⟨-, ⟨h6, h7⟩, -⟩ := r_H hR
      rw [h6, h7]
    have g1 : (Int32.ofNat q).toNatClampNeg = q := o_ix (by omega)
    have g2 : ¬ Int32.ofNat q < 0 := o_lt0 (by omega)
    have g3 : Int32.ofNat q < Int32.ofNat (tZ a 29 0) := by rw [o_lt (by omega) (by omega)]; omega
    have f14 := fun z => x14 (a := a) (z := z) (n := q) hF hq1
    have h0c : Core a (sI b 94 0 10 0) C := Core_th h th94_c th94_w
    have hF0 : FxR (sI b 94 0 10 0) := r_FR h0c.1.1
    have f238 := fun z => y238 (b := sI b 94 0 10 0) (z := z) (p := q) hF0 (by omega)
    have e87 : tI (sI b 94 0 10 0) 87 0 (10 * q + 9) = tI b 87 0 (10 * q + 9) := by rw [tI_sI, if_neg (fun q => absurd q.1 (by decide))]
    rw [e87] at f238
    have one0 : ¬ (1 : Int32) = 0 := by decide
    by_cases G : dsC b q
    · obtain ⟨c8, c11, ct, cd⟩ := G
      obtain ⟨i, k, t, s, i7, hk, ht, hs, v8, -, -, -, v64, v86, v9, v10, v14⟩ := k8' c8
      rcases KA.1 q hq1 with na | ⟨j, ja, sa⟩
      · exfalso
        unfold kR at v8
        rw [na] at v8
        cases v8
      rcases KB.1 q hq1 with nb | ⟨j', jb, sb⟩
      · exfalso
        unfold hI at c8
        rw [nb] at c8
        exact c8 rfl
      obtain ⟨kb4, kb5, kb6, -, -, kb7⟩ := KB.2.2.2.1 j' jb
      rw [kR_at sa] at v8 v9 v10
      rw [kI_at sa] at k7 k11 k12
      rw [hI_at sb] at c8 c11 v14 k7 k11 k12 cd knn
      rw [hA_at sb] at v64
      have ct1 : tI b 87 0 (10 * q + 9) = 1 := bit_1 ub ct
      -- the flag
      have hKf := flag7_R (r_K hR) hq1 sa sb
      have caf : chF [4] [] a (sI a 4 j 7 1) := chF_I (by simp) (chF_r _ _ _)
      have cbf : chF [61] [] b (sI b 61 j' 11 1) := chF_I (by simp) (chF_r _ _ _)
      have waf : Wr a (sI a 4 j 7 1) := (Wr.rf _).cI _ _ _ _
      have wbf : Wr b (sI b 61 j' 11 1) := (Wr.rf _).cI _ _ _ _
      have hIf : ∀ n f, n < 1000 → hI (sI b 61 j' 11 1) n f = if n = q ∧ f = 11 then 1 else hI b n f := fun n f hn => hI_sI KB hq1 sb _ _ hn _
      have hR1 : R0 (sI a 4 j 7 1) (sI b 61 j' 11 1) := R0_kn hR hKf (RB_c (r_B hR) caf cbf (by decide) (by decide)) (chF_m caf (by simp) (by simp)) (chF_m cbf (by simp) (by simp)) waf wbf (fun n hn => by rw [hIf n 8 hn, if_neg (fun q => absurd q.2 (by decide))]) (fun n hn => by rw [hIf n 14 hn, if_neg (fun q => absurd q.2 (by decide))]) (fun n hn => rfl)
      have sa1 : tR (sI a 4 j 7 1) 3 0 q = some (4, j) := sa
      have sb1 : tR (sI b 61 j' 11 1) 53 0 q = some (61, j') := sb
      have e16 : hI (sI b 61 j' 11 1) q 16 = tI b 61 j' 16 := by rw [hIf q 16 hq1, if_neg (fun q => absurd q.2 (by decide)), hI_at sb]
      obtain ⟨hR2, ca2, cb2, wa2, wb2⟩ := gb_R (m := tI b 61 j' 16) (by rw [e16]; exact fun q => Int32.lt_irrefl q) knn hR1 hq1 sa1 sb1 ht hs
      have ca : chF [4] [(35, 0), (36, 12)] a (gbA (sI a 4 j 7 1) j t s (tI b 61 j' 16)) := chF_t (chF_m caf (by simp) (by simp)) ca2
      have cb : chF [43, 46, 61] [] b (gbB (sI b 61 j' 11 1) j' t s (tI b 61 j' 16)) := chF_t (chF_m cbf (by simp) (by simp)) cb2
      have gq' : groQ b (gbB (sI b 61 j' 11 1) j' t s (tI b 61 j' 16)) := groQ_c cb (by decide +kernel)
      have h1 : Core (gbA (sI a 4 j 7 1) j t s (tI b 61 j' 16)) (gbB (sI b 61 j' 11 1) j' t s (tI b 61 j' 16)) C := Core_k h hR2 ca cb (by decide) (by simp) (by decide) gq'
      -- the same, behind what was thrown
      have comm : gbB (sI (sI b 94 0 10 0) 61 j' 11 1) j' t s (tI b 61 j' 16) = sI (gbB (sI b 61 j' 11 1) j' t s (tI b 61 j' 16)) 94 0 10 0 := by
        have cI : ∀ (m : TS) (v : Int32), sI (sI m 94 0 10 0) 61 j' 11 v = sI (sI m 61 j' 11 v) 94 0 10 0 := fun m v => sI_comm m 0 v (fun q => absurd q.1 (by decide))
        have cI' : ∀ (m : TS) (v : Int32), sI (sI m 94 0 10 0) 61 j' 16 v = sI (sI m 61 j' 16 v) 94 0 10 0 := fun m v => sI_comm m 0 v (fun q => absurd q.1 (by decide))
        unfold gbB
        rw [cI, cI']
        rfl
      have h2 : Core (gbA (sI a 4 j 7 1) j t s (tI b 61 j' 16)) (sI (gbB (sI b 61 j' 11 1) j' t s (tI b 61 j' 16)) 94 0 10 0) C := Core_th h1 th94_c th94_w
      have f257 := fun v z => y257 (b := sI (gbB (sI b 61 j' 11 1) j' t s (tI b 61 j' 16)) 94 0 10 0) (z := z) (v := v) (r_FR h2.1.1)
      have e94 : tI (sI (gbB (sI b 61 j' 11 1) j' t s (tI b 61 j' 16)) 94 0 10 0) 94 0 10 = 0 := by rw [tI_sI, if_pos ⟨rfl, rfl, rfl⟩]
      rw [← comm] at f257 e94 h2
      have o35 : t < tN a 35 := (acct_at hR ht).2.1
      have o36 : s < tN a 36 := (shop_at hR hs).2.1
      have f35 := fun z => x35 (a := sI a 4 j 7 1) (z := z) (j := j) (k := t) (s := s) (tI b 61 j' 16) ja v9 v10 o35 o36
      have x29' := fun z => x29 (a := a) (z := z) (j := j) ja
      rw [v8] at x29'
      have nn7 : ¬ (some ((7 : Nat), i) : Option (Nat × Nat)) = none := by simp
      simp only [nn7, if_false] at x29'
      have hk8 : k < 8 := by have := (r_C hR).1; omega
      have hF3 : FxR (sI (sI (sI b 94 0 10 0) 61 j' 11 1) 61 j' 16 0) := by
        have hb3 : chF [61] [] (sI b 94 0 10 0) (sI (sI (sI b 94 0 10 0) 61 j' 11 1) 61 j' 16 0) := chF_I (by simp) (chF_I (by simp) (chF_r _ _ _))
        exact FxR_s hF0 (((Wr.rf _).cI _ _ _ _).cI _ _ _ _) hb3 (by decide)
      have f233 := fun z => y233 (b := sI (sI (sI b 94 0 10 0) 61 j' 11 1) 61 j' 16 0) (z := z) (k := k) hF3 hk8
      have e86 : tI (sI (sI (sI b 94 0 10 0) 61 j' 11 1) 61 j' 16 0) 86 0 (10 * k + 9) = Int32.ofNat t := by
        rw [tI_sI, if_neg (fun q => absurd q.1 (by decide)), tI_sI, if_neg (fun q => absurd q.1 (by decide)), tI_sI, if_neg (fun q => absurd q.1 (by decide))]
        exact v86
      rw [e86] at f233
      have f150 := fun z => y150 (b := sI (sI (sI b 94 0 10 0) 61 j' 11 1) 61 j' 16 0) (z := z) (k := t) (s := s) (tI b 61 j' 16) hF3 (by have := (r_B hR).1; omega) (by have := (r_S hR).1; omega)
      rw [neg64 knn, sub64, add64] at f150
      have eB : sL (sL (sI (sI (sI b 94 0 10 0) 61 j' 11 1) 61 j' 16 0) 43 0 t (tL (sI (sI (sI b 94 0 10 0) 61 j' 11 1) 61 j' 16 0) 43 0 t + (tI b 61 j' 16).toInt64)) 46 0 s (tL (sI (sI (sI b 94 0 10 0) 61 j' 11 1) 61 j' 16 0) 46 0 s - (tI b 61 j' 16).toInt64) = gbB (sI (sI b 94 0 10 0) 61 j' 11 1) j' t s (tI b 61 j' 16) := by
        unfold gbB
        have : tI (sI (sI b 94 0 10 0) 61 j' 11 1) 61 j' 16 = tI b 61 j' 16 := by rw [tI_sI, if_neg (fun q => absurd q.2.2 (by decide)), tI_sI, if_neg (fun q => absurd q.1 (by decide))]
        rw [this, Int32.sub_self]
        rfl
      rw [eB] at f150
      have z0 : (0 : Int32).toNatClampNeg = 0 := rfl
      have jb64 : j' < tN b 64 := by rw [KB.2.2.1.2.2]; exact jb
      have nl0 : ¬ (0 : Int32) < 0 := by decide
      refine Or.inr (done_of (fun z => ?_) ⟨tI b 61 j' 16, _, _, fun z => ?_, fun z => ?_, th_v, Core_th h2 th_c th_w, waf.t wa2, ?_, sam_c ca (by decide), ?_⟩)
      · refine (X_in (by decide +kernel) (fcN_96 hF) rfl).trans ((lf_121_0 ..).trans ?_)
        simp (config := {decide := true}) only [gfI_enc, gfL_enc, gfR_enc, pfI_enc, pfL_enc, pfR_enc, Option.bind_some, cI_v, cL_v, cF_v, cD_v, cR_v, cV_v, cI_x, cL_x, cR_x, cV_x, gz_0, gz_1, acc_enc, tI_sI, tL_sI, tR_sI, tN_sI, tZ_sI, tC_sI, tc_sI, tz_sI, tI_sL, tL_sL, tR_sL, tN_sL, tZ_sL, tC_sL, tc_sL, tz_sL, tI_sR, tL_sR, tR_sR, tN_sR, tZ_sR, tC_sR, tc_sR, tz_sR, tI_sZ, tL_sZ, tR_sZ, tN_sZ, tZ_sZ, tC_sZ, tc_sZ, tz_sZ, tI_sC, tL_sC, tR_sC, tN_sC, tZ_sC, tC_sC, tc_sC, tz_sC, tI_aC, tL_aC, tR_aC, tN_aC, tZ_aC, tC_aC, tc_aC, tz_aC, tI_rmL, tL_rmL, tR_rmL, tN_rmL, tZ_rmL, tC_rmL, tc_rmL, tz_rmL, tI_mk, tL_mk, tR_mk, tN_mk, tZ_mk, tC_mk, tc_mk, tz_mk, tI_pushL, tL_pushL, tR_pushL, tN_pushL, tZ_pushL, tC_pushL, tc_pushL, tz_pushL, tI_pushB, tL_pushB, tR_pushB, tN_pushB, tZ_pushB, tC_pushB, tc_pushB, tz_pushB, tI_cpL, tL_cpL, tR_cpL, tN_cpL, tZ_cpL, tC_cpL, tc_cpL, tz_cpL, eq_self, true_and, and_true, false_and, and_false, if_true, if_false, reduceIte, ite_true, ite_false, not_true_eq_false, not_false_eq_true, fcN_96 hF, fcR_96_5 hF, X405, X402, fcN_29 hF, x0, fcR_96_6 hF, f14, g1, g2, hq, r1, acc_enc, r2, u11, ct, sa, reduceCtorEq, x29', ja, k7, c11, fcR_96_1 hF, fcN_25 hF, hday, k12, cd]
      · refine (X_in (by decide +kernel) (fcN_96 hF) rfl).trans ((lf_122_0 ..).trans ?_)
        simp (config := {decide := true}) only [gfI_enc, gfL_enc, gfR_enc, pfI_enc, pfL_enc, pfR_enc, Option.bind_some, cI_v, cL_v, cF_v, cD_v, cR_v, cV_v, cI_x, cL_x, cR_x, cV_x, gz_0, gz_1, acc_enc, tI_sI, tL_sI, tR_sI, tN_sI, tZ_sI, tC_sI, tc_sI, tz_sI, tI_sL, tL_sL, tR_sL, tN_sL, tZ_sL, tC_sL, tc_sL, tz_sL, tI_sR, tL_sR, tR_sR, tN_sR, tZ_sR, tC_sR, tc_sR, tz_sR, tI_sZ, tL_sZ, tR_sZ, tN_sZ, tZ_sZ, tC_sZ, tc_sZ, tz_sZ, tI_sC, tL_sC, tR_sC, tN_sC, tZ_sC, tC_sC, tc_sC, tz_sC, tI_aC, tL_aC, tR_aC, tN_aC, tZ_aC, tC_aC, tc_aC, tz_aC, tI_rmL, tL_rmL, tR_rmL, tN_rmL, tZ_rmL, tC_rmL, tc_rmL, tz_rmL, tI_mk, tL_mk, tR_mk, tN_mk, tZ_mk, tC_mk, tc_mk, tz_mk, tI_pushL, tL_pushL, tR_pushL, tN_pushL, tZ_pushL, tC_pushL, tc_pushL, tz_pushL, tI_pushB, tL_pushB, tR_pushB, tN_pushB, tZ_pushB, tC_pushB, tc_pushB, tz_pushB, tI_cpL, tL_cpL, tR_cpL, tN_cpL, tZ_cpL, tC_cpL, tc_cpL, tz_cpL, eq_self, true_and, and_true, false_and, and_false, if_true, if_false, reduceIte, ite_true, ite_false, not_true_eq_false, not_false_eq_true, fcN_96 hF, fcR_96_6 hF, f14, sa, reduceCtorEq, ja, k11, f35]
        unfold gbA
        rw [show tI (sI a 4 j 7 1) 4 j 11 = tI b 61 j' 16 from by rw [tI_sI, if_neg (fun q => absurd q.2.2 (by decide))]; exact k11]
        rfl
      · have f178 : ∀ z, Ex 178 [aR (some (94, 0)), aI (Int32.ofNat q)] (enc 2 b z) = some (.inl (some (aI (tI b 61 j' 16))), enc 2 (gbB (sI (sI b 94 0 10 0) 61 j' 11 1) j' t s (tI b 61 j' 16)) z) := fun z => by
          refine (X_in (by decide +kernel) (frN_94 hFR) rfl).trans ((lf_178_0 ..).trans ?_)
          simp (config := {decide := true}) only [gfI_enc, gfL_enc, gfR_enc, pfI_enc, pfL_enc, pfR_enc, Option.bind_some, cI_v, cL_v, cF_v, cD_v, cR_v, cV_v, cI_x, cL_x, cR_x, cV_x, gz_0, gz_1, acc_enc, tI_sI, tL_sI, tR_sI, tN_sI, tZ_sI, tC_sI, tc_sI, tz_sI, tI_sL, tL_sL, tR_sL, tN_sL, tZ_sL, tC_sL, tc_sL, tz_sL, tI_sR, tL_sR, tR_sR, tN_sR, tZ_sR, tC_sR, tc_sR, tz_sR, tI_sZ, tL_sZ, tR_sZ, tN_sZ, tZ_sZ, tC_sZ, tc_sZ, tz_sZ, tI_sC, tL_sC, tR_sC, tN_sC, tZ_sC, tC_sC, tc_sC, tz_sC, tI_aC, tL_aC, tR_aC, tN_aC, tZ_aC, tC_aC, tc_aC, tz_aC, tI_rmL, tL_rmL, tR_rmL, tN_rmL, tZ_rmL, tC_rmL, tc_rmL, tz_rmL, tI_mk, tL_mk, tR_mk, tN_mk, tZ_mk, tC_mk, tc_mk, tz_mk, tI_pushL, tL_pushL, tR_pushL, tN_pushL, tZ_pushL, tC_pushL, tc_pushL, tz_pushL, tI_pushB, tL_pushB, tR_pushB, tN_pushB, tZ_pushB, tC_pushB, tc_pushB, tz_pushB, tI_cpL, tL_cpL, tR_cpL, tN_cpL, tZ_cpL, tC_cpL, tc_cpL, tz_cpL, eq_self, true_and, and_true, false_and, and_false, if_true, if_false, reduceIte, ite_true, ite_false, not_true_eq_false, not_false_eq_true, g2, frN_94 hFR, frR_94_0 hFR, frN_93 hFR, P4, g3, frR_94_2 hFR, frN_53 hFR, frZ_53 hFR, gaR_enc, g1, hq1, sb, reduceCtorEq, jb, c8, c11, f238, ct1, cd, one0, frR_94_1 hFR, kb6, jb64, kb7, z0, nl0, gaI_enc, v64, f233, v14, f150]
        refine (X_in (by decide +kernel) (frN_97 hFR) rfl).trans ((lf_277_0 ..).trans ?_)
        simp (config := {decide := true}) only [gfI_enc, gfL_enc, gfR_enc, pfI_enc, pfL_enc, pfR_enc, Option.bind_some, cI_v, cL_v, cF_v, cD_v, cR_v, cV_v, cI_x, cL_x, cR_x, cV_x, gz_0, gz_1, acc_enc, tI_sI, tL_sI, tR_sI, tN_sI, tZ_sI, tC_sI, tc_sI, tz_sI, tI_sL, tL_sL, tR_sL, tN_sL, tZ_sL, tC_sL, tc_sL, tz_sL, tI_sR, tL_sR, tR_sR, tN_sR, tZ_sR, tC_sR, tc_sR, tz_sR, tI_sZ, tL_sZ, tR_sZ, tN_sZ, tZ_sZ, tC_sZ, tc_sZ, tz_sZ, tI_sC, tL_sC, tR_sC, tN_sC, tZ_sC, tC_sC, tc_sC, tz_sC, tI_aC, tL_aC, tR_aC, tN_aC, tZ_aC, tC_aC, tc_aC, tz_aC, tI_rmL, tL_rmL, tR_rmL, tN_rmL, tZ_rmL, tC_rmL, tc_rmL, tz_rmL, tI_mk, tL_mk, tR_mk, tN_mk, tZ_mk, tC_mk, tc_mk, tz_mk, tI_pushL, tL_pushL, tR_pushL, tN_pushL, tZ_pushL, tC_pushL, tc_pushL, tz_pushL, tI_pushB, tL_pushB, tR_pushB, tN_pushB, tZ_pushB, tC_pushB, tc_pushB, tz_pushB, tI_cpL, tL_cpL, tR_cpL, tN_cpL, tZ_cpL, tC_cpL, tc_cpL, tz_cpL, eq_self, true_and, and_true, false_and, and_false, if_true, if_false, reduceIte, ite_true, ite_false, not_true_eq_false, not_false_eq_true, frN_97 hFR, frR_97_3 hFR, f178, f257, e94]
      · rw [comm]
        exact ((wbf.t wb2).t th94_w).t th_w
      · rw [comm]
        exact sam_t (sam_c cb (by decide)) (sam_t (sam_c (F := FtH) (D := []) (th94_c (b := gbB (sI b 61 j' 11 1) j' t s (tI b 61 j' 16)) (v := 0)) (by decide)) th_s)
    · have f86 := fun v2 z => y178_86 (b := sI b 94 0 10 0) (z := z) v2 hF0
      have hb2 : chF [] FtH b (sI (sI b 94 0 10 0) 94 0 10 2) := chF_t th94_c th94_c
      have f257 := fun v z => y257 (b := sI (sI b 94 0 10 0) 94 0 10 2) (z := z) (v := v) (r_FR (Core_th h hb2 (th94_w.t th94_w)).1.1)
      have e94 : tI (sI (sI b 94 0 10 0) 94 0 10 2) 94 0 10 = 2 := by rw [tI_sI, if_pos ⟨rfl, rfl, rfl⟩]
      refine OpR_bad (b' := sI (sI (sI b 94 0 10 0) 94 0 10 2) 97 0 8 2) h 3 (by omega) (by omega) (fun z => ?_) (fun z => ?_) (chF_t hb2 th_c) ((th94_w.t th94_w).t th_w) th_v
      · refine (X_in (by decide +kernel) (fcN_96 hF) rfl).trans ((lf_121_0 ..).trans ?_)
        by_cases ct : tI b 87 0 (10 * q + 9) = 0
        · simp (config := {decide := true}) only [gfI_enc, gfL_enc, gfR_enc, pfI_enc, pfL_enc, pfR_enc, Option.bind_some, cI_v, cL_v, cF_v, cD_v, cR_v, cV_v, cI_x, cL_x, cR_x, cV_x, gz_0, gz_1, acc_enc, tI_sI, tL_sI, tR_sI, tN_sI, tZ_sI, tC_sI, tc_sI, tz_sI, tI_sL, tL_sL, tR_sL, tN_sL, tZ_sL, tC_sL, tc_sL, tz_sL, tI_sR, tL_sR, tR_sR, tN_sR, tZ_sR, tC_sR, tc_sR, tz_sR, tI_sZ, tL_sZ, tR_sZ, tN_sZ, tZ_sZ, tC_sZ, tc_sZ, tz_sZ, tI_sC, tL_sC, tR_sC, tN_sC, tZ_sC, tC_sC, tc_sC, tz_sC, tI_aC, tL_aC, tR_aC, tN_aC, tZ_aC, tC_aC, tc_aC, tz_aC, tI_rmL, tL_rmL, tR_rmL, tN_rmL, tZ_rmL, tC_rmL, tc_rmL, tz_rmL, tI_mk, tL_mk, tR_mk, tN_mk, tZ_mk, tC_mk, tc_mk, tz_mk, tI_pushL, tL_pushL, tR_pushL, tN_pushL, tZ_pushL, tC_pushL, tc_pushL, tz_pushL, tI_pushB, tL_pushB, tR_pushB, tN_pushB, tZ_pushB, tC_pushB, tc_pushB, tz_pushB, tI_cpL, tL_cpL, tR_cpL, tN_cpL, tZ_cpL, tC_cpL, tc_cpL, tz_cpL, eq_self, true_and, and_true, false_and, and_false, if_true, if_false, reduceIte, ite_true, ite_false, not_true_eq_false, not_false_eq_true, fcN_96 hF, fcR_96_5 hF, X405, X402, fcN_29 hF, x0, fcR_96_6 hF, f14, g1, g2, hq, r1, acc_enc, r2, u11, ct]
          rfl
        · rcases KA.1 q hq1 with na | ⟨j, ja, sa⟩
          · simp (config := {decide := true}) only [gfI_enc, gfL_enc, gfR_enc, pfI_enc, pfL_enc, pfR_enc, Option.bind_some, cI_v, cL_v, cF_v, cD_v, cR_v, cV_v, cI_x, cL_x, cR_x, cV_x, gz_0, gz_1, acc_enc, tI_sI, tL_sI, tR_sI, tN_sI, tZ_sI, tC_sI, tc_sI, tz_sI, tI_sL, tL_sL, tR_sL, tN_sL, tZ_sL, tC_sL, tc_sL, tz_sL, tI_sR, tL_sR, tR_sR, tN_sR, tZ_sR, tC_sR, tc_sR, tz_sR, tI_sZ, tL_sZ, tR_sZ, tN_sZ, tZ_sZ, tC_sZ, tc_sZ, tz_sZ, tI_sC, tL_sC, tR_sC, tN_sC, tZ_sC, tC_sC, tc_sC, tz_sC, tI_aC, tL_aC, tR_aC, tN_aC, tZ_aC, tC_aC, tc_aC, tz_aC, tI_rmL, tL_rmL, tR_rmL, tN_rmL, tZ_rmL, tC_rmL, tc_rmL, tz_rmL, tI_mk, tL_mk, tR_mk, tN_mk, tZ_mk, tC_mk, tc_mk, tz_mk, tI_pushL, tL_pushL, tR_pushL, tN_pushL, tZ_pushL, tC_pushL, tc_pushL, tz_pushL, tI_pushB, tL_pushB, tR_pushB, tN_pushB, tZ_pushB, tC_pushB, tc_pushB, tz_pushB, tI_cpL, tL_cpL, tR_cpL, tN_cpL, tZ_cpL, tC_cpL, tc_cpL, tz_cpL, eq_self, true_and, and_true, false_and, and_false, if_true, if_false, reduceIte, ite_true, ite_false, not_true_eq_false, not_false_eq_true, fcN_96 hF, fcR_96_5 hF, X405, X402, fcN_29 hF, x0, fcR_96_6 hF, f14, g1, g2, hq, r1, acc_enc, r2, u11, ct, na]
            rfl
          · have x29' := fun z => x29 (a := a) (z := z) (j := j) ja
            rw [kR_at sa] at k8
            rw [kI_at sa] at k7 k12
            by_cases c8 : hI b q 8 = 0
            · rw [k8 c8] at x29'
              simp only [if_true] at x29'
              simp (config := {decide := true}) only [gfI_enc, gfL_enc, gfR_enc, pfI_enc, pfL_enc, pfR_enc, Option.bind_some, cI_v, cL_v, cF_v, cD_v, cR_v, cV_v, cI_x, cL_x, cR_x, cV_x, gz_0, gz_1, acc_enc, tI_sI, tL_sI, tR_sI, tN_sI, tZ_sI, tC_sI, tc_sI, tz_sI, tI_sL, tL_sL, tR_sL, tN_sL, tZ_sL, tC_sL, tc_sL, tz_sL, tI_sR, tL_sR, tR_sR, tN_sR, tZ_sR, tC_sR, tc_sR, tz_sR, tI_sZ, tL_sZ, tR_sZ, tN_sZ, tZ_sZ, tC_sZ, tc_sZ, tz_sZ, tI_sC, tL_sC, tR_sC, tN_sC, tZ_sC, tC_sC, tc_sC, tz_sC, tI_aC, tL_aC, tR_aC, tN_aC, tZ_aC, tC_aC, tc_aC, tz_aC, tI_rmL, tL_rmL, tR_rmL, tN_rmL, tZ_rmL, tC_rmL, tc_rmL, tz_rmL, tI_mk, tL_mk, tR_mk, tN_mk, tZ_mk, tC_mk, tc_mk, tz_mk, tI_pushL, tL_pushL, tR_pushL, tN_pushL, tZ_pushL, tC_pushL, tc_pushL, tz_pushL, tI_pushB, tL_pushB, tR_pushB, tN_pushB, tZ_pushB, tC_pushB, tc_pushB, tz_pushB, tI_cpL, tL_cpL, tR_cpL, tN_cpL, tZ_cpL, tC_cpL, tc_cpL, tz_cpL, eq_self, true_and, and_true, false_and, and_false, if_true, if_false, reduceIte, ite_true, ite_false, not_true_eq_false, not_false_eq_true, fcN_96 hF, fcR_96_5 hF, X405, X402, fcN_29 hF, x0, fcR_96_6 hF, f14, g1, g2, hq, r1, acc_enc, r2, u11, ct, sa, reduceCtorEq, x29']
              rfl
            · obtain ⟨i, k, t, s, -, -, -, -, v8, -⟩ := k8' c8
              rw [kR_at sa] at v8
              rw [v8] at x29'
              have nn7 : ¬ (some ((7 : Nat), i) : Option (Nat × Nat)) = none := by simp
              simp only [nn7, if_false] at x29'
              by_cases c11 : hI b q 11 = 0
              · have cd : 1 < tI b 94 0 11 - hI b q 15 := Classical.byContradiction (fun cd => G ⟨c8, c11, ct, cd⟩)
                simp (config := {decide := true}) only [gfI_enc, gfL_enc, gfR_enc, pfI_enc, pfL_enc, pfR_enc, Option.bind_some, cI_v, cL_v, cF_v, cD_v, cR_v, cV_v, cI_x, cL_x, cR_x, cV_x, gz_0, gz_1, acc_enc, tI_sI, tL_sI, tR_sI, tN_sI, tZ_sI, tC_sI, tc_sI, tz_sI, tI_sL, tL_sL, tR_sL, tN_sL, tZ_sL, tC_sL, tc_sL, tz_sL, tI_sR, tL_sR, tR_sR, tN_sR, tZ_sR, tC_sR, tc_sR, tz_sR, tI_sZ, tL_sZ, tR_sZ, tN_sZ, tZ_sZ, tC_sZ, tc_sZ, tz_sZ, tI_sC, tL_sC, tR_sC, tN_sC, tZ_sC, tC_sC, tc_sC, tz_sC, tI_aC, tL_aC, tR_aC, tN_aC, tZ_aC, tC_aC, tc_aC, tz_aC, tI_rmL, tL_rmL, tR_rmL, tN_rmL, tZ_rmL, tC_rmL, tc_rmL, tz_rmL, tI_mk, tL_mk, tR_mk, tN_mk, tZ_mk, tC_mk, tc_mk, tz_mk, tI_pushL, tL_pushL, tR_pushL, tN_pushL, tZ_pushL, tC_pushL, tc_pushL, tz_pushL, tI_pushB, tL_pushB, tR_pushB, tN_pushB, tZ_pushB, tC_pushB, tc_pushB, tz_pushB, tI_cpL, tL_cpL, tR_cpL, tN_cpL, tZ_cpL, tC_cpL, tc_cpL, tz_cpL, eq_self, true_and, and_true, false_and, and_false, if_true, if_false, reduceIte, ite_true, ite_false, not_true_eq_false, not_false_eq_true, fcN_96 hF, fcR_96_5 hF, X405, X402, fcN_29 hF, x0, fcR_96_6 hF, f14, g1, g2, hq, r1, acc_enc, r2, u11, ct, sa, reduceCtorEq, x29', ja, k7, c11, fcR_96_1 hF, fcN_25 hF, hday, k12, cd]
                rfl
              · simp (config := {decide := true}) only [gfI_enc, gfL_enc, gfR_enc, pfI_enc, pfL_enc, pfR_enc, Option.bind_some, cI_v, cL_v, cF_v, cD_v, cR_v, cV_v, cI_x, cL_x, cR_x, cV_x, gz_0, gz_1, acc_enc, tI_sI, tL_sI, tR_sI, tN_sI, tZ_sI, tC_sI, tc_sI, tz_sI, tI_sL, tL_sL, tR_sL, tN_sL, tZ_sL, tC_sL, tc_sL, tz_sL, tI_sR, tL_sR, tR_sR, tN_sR, tZ_sR, tC_sR, tc_sR, tz_sR, tI_sZ, tL_sZ, tR_sZ, tN_sZ, tZ_sZ, tC_sZ, tc_sZ, tz_sZ, tI_sC, tL_sC, tR_sC, tN_sC, tZ_sC, tC_sC, tc_sC, tz_sC, tI_aC, tL_aC, tR_aC, tN_aC, tZ_aC, tC_aC, tc_aC, tz_aC, tI_rmL, tL_rmL, tR_rmL, tN_rmL, tZ_rmL, tC_rmL, tc_rmL, tz_rmL, tI_mk, tL_mk, tR_mk, tN_mk, tZ_mk, tC_mk, tc_mk, tz_mk, tI_pushL, tL_pushL, tR_pushL, tN_pushL, tZ_pushL, tC_pushL, tc_pushL, tz_pushL, tI_pushB, tL_pushB, tR_pushB, tN_pushB, tZ_pushB, tC_pushB, tc_pushB, tz_pushB, tI_cpL, tL_cpL, tR_cpL, tN_cpL, tZ_cpL, tC_cpL, tc_cpL, tz_cpL, eq_self, true_and, and_true, false_and, and_false, if_true, if_false, reduceIte, ite_true, ite_false, not_true_eq_false, not_false_eq_true, fcN_96 hF, fcR_96_5 hF, X405, X402, fcN_29 hF, x0, fcR_96_6 hF, f14, g1, g2, hq, r1, acc_enc, r2, u11, ct, sa, reduceCtorEq, x29', ja, k7, c11]
                rfl
      · have f178 : ∀ z, Ex 178 [aR (some (94, 0)), aI (Int32.ofNat q)] (enc 2 b z) = some (.inl (some (aI 0)), enc 2 (sI (sI b 94 0 10 0) 94 0 10 2) z) := fun z => by
          refine (X_in (by decide +kernel) (frN_94 hFR) rfl).trans ((lf_178_0 ..).trans ?_)
          rcases KB.1 q hq1 with nb | ⟨j', jb, sb⟩
          · simp (config := {decide := true}) only [gfI_enc, gfL_enc, gfR_enc, pfI_enc, pfL_enc, pfR_enc, Option.bind_some, cI_v, cL_v, cF_v, cD_v, cR_v, cV_v, cI_x, cL_x, cR_x, cV_x, gz_0, gz_1, acc_enc, tI_sI, tL_sI, tR_sI, tN_sI, tZ_sI, tC_sI, tc_sI, tz_sI, tI_sL, tL_sL, tR_sL, tN_sL, tZ_sL, tC_sL, tc_sL, tz_sL, tI_sR, tL_sR, tR_sR, tN_sR, tZ_sR, tC_sR, tc_sR, tz_sR, tI_sZ, tL_sZ, tR_sZ, tN_sZ, tZ_sZ, tC_sZ, tc_sZ, tz_sZ, tI_sC, tL_sC, tR_sC, tN_sC, tZ_sC, tC_sC, tc_sC, tz_sC, tI_aC, tL_aC, tR_aC, tN_aC, tZ_aC, tC_aC, tc_aC, tz_aC, tI_rmL, tL_rmL, tR_rmL, tN_rmL, tZ_rmL, tC_rmL, tc_rmL, tz_rmL, tI_mk, tL_mk, tR_mk, tN_mk, tZ_mk, tC_mk, tc_mk, tz_mk, tI_pushL, tL_pushL, tR_pushL, tN_pushL, tZ_pushL, tC_pushL, tc_pushL, tz_pushL, tI_pushB, tL_pushB, tR_pushB, tN_pushB, tZ_pushB, tC_pushB, tc_pushB, tz_pushB, tI_cpL, tL_cpL, tR_cpL, tN_cpL, tZ_cpL, tC_cpL, tc_cpL, tz_cpL, eq_self, true_and, and_true, false_and, and_false, if_true, if_false, reduceIte, ite_true, ite_false, not_true_eq_false, not_false_eq_true, g2, frN_94 hFR, frR_94_0 hFR, frN_93 hFR, P4, g3, frR_94_2 hFR, frN_53 hFR, frZ_53 hFR, gaR_enc, g1, hq1, nb, f86]
          · have hG : ∀ f, hI b q f = tI b 61 j' f := fun f => hI_at sb
            have hG' : ¬ (tI b 61 j' 8 ≠ 0 ∧ tI b 61 j' 11 = 0 ∧ tI b 87 0 (10 * q + 9) ≠ 0 ∧ ¬ 1 < tI b 94 0 11 - tI b 61 j' 15) := fun w => G (by unfold dsC; rw [hG, hG, hG]; exact w)
            by_cases c8 : tI b 61 j' 8 = 0
            · simp (config := {decide := true}) only [gfI_enc, gfL_enc, gfR_enc, pfI_enc, pfL_enc, pfR_enc, Option.bind_some, cI_v, cL_v, cF_v, cD_v, cR_v, cV_v, cI_x, cL_x, cR_x, cV_x, gz_0, gz_1, acc_enc, tI_sI, tL_sI, tR_sI, tN_sI, tZ_sI, tC_sI, tc_sI, tz_sI, tI_sL, tL_sL, tR_sL, tN_sL, tZ_sL, tC_sL, tc_sL, tz_sL, tI_sR, tL_sR, tR_sR, tN_sR, tZ_sR, tC_sR, tc_sR, tz_sR, tI_sZ, tL_sZ, tR_sZ, tN_sZ, tZ_sZ, tC_sZ, tc_sZ, tz_sZ, tI_sC, tL_sC, tR_sC, tN_sC, tZ_sC, tC_sC, tc_sC, tz_sC, tI_aC, tL_aC, tR_aC, tN_aC, tZ_aC, tC_aC, tc_aC, tz_aC, tI_rmL, tL_rmL, tR_rmL, tN_rmL, tZ_rmL, tC_rmL, tc_rmL, tz_rmL, tI_mk, tL_mk, tR_mk, tN_mk, tZ_mk, tC_mk, tc_mk, tz_mk, tI_pushL, tL_pushL, tR_pushL, tN_pushL, tZ_pushL, tC_pushL, tc_pushL, tz_pushL, tI_pushB, tL_pushB, tR_pushB, tN_pushB, tZ_pushB, tC_pushB, tc_pushB, tz_pushB, tI_cpL, tL_cpL, tR_cpL, tN_cpL, tZ_cpL, tC_cpL, tc_cpL, tz_cpL, eq_self, true_and, and_true, false_and, and_false, if_true, if_false, reduceIte, ite_true, ite_false, not_true_eq_false, not_false_eq_true, g2, frN_94 hFR, frR_94_0 hFR, frN_93 hFR, P4, g3, frR_94_2 hFR, frN_53 hFR, frZ_53 hFR, gaR_enc, g1, hq1, sb, reduceCtorEq, jb, c8, f86]
            · by_cases c11 : tI b 61 j' 11 = 0
              · by_cases ct : tI b 87 0 (10 * q + 9) = 1
                · have cd : 1 < tI b 94 0 11 - tI b 61 j' 15 := Classical.byContradiction (fun cd => hG' ⟨c8, c11, by rw [ct]; decide, cd⟩)
                  simp (config := {decide := true}) only [gfI_enc, gfL_enc, gfR_enc, pfI_enc, pfL_enc, pfR_enc, Option.bind_some, cI_v, cL_v, cF_v, cD_v, cR_v, cV_v, cI_x, cL_x, cR_x, cV_x, gz_0, gz_1, acc_enc, tI_sI, tL_sI, tR_sI, tN_sI, tZ_sI, tC_sI, tc_sI, tz_sI, tI_sL, tL_sL, tR_sL, tN_sL, tZ_sL, tC_sL, tc_sL, tz_sL, tI_sR, tL_sR, tR_sR, tN_sR, tZ_sR, tC_sR, tc_sR, tz_sR, tI_sZ, tL_sZ, tR_sZ, tN_sZ, tZ_sZ, tC_sZ, tc_sZ, tz_sZ, tI_sC, tL_sC, tR_sC, tN_sC, tZ_sC, tC_sC, tc_sC, tz_sC, tI_aC, tL_aC, tR_aC, tN_aC, tZ_aC, tC_aC, tc_aC, tz_aC, tI_rmL, tL_rmL, tR_rmL, tN_rmL, tZ_rmL, tC_rmL, tc_rmL, tz_rmL, tI_mk, tL_mk, tR_mk, tN_mk, tZ_mk, tC_mk, tc_mk, tz_mk, tI_pushL, tL_pushL, tR_pushL, tN_pushL, tZ_pushL, tC_pushL, tc_pushL, tz_pushL, tI_pushB, tL_pushB, tR_pushB, tN_pushB, tZ_pushB, tC_pushB, tc_pushB, tz_pushB, tI_cpL, tL_cpL, tR_cpL, tN_cpL, tZ_cpL, tC_cpL, tc_cpL, tz_cpL, eq_self, true_and, and_true, false_and, and_false, if_true, if_false, reduceIte, ite_true, ite_false, not_true_eq_false, not_false_eq_true, g2, frN_94 hFR, frR_94_0 hFR, frN_93 hFR, P4, g3, frR_94_2 hFR, frN_53 hFR, frZ_53 hFR, gaR_enc, g1, hq1, sb, reduceCtorEq, jb, c8, c11, f238, ct, one0, cd, f86]
                · simp (config := {decide := true}) only [gfI_enc, gfL_enc, gfR_enc, pfI_enc, pfL_enc, pfR_enc, Option.bind_some, cI_v, cL_v, cF_v, cD_v, cR_v, cV_v, cI_x, cL_x, cR_x, cV_x, gz_0, gz_1, acc_enc, tI_sI, tL_sI, tR_sI, tN_sI, tZ_sI, tC_sI, tc_sI, tz_sI, tI_sL, tL_sL, tR_sL, tN_sL, tZ_sL, tC_sL, tc_sL, tz_sL, tI_sR, tL_sR, tR_sR, tN_sR, tZ_sR, tC_sR, tc_sR, tz_sR, tI_sZ, tL_sZ, tR_sZ, tN_sZ, tZ_sZ, tC_sZ, tc_sZ, tz_sZ, tI_sC, tL_sC, tR_sC, tN_sC, tZ_sC, tC_sC, tc_sC, tz_sC, tI_aC, tL_aC, tR_aC, tN_aC, tZ_aC, tC_aC, tc_aC, tz_aC, tI_rmL, tL_rmL, tR_rmL, tN_rmL, tZ_rmL, tC_rmL, tc_rmL, tz_rmL, tI_mk, tL_mk, tR_mk, tN_mk, tZ_mk, tC_mk, tc_mk, tz_mk, tI_pushL, tL_pushL, tR_pushL, tN_pushL, tZ_pushL, tC_pushL, tc_pushL, tz_pushL, tI_pushB, tL_pushB, tR_pushB, tN_pushB, tZ_pushB, tC_pushB, tc_pushB, tz_pushB, tI_cpL, tL_cpL, tR_cpL, tN_cpL, tZ_cpL, tC_cpL, tc_cpL, tz_cpL, eq_self, true_and, and_true, false_and, and_false, if_true, if_false, reduceIte, ite_true, ite_false, not_true_eq_false, not_false_eq_true, g2, frN_94 hFR, frR_94_0 hFR, frN_93 hFR, P4, g3, frR_94_2 hFR, frN_53 hFR, frZ_53 hFR, gaR_enc, g1, hq1, sb, reduceCtorEq, jb, c8, c11, f238, ct, f86]
              · simp (config := {decide := true}) only [gfI_enc, gfL_enc, gfR_enc, pfI_enc, pfL_enc, pfR_enc, Option.bind_some, cI_v, cL_v, cF_v, cD_v, cR_v, cV_v, cI_x, cL_x, cR_x, cV_x, gz_0, gz_1, acc_enc, tI_sI, tL_sI, tR_sI, tN_sI, tZ_sI, tC_sI, tc_sI, tz_sI, tI_sL, tL_sL, tR_sL, tN_sL, tZ_sL, tC_sL, tc_sL, tz_sL, tI_sR, tL_sR, tR_sR, tN_sR, tZ_sR, tC_sR, tc_sR, tz_sR, tI_sZ, tL_sZ, tR_sZ, tN_sZ, tZ_sZ, tC_sZ, tc_sZ, tz_sZ, tI_sC, tL_sC, tR_sC, tN_sC, tZ_sC, tC_sC, tc_sC, tz_sC, tI_aC, tL_aC, tR_aC, tN_aC, tZ_aC, tC_aC, tc_aC, tz_aC, tI_rmL, tL_rmL, tR_rmL, tN_rmL, tZ_rmL, tC_rmL, tc_rmL, tz_rmL, tI_mk, tL_mk, tR_mk, tN_mk, tZ_mk, tC_mk, tc_mk, tz_mk, tI_pushL, tL_pushL, tR_pushL, tN_pushL, tZ_pushL, tC_pushL, tc_pushL, tz_pushL, tI_pushB, tL_pushB, tR_pushB, tN_pushB, tZ_pushB, tC_pushB, tc_pushB, tz_pushB, tI_cpL, tL_cpL, tR_cpL, tN_cpL, tZ_cpL, tC_cpL, tc_cpL, tz_cpL, eq_self, true_and, and_true, false_and, and_false, if_true, if_false, reduceIte, ite_true, ite_false, not_true_eq_false, not_false_eq_true, g2, frN_94 hFR, frR_94_0 hFR, frN_93 hFR, P4, g3, frR_94_2 hFR, frN_53 hFR, frZ_53 hFR, gaR_enc, g1, hq1, sb, reduceCtorEq, jb, c8, c11, f86]
        refine (X_in (by decide +kernel) (frN_97 hFR) rfl).trans ((lf_277_0 ..).trans ?_)
        simp (config := {decide := true}) only [gfI_enc, gfL_enc, gfR_enc, pfI_enc, pfL_enc, pfR_enc, Option.bind_some, cI_v, cL_v, cF_v, cD_v, cR_v, cV_v, cI_x, cL_x, cR_x, cV_x, gz_0, gz_1, acc_enc, tI_sI, tL_sI, tR_sI, tN_sI, tZ_sI, tC_sI, tc_sI, tz_sI, tI_sL, tL_sL, tR_sL, tN_sL, tZ_sL, tC_sL, tc_sL, tz_sL, tI_sR, tL_sR, tR_sR, tN_sR, tZ_sR, tC_sR, tc_sR, tz_sR, tI_sZ, tL_sZ, tR_sZ, tN_sZ, tZ_sZ, tC_sZ, tc_sZ, tz_sZ, tI_sC, tL_sC, tR_sC, tN_sC, tZ_sC, tC_sC, tc_sC, tz_sC, tI_aC, tL_aC, tR_aC, tN_aC, tZ_aC, tC_aC, tc_aC, tz_aC, tI_rmL, tL_rmL, tR_rmL, tN_rmL, tZ_rmL, tC_rmL, tc_rmL, tz_rmL, tI_mk, tL_mk, tR_mk, tN_mk, tZ_mk, tC_mk, tc_mk, tz_mk, tI_pushL, tL_pushL, tR_pushL, tN_pushL, tZ_pushL, tC_pushL, tc_pushL, tz_pushL, tI_pushB, tL_pushB, tR_pushB, tN_pushB, tZ_pushB, tC_pushB, tc_pushB, tz_pushB, tI_cpL, tL_cpL, tR_cpL, tN_cpL, tZ_cpL, tC_cpL, tc_cpL, tz_cpL, eq_self, true_and, and_true, false_and, and_false, if_true, if_false, reduceIte, ite_true, ite_false, not_true_eq_false, not_false_eq_true, frN_97 hFR, frR_97_3 hFR, f178, f257, e94]
  · have x0 := x139_0 e0
    have f257 := fun v z => y257 (b := sI b 94 0 10 1) (z := z) (v := v) (r_FR (Core_th h th94_c th94_w).1.1)
    have e94 : tI (sI b 94 0 10 1) 94 0 10 = 1 := by rw [tI_sI, if_pos ⟨rfl, rfl, rfl⟩]
    obtain ⟨P1, P2, P3, P4, -⟩ := r_P' hR
    have f178 : ∀ z, Ex 178 [aR (some (94, 0)), aI p] (enc 2 b z) = some (.inl (some (aI 0)), enc 2 (sI b 94 0 10 1) z) := fun z => by
      refine (X_in (by decide +kernel) (frN_94 hFR) rfl).trans ((lf_178_0 ..).trans ?_)
      by_cases g1 : p < 0
      · simp (config := {decide := true}) only [gfI_enc, gfL_enc, gfR_enc, pfI_enc, pfL_enc, pfR_enc, Option.bind_some, cI_v, cL_v, cF_v, cD_v, cR_v, cV_v, cI_x, cL_x, cR_x, cV_x, gz_0, gz_1, acc_enc, tI_sI, tL_sI, tR_sI, tN_sI, tZ_sI, tC_sI, tc_sI, tz_sI, tI_sL, tL_sL, tR_sL, tN_sL, tZ_sL, tC_sL, tc_sL, tz_sL, tI_sR, tL_sR, tR_sR, tN_sR, tZ_sR, tC_sR, tc_sR, tz_sR, tI_sZ, tL_sZ, tR_sZ, tN_sZ, tZ_sZ, tC_sZ, tc_sZ, tz_sZ, tI_sC, tL_sC, tR_sC, tN_sC, tZ_sC, tC_sC, tc_sC, tz_sC, tI_aC, tL_aC, tR_aC, tN_aC, tZ_aC, tC_aC, tc_aC, tz_aC, tI_rmL, tL_rmL, tR_rmL, tN_rmL, tZ_rmL, tC_rmL, tc_rmL, tz_rmL, tI_mk, tL_mk, tR_mk, tN_mk, tZ_mk, tC_mk, tc_mk, tz_mk, tI_pushL, tL_pushL, tR_pushL, tN_pushL, tZ_pushL, tC_pushL, tc_pushL, tz_pushL, tI_pushB, tL_pushB, tR_pushB, tN_pushB, tZ_pushB, tC_pushB, tc_pushB, tz_pushB, tI_cpL, tL_cpL, tR_cpL, tN_cpL, tZ_cpL, tC_cpL, tc_cpL, tz_cpL, eq_self, true_and, and_true, false_and, and_false, if_true, if_false, reduceIte, ite_true, ite_false, not_true_eq_false, not_false_eq_true, g1, frN_94 hFR]
      · have g2 : ¬ p < Int32.ofNat (tZ a 29 0) := Int32.not_lt.mpr (not_in e0 (by omega) g1)
        simp (config := {decide := true}) only [gfI_enc, gfL_enc, gfR_enc, pfI_enc, pfL_enc, pfR_enc, Option.bind_some, cI_v, cL_v, cF_v, cD_v, cR_v, cV_v, cI_x, cL_x, cR_x, cV_x, gz_0, gz_1, acc_enc, tI_sI, tL_sI, tR_sI, tN_sI, tZ_sI, tC_sI, tc_sI, tz_sI, tI_sL, tL_sL, tR_sL, tN_sL, tZ_sL, tC_sL, tc_sL, tz_sL, tI_sR, tL_sR, tR_sR, tN_sR, tZ_sR, tC_sR, tc_sR, tz_sR, tI_sZ, tL_sZ, tR_sZ, tN_sZ, tZ_sZ, tC_sZ, tc_sZ, tz_sZ, tI_sC, tL_sC, tR_sC, tN_sC, tZ_sC, tC_sC, tc_sC, tz_sC, tI_aC, tL_aC, tR_aC, tN_aC, tZ_aC, tC_aC, tc_aC, tz_aC, tI_rmL, tL_rmL, tR_rmL, tN_rmL, tZ_rmL, tC_rmL, tc_rmL, tz_rmL, tI_mk, tL_mk, tR_mk, tN_mk, tZ_mk, tC_mk, tc_mk, tz_mk, tI_pushL, tL_pushL, tR_pushL, tN_pushL, tZ_pushL, tC_pushL, tc_pushL, tz_pushL, tI_pushB, tL_pushB, tR_pushB, tN_pushB, tZ_pushB, tC_pushB, tc_pushB, tz_pushB, tI_cpL, tL_cpL, tR_cpL, tN_cpL, tZ_cpL, tC_cpL, tc_cpL, tz_cpL, eq_self, true_and, and_true, false_and, and_false, if_true, if_false, reduceIte, ite_true, ite_false, not_true_eq_false, not_false_eq_true, g1, frN_94 hFR, frR_94_0 hFR, frN_93 hFR, P4, g2]
    refine OpR_bad (b' := sI (sI b 94 0 10 1) 97 0 8 1) h 1 (by omega) (by omega) (fun z => ?_) (fun z => ?_) (chF_t th94_c th_c) (th94_w.t th_w) th_v
    · refine (X_in (by decide +kernel) (fcN_96 hF) rfl).trans ((lf_121_0 ..).trans ?_)
      simp (config := {decide := true}) only [gfI_enc, gfL_enc, gfR_enc, pfI_enc, pfL_enc, pfR_enc, Option.bind_some, cI_v, cL_v, cF_v, cD_v, cR_v, cV_v, cI_x, cL_x, cR_x, cV_x, gz_0, gz_1, acc_enc, tI_sI, tL_sI, tR_sI, tN_sI, tZ_sI, tC_sI, tc_sI, tz_sI, tI_sL, tL_sL, tR_sL, tN_sL, tZ_sL, tC_sL, tc_sL, tz_sL, tI_sR, tL_sR, tR_sR, tN_sR, tZ_sR, tC_sR, tc_sR, tz_sR, tI_sZ, tL_sZ, tR_sZ, tN_sZ, tZ_sZ, tC_sZ, tc_sZ, tz_sZ, tI_sC, tL_sC, tR_sC, tN_sC, tZ_sC, tC_sC, tc_sC, tz_sC, tI_aC, tL_aC, tR_aC, tN_aC, tZ_aC, tC_aC, tc_aC, tz_aC, tI_rmL, tL_rmL, tR_rmL, tN_rmL, tZ_rmL, tC_rmL, tc_rmL, tz_rmL, tI_mk, tL_mk, tR_mk, tN_mk, tZ_mk, tC_mk, tc_mk, tz_mk, tI_pushL, tL_pushL, tR_pushL, tN_pushL, tZ_pushL, tC_pushL, tc_pushL, tz_pushL, tI_pushB, tL_pushB, tR_pushB, tN_pushB, tZ_pushB, tC_pushB, tc_pushB, tz_pushB, tI_cpL, tL_cpL, tR_cpL, tN_cpL, tZ_cpL, tC_cpL, tc_cpL, tz_cpL, eq_self, true_and, and_true, false_and, and_false, if_true, if_false, reduceIte, ite_true, ite_false, not_true_eq_false, not_false_eq_true, fcN_96 hF, fcR_96_5 hF, X405, fcN_29 hF, x0]
      rfl
    · refine (X_in (by decide +kernel) (frN_97 hFR) rfl).trans ((lf_277_0 ..).trans ?_)
      simp (config := {decide := true}) only [gfI_enc, gfL_enc, gfR_enc, pfI_enc, pfL_enc, pfR_enc, Option.bind_some, cI_v, cL_v, cF_v, cD_v, cR_v, cV_v, cI_x, cL_x, cR_x, cV_x, gz_0, gz_1, acc_enc, tI_sI, tL_sI, tR_sI, tN_sI, tZ_sI, tC_sI, tc_sI, tz_sI, tI_sL, tL_sL, tR_sL, tN_sL, tZ_sL, tC_sL, tc_sL, tz_sL, tI_sR, tL_sR, tR_sR, tN_sR, tZ_sR, tC_sR, tc_sR, tz_sR, tI_sZ, tL_sZ, tR_sZ, tN_sZ, tZ_sZ, tC_sZ, tc_sZ, tz_sZ, tI_sC, tL_sC, tR_sC, tN_sC, tZ_sC, tC_sC, tc_sC, tz_sC, tI_aC, tL_aC, tR_aC, tN_aC, tZ_aC, tC_aC, tc_aC, tz_aC, tI_rmL, tL_rmL, tR_rmL, tN_rmL, tZ_rmL, tC_rmL, tc_rmL, tz_rmL, tI_mk, tL_mk, tR_mk, tN_mk, tZ_mk, tC_mk, tc_mk, tz_mk, tI_pushL, tL_pushL, tR_pushL, tN_pushL, tZ_pushL, tC_pushL, tc_pushL, tz_pushL, tI_pushB, tL_pushB, tR_pushB, tN_pushB, tZ_pushB, tC_pushB, tc_pushB, tz_pushB, tI_cpL, tL_cpL, tR_cpL, tN_cpL, tZ_cpL, tC_cpL, tc_cpL, tz_cpL, eq_self, true_and, and_true, false_and, and_false, if_true, if_false, reduceIte, ite_true, ite_false, not_true_eq_false, not_false_eq_true, frN_97 hFR, frR_97_3 hFR, f178, f257, e94]
