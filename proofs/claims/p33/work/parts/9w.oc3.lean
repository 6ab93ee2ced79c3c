/-! ===== a payment is disputed (class alone) ===== -/
/-- may it be disputed -/
def dsC (b : TS) (q : Nat) : Prop := hI b q 8 ≠ 0 ∧ hI b q 11 = 0 ∧ tI b 87 0 (10 * q + 9) ≠ 0 ∧ ¬ 1 < tI b 94 0 11 - hI b q 15
/-- what a dispute does -/
def DspP (b b' : TS) (q : Nat) : Prop := ∃ k t s, k < 8 ∧ t < 8 ∧ s < 4 ∧ hA b q 64 0 = Int32.ofNat k ∧ tI b 86 0 (10 * k + 9) = Int32.ofNat t ∧ hI b q 14 = Int32.ofNat s ∧
  (∀ n f, n < 1000 → hI b' n f = if n = q ∧ f = 16 then 0 else if n = q ∧ f = 11 then 1 else hI b n f) ∧
  (∀ n u f, n < 1000 → (u = 62 ∨ u = 63 ∨ u = 64) → hA b' n u f = hA b n u f) ∧
  (∀ u, tL b' 43 0 u = if u = t then tL b 43 0 u + (hI b q 16).toInt64 else tL b 43 0 u) ∧
  (∀ u, tL b' 46 0 u = if u = s then tL b 46 0 u - (hI b q 16).toInt64 else tL b 46 0 u)
set_option maxHeartbeats 2000000 in
theorem oc_dispute {a b : TS} {C q : Nat} (h : Core a b C) (hq : q < tZ a 29 0) :
    (dsC b q ∧ ∃ a' b', (∀ z, Ex 120 [aR (some (96, 0)), aI (Int32.ofNat q)] (enc 1 a z) = some (.inl (some (aI (hI b q 16))), enc 1 a' z)) ∧ Core a' b' C ∧ Wr a a' ∧ chF [4] [(35, 0), (36, 12)] a a' ∧ chF [43, 46, 61] [] b b' ∧ DspP b b' q) ∨
    (¬ dsC b q ∧ ∀ z, Ex 120 [aR (some (96, 0)), aI (Int32.ofNat q)] (enc 1 a z) = some (.inr (exN 3), enc 1 (aC a 1 6) z)) := by
  have hR := h.1.1
  have hF := r_FC hR
  obtain ⟨P1, P2, P3, P4, P5, P6, P7⟩ := r_P' hR
  have x0 := x139_1 (inR_mk (k := q) hq (by omega))
  obtain ⟨r1, r2, r3⟩ := paym_at hR hq
  obtain ⟨-, -, -, -, -, -, -, u11, ub⟩ := P5 q hq
  have hq1 : q < 1000 := by omega
  obtain ⟨KA, KB, KN⟩ := r_K hR
  obtain ⟨-, ⟨-, -, -, -, k7, k7b, k11, k12, knn⟩, -, -, ⟨k8b, k8, k8'⟩⟩ := KN q hq1
  have hday : tI a 25 0 1 = tI b 94 0 11 := by
    obtain ⟨-, ⟨h6, h7⟩, -⟩ := r_H hR
    rw [h6, h7]
  have g1 : (Int32.ofNat q).toNatClampNeg = q := o_ix (by omega)
  have g2 : ¬ Int32.ofNat q < 0 := o_lt0 (by omega)
  have f14 := fun z => x14 (a := a) (z := z) (n := q) hF hq1
  by_cases G : dsC b q
  · refine Or.inl ⟨G, ?_⟩
    obtain ⟨c8, c11, ct, cd⟩ := G
    obtain ⟨i, k, t, s, i7, hk, ht, hs, v8, -, -, -, v64, v86, v9, v10, v14⟩ := k8' c8
    rcases KA.1 q hq1 with na | ⟨j, ja, sa⟩
    · exfalso
      unfold kR at v8
      rw [na] at v8
      cases v8
    rcases KB.1 q hq1 with nb | ⟨j', jb, sb⟩
    · exfalso
      unfold hI at c8
      rw [nb] at c8
      exact c8 rfl
    rw [kR_at sa] at v8 v9 v10
    rw [kI_at sa] at k7 k11 k12
    -- the flag
    have hKf := flag7_R (r_K hR) hq1 sa sb
    have caf : chF [4] [] a (sI a 4 j 7 1) := chF_I (by simp) (chF_r _ _ _)
    have cbf : chF [61] [] b (sI b 61 j' 11 1) := chF_I (by simp) (chF_r _ _ _)
    have waf : Wr a (sI a 4 j 7 1) := (Wr.rf _).cI _ _ _ _
    have wbf : Wr b (sI b 61 j' 11 1) := (Wr.rf _).cI _ _ _ _
    have hIf : ∀ n f, n < 1000 → hI (sI b 61 j' 11 1) n f = if n = q ∧ f = 11 then 1 else hI b n f := fun n f hn => hI_sI KB hq1 sb _ _ hn _
    have hR1 : R0 (sI a 4 j 7 1) (sI b 61 j' 11 1) := R0_kn hR hKf (RB_c (r_B hR) caf cbf (by decide) (by decide)) (chF_m caf (by simp) (by simp)) (chF_m cbf (by simp) (by simp)) waf wbf (fun n hn => by rw [hIf n 8 hn, if_neg (fun q => absurd q.2 (by decide))]) (fun n hn => by rw [hIf n 14 hn, if_neg (fun q => absurd q.2 (by decide))]) (fun n hn => rfl)
    have sa1 : tR (sI a 4 j 7 1) 3 0 q = some (4, j) := sa
    have sb1 : tR (sI b 61 j' 11 1) 53 0 q = some (61, j') := sb
    have e16 : hI (sI b 61 j' 11 1) q 16 = hI b q 16 := by rw [hIf q 16 hq1, if_neg (fun q => absurd q.2 (by decide))]
    have e16' : tI (sI b 61 j' 11 1) 61 j' 16 = hI b q 16 := by rw [← e16, hI_at sb1]
    obtain ⟨hR2, ca2, cb2, wa2, wb2⟩ := gb_R (m := hI b q 16) (by rw [e16]; exact fun q => Int32.lt_irrefl q) knn hR1 hq1 sa1 sb1 ht hs
    have ca : chF [4] [(35, 0), (36, 12)] a (gbA (sI a 4 j 7 1) j t s (hI b q 16)) := chF_t (chF_m caf (by simp) (by simp)) ca2
    have cb : chF [43, 46, 61] [] b (gbB (sI b 61 j' 11 1) j' t s (hI b q 16)) := chF_t (chF_m cbf (by simp) (by simp)) cb2
    have gq' : groQ b (gbB (sI b 61 j' 11 1) j' t s (hI b q 16)) := groQ_c cb (by decide +kernel)
    have h1 : Core (gbA (sI a 4 j 7 1) j t s (hI b q 16)) (gbB (sI b 61 j' 11 1) j' t s (hI b q 16)) C := Core_k h hR2 ca cb (by decide) (by simp) (by decide) gq'
    have o35 : t < tN a 35 := (acct_at hR ht).2.1
    have o36 : s < tN a 36 := (shop_at hR hs).2.1
    have f35 := fun z => x35 (a := sI a 4 j 7 1) (z := z) (j := j) (k := t) (s := s) (hI b q 16) ja v9 v10 o35 o36
    have x29' := fun z => x29 (a := a) (z := z) (j := j) ja
    rw [v8] at x29'
    have nn7 : ¬ (some ((7 : Nat), i) : Option (Nat × Nat)) = none := by simp
    simp only [nn7, if_false] at x29'
    refine ⟨gbA (sI a 4 j 7 1) j t s (hI b q 16), _, fun z => pub_go (rf := 121) (cb := [aR (some (96, 0)), aI (Int32.ofNat q)]) (dm := 122) (da := [aR (some (96, 0)), aI (Int32.ofNat q)]) (fun z => ?_) (fun z => ?_) (fun z => ?_) z, h1, waf.t wa2, ca, cb, ⟨k, t, s, ?_, ?_, ?_, v64, v86, v14, fun n f hn => ?_, fun n u f hn hu => ?_, fun u => ?_, fun u => ?_⟩⟩
    · refine (X_in (by decide +kernel) (fcN_96 hF) rfl).trans ((lf_120_0 ..).trans ?_)
      rfl
    · refine (X_in (by decide +kernel) (fcN_96 hF) rfl).trans ((lf_121_0 ..).trans ?_)
      simp (config := {decide := true}) only [gfI_enc, gfL_enc, gfR_enc, pfI_enc, pfL_enc, pfR_enc, Option.bind_some, cI_v, cL_v, cF_v, cD_v, cR_v, cV_v, cI_x, cL_x, cR_x, cV_x, gz_0, gz_1, acc_enc, tI_sI, tL_sI, tR_sI, tN_sI, tZ_sI, tC_sI, tc_sI, tz_sI, tI_sL, tL_sL, tR_sL, tN_sL, tZ_sL, tC_sL, tc_sL, tz_sL, tI_sR, tL_sR, tR_sR, tN_sR, tZ_sR, tC_sR, tc_sR, tz_sR, tI_sZ, tL_sZ, tR_sZ, tN_sZ, tZ_sZ, tC_sZ, tc_sZ, tz_sZ, tI_sC, tL_sC, tR_sC, tN_sC, tZ_sC, tC_sC, tc_sC, tz_sC, tI_aC, tL_aC, tR_aC, tN_aC, tZ_aC, tC_aC, tc_aC, tz_aC, tI_rmL, tL_rmL, tR_rmL, tN_rmL, tZ_rmL, tC_rmL, tc_rmL, tz_rmL, tI_mk, tL_mk, tR_mk, tN_mk, tZ_mk, tC_mk, tc_mk, tz_mk, tI_pushL, tL_pushL, tR_pushL, tN_pushL, tZ_pushL, tC_pushL, tc_pushL, tz_pushL, tI_pushB, tL_pushB, tR_pushB, tN_pushB, tZ_pushB, tC_pushB, tc_pushB, tz_pushB, tI_cpL, tL_cpL, tR_cpL, tN_cpL, tZ_cpL, tC_cpL, tc_cpL, tz_cpL, eq_self, true_and, and_true, false_and, and_false, if_true, if_false, reduceIte, ite_true, ite_false, not_true_eq_false, not_false_eq_true, fcN_96 hF, fcR_96_5 hF, X405, X402, fcN_29 hF, x0, fcR_96_6 hF, f14, g1, g2, hq, r1, acc_enc, r2, u11, ct, sa, reduceCtorEq, x29', ja, k7, c11, fcR_96_1 hF, fcN_25 hF, hday, k12, cd]
    · refine (X_in (by decide +kernel) (fcN_96 hF) rfl).trans ((lf_122_0 ..).trans ?_)
      simp (config := {decide := true}) only [gfI_enc, gfL_enc, gfR_enc, pfI_enc, pfL_enc, pfR_enc, Option.bind_some, cI_v, cL_v, cF_v, cD_v, cR_v, cV_v, cI_x, cL_x, cR_x, cV_x, gz_0, gz_1, acc_enc, tI_sI, tL_sI, tR_sI, tN_sI, tZ_sI, tC_sI, tc_sI, tz_sI, tI_sL, tL_sL, tR_sL, tN_sL, tZ_sL, tC_sL, tc_sL, tz_sL, tI_sR, tL_sR, tR_sR, tN_sR, tZ_sR, tC_sR, tc_sR, tz_sR, tI_sZ, tL_sZ, tR_sZ, tN_sZ, tZ_sZ, tC_sZ, tc_sZ, tz_sZ, tI_sC, tL_sC, tR_sC, tN_sC, tZ_sC, tC_sC, tc_sC, tz_sC, tI_aC, tL_aC, tR_aC, tN_aC, tZ_aC, tC_aC, tc_aC, tz_aC, tI_rmL, tL_rmL, tR_rmL, tN_rmL, tZ_rmL, tC_rmL, tc_rmL, tz_rmL, tI_mk, tL_mk, tR_mk, tN_mk, tZ_mk, tC_mk, tc_mk, tz_mk, tI_pushL, tL_pushL, tR_pushL, tN_pushL, tZ_pushL, tC_pushL, tc_pushL, tz_pushL, tI_pushB, tL_pushB, tR_pushB, tN_pushB, tZ_pushB, tC_pushB, tc_pushB, tz_pushB, tI_cpL, tL_cpL, tR_cpL, tN_cpL, tZ_cpL, tC_cpL, tc_cpL, tz_cpL, eq_self, true_and, and_true, false_and, and_false, if_true, if_false, reduceIte, ite_true, ite_false, not_true_eq_false, not_false_eq_true, fcN_96 hF, fcR_96_6 hF, f14, sa, reduceCtorEq, ja, k11, f35]
      unfold gbA
      rw [show tI (sI a 4 j 7 1) 4 j 11 = hI b q 16 from by rw [tI_sI, if_neg (fun q => absurd q.2.2 (by decide))]; exact k11]
      rfl
    · have := (r_C hR).1
      omega
    · have := (r_B hR).1
      omega
    · have := (r_S hR).1
      omega
    · unfold gbB
      have KB1 : KsB (sI b 61 j' 11 1) := (r_K hR1).2.1
      show hI (sI (sI b 61 j' 11 1) 61 j' 16 _) n f = _
      rw [hI_sI KB1 hq1 sb1 _ _ hn, hIf n f hn, e16', Int32.sub_self]
    · show hA (sI (sI b 61 j' 11 1) 61 j' 16 _) n u f = _
      rw [hA_o _ (by omega), hA_o _ (by omega)]
    · unfold gbB
      rw [tL_sL, if_neg (fun q => absurd q.1 (by decide)), tL_sL]
      by_cases e : u = t
      · rw [if_pos ⟨rfl, rfl, e⟩, if_pos e, e]
        rfl
      · rw [if_neg (fun q => e q.2.2), if_neg e]
        rfl
    · unfold gbB
      rw [tL_sL]
      by_cases e : u = s
      · rw [if_pos ⟨rfl, rfl, e⟩, if_pos e, e]
        rfl
      · rw [if_neg (fun q => e q.2.2), if_neg e, tL_sL, if_neg (fun q => absurd q.1 (by decide))]
        rfl
  · refine Or.inr ⟨G, fun z => pub_no (r := 3) (rf := 121) (cb := [aR (some (96, 0)), aI (Int32.ofNat q)]) (K := fun x5 _ h3 => cI (Ex 122 [aR (some (96, 0)), aI (Int32.ofNat q)] h3) (fun x5 h4 => some (.inl (some (aI x5)), h4)) xT) (by omega) (by omega) (fun z => ?_) (fun z => ?_) z⟩
    · refine (X_in (by decide +kernel) (fcN_96 hF) rfl).trans ((lf_120_0 ..).trans ?_)
      rfl
    · refine (X_in (by decide +kernel) (fcN_96 hF) rfl).trans ((lf_121_0 ..).trans ?_)
      by_cases ct : tI b 87 0 (10 * q + 9) = 0
      · simp (config := {decide := true}) only [gfI_enc, gfL_enc, gfR_enc, pfI_enc, pfL_enc, pfR_enc, Option.bind_some, cI_v, cL_v, cF_v, cD_v, cR_v, cV_v, cI_x, cL_x, cR_x, cV_x, gz_0, gz_1, acc_enc, tI_sI, tL_sI, tR_sI, tN_sI, tZ_sI, tC_sI, tc_sI, tz_sI, tI_sL, tL_sL, tR_sL, tN_sL, tZ_sL, tC_sL, tc_sL, tz_sL, tI_sR, tL_sR, tR_sR, tN_sR, tZ_sR, tC_sR, tc_sR, tz_sR, tI_sZ, tL_sZ, tR_sZ, tN_sZ, tZ_sZ, tC_sZ, tc_sZ, tz_sZ, tI_sC, tL_sC, tR_sC, tN_sC, tZ_sC, tC_sC, tc_sC, tz_sC, tI_aC, tL_aC, tR_aC, tN_aC, tZ_aC, tC_aC, tc_aC, tz_aC, tI_rmL, tL_rmL, tR_rmL, tN_rmL, tZ_rmL, tC_rmL, tc_rmL, tz_rmL, tI_mk, tL_mk, tR_mk, tN_mk, tZ_mk, tC_mk, tc_mk, tz_mk, tI_pushL, tL_pushL, tR_pushL, tN_pushL, tZ_pushL, tC_pushL, tc_pushL, tz_pushL, tI_pushB, tL_pushB, tR_pushB, tN_pushB, tZ_pushB, tC_pushB, tc_pushB, tz_pushB, tI_cpL, tL_cpL, tR_cpL, tN_cpL, tZ_cpL, tC_cpL, tc_cpL, tz_cpL, eq_self, true_and, and_true, false_and, and_false, if_true, if_false, reduceIte, ite_true, ite_false, not_true_eq_false, not_false_eq_true, fcN_96 hF, fcR_96_5 hF, X405, X402, fcN_29 hF, x0, fcR_96_6 hF, f14, g1, g2, hq, r1, acc_enc, r2, u11, ct]
        rfl
      · rcases KA.1 q hq1 with na | ⟨j, ja, sa⟩
        · simp (config := {decide := true}) only [gfI_enc, gfL_enc, gfR_enc, pfI_enc, pfL_enc, pfR_enc, Option.bind_some, cI_v, cL_v, cF_v, cD_v, cR_v, cV_v, cI_x, cL_x, cR_x, cV_x, gz_0, gz_1, acc_enc, tI_sI, tL_sI, tR_sI, tN_sI, tZ_sI, tC_sI, tc_sI, tz_sI, tI_sL, tL_sL, tR_sL, tN_sL, tZ_sL, tC_sL, tc_sL, tz_sL, tI_sR, tL_sR, tR_sR, tN_sR, tZ_sR, tC_sR, tc_sR, tz_sR, tI_sZ, tL_sZ, tR_sZ, tN_sZ, tZ_sZ, tC_sZ, tc_sZ, tz_sZ, tI_sC, tL_sC, tR_sC, tN_sC, tZ_sC, tC_sC, tc_sC, tz_sC, tI_aC, tL_aC, tR_aC, tN_aC, tZ_aC, tC_aC, tc_aC, tz_aC, tI_rmL, tL_rmL, tR_rmL, tN_rmL, tZ_rmL, tC_rmL, tc_rmL, tz_rmL, tI_mk, tL_mk, tR_mk, tN_mk, tZ_mk, tC_mk, tc_mk, tz_mk, tI_pushL, tL_pushL, tR_pushL, tN_pushL, tZ_pushL, tC_pushL, tc_pushL, tz_pushL, tI_pushB, tL_pushB, tR_pushB, tN_pushB, tZ_pushB, tC_pushB, tc_pushB, tz_pushB, tI_cpL, tL_cpL, tR_cpL, tN_cpL, tZ_cpL, tC_cpL, tc_cpL, tz_cpL, eq_self, true_and, and_true, false_and, and_false, if_true, if_false, reduceIte, ite_true, ite_false, not_true_eq_false, not_false_eq_true, fcN_96 hF, fcR_96_5 hF, X405, X402, fcN_29 hF, x0, fcR_96_6 hF, f14, g1, g2, hq, r1, acc_enc, r2, u11, ct, na]
          rfl
        · have x29' := fun z => x29 (a := a) (z := z) (j := j) ja
          rw [kR_at sa] at k8
          rw [kI_at sa] at k7 k12
          by_cases c8 : hI b q 8 = 0
          · rw [k8 c8] at x29'
            simp only [if_true] at x29'
            simp (config := {decide := true}) only [gfI_enc, gfL_enc, gfR_enc, pfI_enc, pfL_enc, pfR_enc, Option.bind_some, cI_v, cL_v, cF_v, cD_v, cR_v, cV_v, cI_x, cL_x, cR_x, cV_x, gz_0, gz_1, acc_enc, tI_sI, tL_sI, tR_sI, tN_sI, tZ_sI, tC_sI, tc_sI, tz_sI, tI_sL, tL_sL, tR_sL, tN_sL, tZ_sL, tC_sL, tc_sL, tz_sL, tI_sR, tL_sR, tR_sR, tN_sR, tZ_sR, tC_sR, tc_sR, tz_sR, tI_sZ, tL_sZ, tR_sZ, tN_sZ, tZ_sZ, tC_sZ, tc_sZ, tz_sZ, tI_sC, tL_sC, tR_sC, tN_sC, tZ_sC, tC_sC, tc_sC, tz_sC, tI_aC, tL_aC, tR_aC, tN_aC, tZ_aC, tC_aC, tc_aC, tz_aC, tI_rmL, tL_rmL, tR_rmL, tN_rmL, tZ_rmL, tC_rmL, tc_rmL, tz_rmL, tI_mk, tL_mk, tR_mk, tN_mk, tZ_mk, tC_mk, tc_mk, tz_mk, tI_pushL, tL_pushL, tR_pushL, tN_pushL, tZ_pushL, tC_pushL, tc_pushL, tz_pushL, tI_pushB, tL_pushB, tR_pushB, tN_pushB, tZ_pushB, tC_pushB, tc_pushB, tz_pushB, tI_cpL, tL_cpL, tR_cpL, tN_cpL, tZ_cpL, tC_cpL, tc_cpL, tz_cpL, eq_self, true_and, and_true, false_and, and_false, if_true, if_false, reduceIte, ite_true, ite_false, not_true_eq_false, not_false_eq_true, fcN_96 hF, fcR_96_5 hF, X405, X402, fcN_29 hF, x0, fcR_96_6 hF, f14, g1, g2, hq, r1, acc_enc, r2, u11, ct, sa, reduceCtorEq, x29']
            rfl
          · obtain ⟨i, k, t, s, -, -, -, -, v8, -⟩ := k8' c8
            rw [kR_at sa] at v8
            rw [v8] at x29'
            have nn7 : ¬ (some ((7 : Nat), i) : Option (Nat × Nat)) = none := by simp
            simp only [nn7, if_false] at x29'
            by_cases c11 : hI b q 11 = 0
            · have cd : 1 < tI b 94 0 11 - hI b q 15 := Classical.byContradiction (fun cd => G ⟨c8, c11, ct, cd⟩)
              simp (config := {decide := true}) only [gfI_enc, gfL_enc, gfR_enc, pfI_enc, pfL_enc, pfR_enc, Option.bind_some, cI_v, cL_v, cF_v, cD_v, cR_v, cV_v, cI_x, cL_x, cR_x, cV_x, gz_0, gz_1, acc_enc, tI_sI, tL_sI, tR_sI, tN_sI, tZ_sI, tC_sI, tc_sI, tz_sI, tI_sL, tL_sL, tR_sL, tN_sL, tZ_sL, tC_sL, tc_sL, tz_sL, tI_sR, tL_sR, tR_sR, tN_sR, tZ_sR, tC_sR, tc_sR, tz_sR, tI_sZ, tL_sZ, tR_sZ, tN_sZ, tZ_sZ, tC_sZ, tc_sZ, tz_sZ, tI_sC, tL_sC, tR_sC, tN_sC, tZ_sC, tC_sC, tc_sC, tz_sC, tI_aC, tL_aC, tR_aC, tN_aC, tZ_aC, tC_aC, tc_aC, tz_aC, tI_rmL, tL_rmL, tR_rmL, tN_rmL, tZ_rmL, tC_rmL, tc_rmL, tz_rmL, tI_mk, tL_mk, tR_mk, tN_mk, tZ_mk, tC_mk, tc_mk, tz_mk, tI_pushL, tL_pushL, tR_pushL, tN_pushL, tZ_pushL, tC_pushL, tc_pushL, tz_pushL, tI_pushB, tL_pushB, tR_pushB, tN_pushB, tZ_pushB, tC_pushB, tc_pushB, tz_pushB, tI_cpL, tL_cpL, tR_cpL, tN_cpL, tZ_cpL, tC_cpL, tc_cpL, tz_cpL, eq_self, true_and, and_true, false_and, and_false, if_true, if_false, reduceIte, ite_true, ite_false, not_true_eq_false, not_false_eq_true, fcN_96 hF, fcR_96_5 hF, X405, X402, fcN_29 hF, x0, fcR_96_6 hF, f14, g1, g2, hq, r1, acc_enc, r2, u11, ct, sa, reduceCtorEq, x29', ja, k7, c11, fcR_96_1 hF, fcN_25 hF, hday, k12, cd]
              rfl
            · simp (config := {decide := true}) only [gfI_enc, gfL_enc, gfR_enc, pfI_enc, pfL_enc, pfR_enc, Option.bind_some, cI_v, cL_v, cF_v, cD_v, cR_v, cV_v, cI_x, cL_x, cR_x, cV_x, gz_0, gz_1, acc_enc, tI_sI, tL_sI, tR_sI, tN_sI, tZ_sI, tC_sI, tc_sI, tz_sI, tI_sL, tL_sL, tR_sL, tN_sL, tZ_sL, tC_sL, tc_sL, tz_sL, tI_sR, tL_sR, tR_sR, tN_sR, tZ_sR, tC_sR, tc_sR, tz_sR, tI_sZ, tL_sZ, tR_sZ, tN_sZ, tZ_sZ, tC_sZ, tc_sZ, tz_sZ, tI_sC, tL_sC, tR_sC, tN_sC, tZ_sC, tC_sC, tc_sC, tz_sC, tI_aC, tL_aC, tR_aC, tN_aC, tZ_aC, tC_aC, tc_aC, tz_aC, tI_rmL, tL_rmL, tR_rmL, tN_rmL, tZ_rmL, tC_rmL, tc_rmL, tz_rmL, tI_mk, tL_mk, tR_mk, tN_mk, tZ_mk, tC_mk, tc_mk, tz_mk, tI_pushL, tL_pushL, tR_pushL, tN_pushL, tZ_pushL, tC_pushL, tc_pushL, tz_pushL, tI_pushB, tL_pushB, tR_pushB, tN_pushB, tZ_pushB, tC_pushB, tc_pushB, tz_pushB, tI_cpL, tL_cpL, tR_cpL, tN_cpL, tZ_cpL, tC_cpL, tc_cpL, tz_cpL, eq_self, true_and, and_true, false_and, and_false, if_true, if_false, reduceIte, ite_true, ite_false, not_true_eq_false, not_false_eq_true, fcN_96 hF, fcR_96_5 hF, X405, X402, fcN_29 hF, x0, fcR_96_6 hF, f14, g1, g2, hq, r1, acc_enc, r2, u11, ct, sa, reduceCtorEq, x29', ja, k7, c11]
              rfl
