/-! ===== what is kept is put again ===== -/
/-- where a kept message stands, and nowhere else -/
theorem kept_at {a b : TS} (hR : R0 a b) (hK : Kp a b) {s s' k k' c i : Nat} (hs : s < tZ a 27 0) (hs' : s' < tZ a 27 0) (hk : k < tZ a 19 s) (hk' : k' < tZ a 19 s') (h : tR a 19 s k = some (c, i)) (h' : tR a 19 s' k' = some (c, i)) : s' = s ∧ k' = k := by
  have hP200 := (r_P' hR).1
  have hS4 := (r_S hR).1
  obtain ⟨c1, i1, p1, x1, x2, x3, x4, x5, x6⟩ := kept_shop ((hK.1 s hs).2.2.2.1 k hk)
  obtain ⟨c2, i2, p2, y1, y2, y3, y4, y5, y6⟩ := kept_shop ((hK.1 s' hs').2.2.2.1 k' hk')
  rw [h] at x1
  rw [h'] at y1
  obtain ⟨r1, r2⟩ := Prod.mk.inj (Option.some.inj x1)
  obtain ⟨r3, r4⟩ := Prod.mk.inj (Option.some.inj y1)
  subst r1
  subst r2
  subst r3
  subst r4
  have e : p1 = p2 := o_inj (by omega) (by omega) (x5.symm.trans y5)
  subst e
  have es : s' = s := o_inj (by omega) (by omega) (y6.symm.trans x6)
  subst es
  refine ⟨rfl, ?_⟩
  rcases Nat.lt_trichotomy k k' with l | l | l
  · exact absurd (by rw [h, h']) ((hK.1 s' hs').2.2.2.2 k k' l hk')
  · exact l.symm
  · exact absurd (by rw [h, h']) ((hK.1 s' hs').2.2.2.2 k' k l hk)
set_option maxHeartbeats 2000000 in
/-- the time of the latest put is written down -/
theorem kp_time {a b : TS} {sh k c i : Nat} (hA : Al a b) (hsh : sh < tZ a 27 0) (hk : k < tZ a 19 sh) (h : tR a 19 sh k = some (c, i)) (hc : isKp c) {t : Int32} (ht : ∃ n, n ≤ 3000 ∧ t = Int32.ofNat n) :
    Al (sI a c i 13 t) (sI b 67 0 (500 * sh + k) t) ∧ PS a (sI a c i 13 t) b (sI b 67 0 (500 * sh + k) t) ∧ chF [] FkA a (sI a c i 13 t) ∧ chF [67] [] b (sI b 67 0 (500 * sh + k) t) := by
  obtain ⟨hR, hN, hL, hAs, hK⟩ := hA
  have ca : chF [] FkA a (sI a c i 13 t) := chF_I (Or.inr (isKp_F hc)) (chF_r _ _ _)
  have cb : chF [67] [] b (sI b 67 0 (500 * sh + k) t) := chF_I (by simp) (chF_r _ _ _)
  have wa : Wr a (sI a c i 13 t) := (Wr.rf a).cI _ _ _ _
  have wb : Wr b (sI b 67 0 (500 * sh + k) t) := (Wr.rf b).cI _ _ _ _
  have gq' : groQ b (sI b 67 0 (500 * sh + k) t) := groQ_c cb (by decide +kernel)
  have hP : PS a (sI a c i 13 t) b (sI b 67 0 (500 * sh + k) t) := PS_c ca cb (by decide) (by decide)
  have hR1 : R0 (sI a c i 13 t) (sI b 67 0 (500 * sh + k) t) := by
    have hR0 := hR
    have ha := ca
    have hb := cb
    obtain ⟨hFC, hFR, hB, hS, hM, hW, hV, hC, hD, hE, hP, hQ, hH, hK, hG, hO, hZ⟩ := hR
    exact ⟨FxC_s hFC wa ha (by decide), FxR_s hFR wb hb (by decide), RB_c hB ha hb (by decide) (by decide), RS_c hS ha hb (by decide) (by decide), RM_c hM ha hb (by decide) (by decide), RW_c hW ha hb (by decide) (by decide), RV_c hV ha hb (by decide) (by decide), RC_c hC ha hb (by decide) (by decide), RD_c hD ha hb (by decide) (by decide), RE_c hE ha hb (by decide) (by decide), RP_c hP ha hb (by decide) (by decide), RQ_c hQ ha hb (by decide) (by decide), RH_c hH ha hb (by decide) (by decide), RK_c hK ha hb (by decide) (by decide) (gro_c ha (by decide)) (gro_c ha (by decide)) (gro_c ha (by decide)) (gro_c ha (by decide)), RG_c hG ha hb (by decide) (by decide), RO_c hO ha hb (by decide) (by decide), RZ_c hZ ha hb (by decide) (by decide)⟩
  obtain ⟨hL1, hv⟩ := Ln0_o hL.1 ca cb (by decide) (by decide) (by decide) gq'
  have mvE : ∀ c' i', mv (sI a c i 13 t) c' i' = mv a c' i' := fun c' i' => mv_congr (fun f h h' => kp13 a t c' i' f (Or.inr h))
  have keyE : ∀ o, keyA (sI a c i 13 t) o = keyA a o := fun o => by
    cases o with
    | none => rfl
    | some x =>
      unfold keyA
      dsimp only
      rw [kp13 _ _ _ _ 0 (Or.inr (by decide)), kp13 _ _ _ _ 1 (Or.inr (by decide)), kp13 _ _ _ _ 11 (Or.inr (by decide))]
  refine ⟨⟨hR1, Nt_c hN ca cb (by decide) (by decide) hP.1 (gro_c ca (by decide)) gq', Ln_c hL hL1 hP rfl hv, As_c hAs ca cb (by decide) (by decide), ⟨fun s hs => ?_, fun s hs => by rw [dIS cb (S := [68]) (P := []) (s := 68) (by decide) (by simp)]; exact hK.2 s hs⟩⟩, hP, ca, cb⟩
  have hs : s < tZ a 27 0 := hs
  obtain ⟨x1, x2, x3, x4, x5⟩ := hK.1 s hs
  refine ⟨x1, by rw [dIS cb (S := [68]) (P := []) (s := 68) (by decide) (by simp)]; exact x2, x3, fun k' hk' => ?_, fun k1 k2 l hk' => ?_⟩
  · have hk' : k' < tZ a 19 s := hk'
    obtain ⟨c', i', q1, k1, k2, k3, k4, k5, k6, k7, k8, k9, k10⟩ := x4 k' hk'
    have e2 : qv (sI b 67 0 (500 * sh + k) t) (some q1) = qv b (some q1) := qv_congr (fun f => (gq' q1.1 k5).2 q1.2 k6 f)
    have hkc : kcd (sI a c i 13 t) (sI b 67 0 (500 * sh + k) t) s (mv a c' i') := by
      rcases k10 with ⟨x1, p, x2, x3, x4⟩ | ⟨x1, p, x2, x3, x4⟩ | ⟨x1, n, m, x2, x3, x4, x5⟩
      · exact Or.inl ⟨x1, p, x2, x3, by rw [dIS cb (S := [87]) (P := []) (s := 87) (by decide) (by simp)]; exact x4⟩
      · exact Or.inr (Or.inl ⟨x1, p, x2, x3, by rw [dIS cb (S := [70]) (P := []) (s := 70) (by decide) (by simp)]; exact x4⟩)
      · exact Or.inr (Or.inr ⟨x1, n, m, x2, by rw [dIS cb (S := [69]) (P := []) (s := 69) (by decide) (by simp)]; exact x3, x4, x5⟩)
    refine ⟨c', i', q1, k1, by rw [tR_sI]; exact k2, k3, k4, k5, k6, ?_, by rw [mvE, e2]; exact upM_c k8 hP, by rw [mvE]; exact k9, by rw [mvE]; exact hkc⟩
    rw [tI_sI, tI_sI]
    have hle := (hK.1 sh hsh).2.2.1
    by_cases e : c' = c ∧ i' = i
    · obtain ⟨r1, r2⟩ := kept_at hR hK hsh hs hk hk' h (by rw [k1, e.1, e.2])
      rw [if_pos ⟨e.1, e.2, rfl⟩, if_pos ⟨rfl, rfl, by rw [r1, r2]⟩]
      exact ⟨rfl, ht⟩
    · have ne : ¬ (s = sh ∧ k' = k) := fun z => by
        rw [z.1, z.2, h] at k1
        obtain ⟨r1, r2⟩ := Prod.mk.inj (Option.some.inj k1)
        exact e ⟨r1.symm, r2.symm⟩
      rw [if_neg (fun z => e ⟨z.1, z.2.1⟩), if_neg (fun z => ne (by omega))]
      exact k7
  · rw [keyE, keyE]
    exact x5 k1 k2 l hk'
/-- a step of both loops that puts nothing; one that puts -/
theorem x75_2 {a : TS} {z : Hp} {sh n k c i : Nat} (hF : FxC a) (h36 : sh < tN a 36) (T5 : tR a 36 sh 3 = some (25, 0)) (T6 : tR a 36 sh 4 = some (21, sh)) (T9 : tR a 36 sh 7 = some (19, sh)) (h19 : sh < tN a 19) (hn : tZ a 19 sh = n) (hn2 : n ≤ 500) (hk : k < n) (hR : tR a 19 sh k = some (c, i)) (hc : isKp c) (hi : i < tN a c) :
    Ru 75 2 [(0, aR (some (36, sh))), (1, aI (Int32.ofNat k))] [] (enc 1 a z) =
      if tI a 25 0 0 - tI a c i 13 < 10 then Ru 75 2 [(0, aR (some (36, sh))), (1, aI (Int32.ofNat (k + 1)))] [] (enc 1 a z)
      else cV (Ex 37 [aR (some (21, sh)), aR (some (c, i))] (enc 1 (sI a c i 13 (tI a 25 0 0)) z)) (fun h => Ru 75 2 [(0, aR (some (36, sh))), (1, aI (Int32.ofNat (k + 1)))] [] h) xT := by
  have hM := isKp_M hc
  have g1 : (Int32.ofNat k).toNatClampNeg = k := o_ix (by omega)
  have g2 : ¬ Int32.ofNat k < 0 := o_lt0 (by omega)
  have g3 : ¬ Int32.ofNat n ≤ Int32.ofNat k := by rw [o_le (by omega) (by omega)]; omega
  have c36 : ¬ 36 = c := fun e => by rcases hc with q | q | q <;> rw [q] at e <;> exact absurd e (by decide)
  rw [lf_75_2]
  by_cases e : tI a 25 0 0 - tI a c i 13 < 10
  · simp (config := {decide := true}) only [gfI_enc, gfL_enc, gfR_enc, pfI_enc, pfL_enc, pfR_enc, Option.bind_some, cI_v, cL_v, cF_v, cD_v, cR_v, cV_v, cI_x, cL_x, cR_x, cV_x, gz_0, gz_1, acc_enc, tI_sI, tL_sI, tR_sI, tN_sI, tZ_sI, tC_sI, tc_sI, tz_sI, tI_sL, tL_sL, tR_sL, tN_sL, tZ_sL, tC_sL, tc_sL, tz_sL, tI_sR, tL_sR, tR_sR, tN_sR, tZ_sR, tC_sR, tc_sR, tz_sR, tI_sZ, tL_sZ, tR_sZ, tN_sZ, tZ_sZ, tC_sZ, tc_sZ, tz_sZ, tI_sC, tL_sC, tR_sC, tN_sC, tZ_sC, tC_sC, tc_sC, tz_sC, tI_aC, tL_aC, tR_aC, tN_aC, tZ_aC, tC_aC, tc_aC, tz_aC, tI_rmL, tL_rmL, tR_rmL, tN_rmL, tZ_rmL, tC_rmL, tc_rmL, tz_rmL, tI_mk, tL_mk, tR_mk, tN_mk, tZ_mk, tC_mk, tc_mk, tz_mk, tI_pushL, tL_pushL, tR_pushL, tN_pushL, tZ_pushL, tC_pushL, tc_pushL, tz_pushL, tI_pushB, tL_pushB, tR_pushB, tN_pushB, tZ_pushB, tC_pushB, tc_pushB, tz_pushB, tI_cpL, tL_cpL, tR_cpL, tN_cpL, tZ_cpL, tC_cpL, tc_cpL, tz_cpL, eq_self, true_and, and_true, false_and, and_false, if_true, if_false, reduceIte, ite_true, ite_false, not_true_eq_false, not_false_eq_true, h36, T9, h19, X405, X402, hn, g1, g2, g3, hk, hR, acc_m hM, hi, gm hM hi, T5, fcN_25 hF, e, o_s]
  · simp (config := {decide := true}) only [gfI_enc, gfL_enc, gfR_enc, pfI_enc, pfL_enc, pfR_enc, Option.bind_some, cI_v, cL_v, cF_v, cD_v, cR_v, cV_v, cI_x, cL_x, cR_x, cV_x, gz_0, gz_1, acc_enc, tI_sI, tL_sI, tR_sI, tN_sI, tZ_sI, tC_sI, tc_sI, tz_sI, tI_sL, tL_sL, tR_sL, tN_sL, tZ_sL, tC_sL, tc_sL, tz_sL, tI_sR, tL_sR, tR_sR, tN_sR, tZ_sR, tC_sR, tc_sR, tz_sR, tI_sZ, tL_sZ, tR_sZ, tN_sZ, tZ_sZ, tC_sZ, tc_sZ, tz_sZ, tI_sC, tL_sC, tR_sC, tN_sC, tZ_sC, tC_sC, tc_sC, tz_sC, tI_aC, tL_aC, tR_aC, tN_aC, tZ_aC, tC_aC, tc_aC, tz_aC, tI_rmL, tL_rmL, tR_rmL, tN_rmL, tZ_rmL, tC_rmL, tc_rmL, tz_rmL, tI_mk, tL_mk, tR_mk, tN_mk, tZ_mk, tC_mk, tc_mk, tz_mk, tI_pushL, tL_pushL, tR_pushL, tN_pushL, tZ_pushL, tC_pushL, tc_pushL, tz_pushL, tI_pushB, tL_pushB, tR_pushB, tN_pushB, tZ_pushB, tC_pushB, tc_pushB, tz_pushB, tI_cpL, tL_cpL, tR_cpL, tN_cpL, tZ_cpL, tC_cpL, tc_cpL, tz_cpL, eq_self, true_and, and_true, false_and, and_false, if_true, if_false, reduceIte, ite_true, ite_false, not_true_eq_false, not_false_eq_true, h36, T9, h19, X405, X402, hn, g1, g2, g3, hk, hR, acc_m hM, hi, gm hM hi, pm hM, T5, T6, fcN_25 hF, e, o_s]
theorem y211_6 {b : TS} {z : Hp} {sh n k : Nat} {q : Nat × Nat} (hF : FxR b) (hsh : sh < 4) (h68 : tI b 68 0 sh = Int32.ofNat n) (hn : n ≤ 500) (hk : k < n) (h66 : tR b 66 0 (500 * sh + k) = some q) :
    Ru 211 6 [(0, aR (some (95, 0))), (1, aI (Int32.ofNat sh)), (2, aI (Int32.ofNat (500 * sh + k)))] [] (enc 2 b z) =
      if 10 ≤ tI b 95 0 1 - tI b 67 0 (500 * sh + k) then cV (Ex 193 [aR (some (95, 0)), aI (Int32.ofNat sh), aR (some q)] (enc 2 (sI b 67 0 (500 * sh + k) (tI b 95 0 1)) z)) (fun h => Ru 211 6 [(0, aR (some (95, 0))), (1, aI (Int32.ofNat sh)), (2, aI (Int32.ofNat (500 * sh + (k + 1))))] [] h) xT
      else Ru 211 6 [(0, aR (some (95, 0))), (1, aI (Int32.ofNat sh)), (2, aI (Int32.ofNat (500 * sh + (k + 1))))] [] (enc 2 b z) := by
  have g1 : (Int32.ofNat sh).toNatClampNeg = sh := o_ix (by omega)
  have g2 : ¬ Int32.ofNat sh < 0 := o_lt0 (by omega)
  have g3 : ¬ Int32.ofNat (500 * sh + n) ≤ Int32.ofNat (500 * sh + k) := by rw [o_le (by omega) (by omega)]; omega
  have g4 : (Int32.ofNat (500 * sh + k)).toNatClampNeg = 500 * sh + k := o_ix (by omega)
  have g5 : ¬ Int32.ofNat (500 * sh + k) < 0 := o_lt0 (by omega)
  have g8 : 500 * sh + k < 2000 := by omega
  have e1 : 500 * sh + k + 1 = 500 * sh + (k + 1) := rfl
  rw [lf_211_6]
  by_cases e : 10 ≤ tI b 95 0 1 - tI b 67 0 (500 * sh + k)
  · simp (config := {decide := true}) only [gfI_enc, gfL_enc, gfR_enc, pfI_enc, pfL_enc, pfR_enc, Option.bind_some, cI_v, cL_v, cF_v, cD_v, cR_v, cV_v, cI_x, cL_x, cR_x, cV_x, gz_0, gz_1, acc_enc, tI_sI, tL_sI, tR_sI, tN_sI, tZ_sI, tC_sI, tc_sI, tz_sI, tI_sL, tL_sL, tR_sL, tN_sL, tZ_sL, tC_sL, tc_sL, tz_sL, tI_sR, tL_sR, tR_sR, tN_sR, tZ_sR, tC_sR, tc_sR, tz_sR, tI_sZ, tL_sZ, tR_sZ, tN_sZ, tZ_sZ, tC_sZ, tc_sZ, tz_sZ, tI_sC, tL_sC, tR_sC, tN_sC, tZ_sC, tC_sC, tc_sC, tz_sC, tI_aC, tL_aC, tR_aC, tN_aC, tZ_aC, tC_aC, tc_aC, tz_aC, tI_rmL, tL_rmL, tR_rmL, tN_rmL, tZ_rmL, tC_rmL, tc_rmL, tz_rmL, tI_mk, tL_mk, tR_mk, tN_mk, tZ_mk, tC_mk, tc_mk, tz_mk, tI_pushL, tL_pushL, tR_pushL, tN_pushL, tZ_pushL, tC_pushL, tc_pushL, tz_pushL, tI_pushB, tL_pushB, tR_pushB, tN_pushB, tZ_pushB, tC_pushB, tc_pushB, tz_pushB, tI_cpL, tL_cpL, tR_cpL, tN_cpL, tZ_cpL, tC_cpL, tc_cpL, tz_cpL, eq_self, true_and, and_true, false_and, and_false, if_true, if_false, reduceIte, ite_true, ite_false, not_true_eq_false, not_false_eq_true, frN_95 hF, frR_95_13 hF, frN_68 hF, frZ_68 hF, frR_95_11 hF, frR_95_12 hF, frN_66 hF, frZ_66 hF, frN_67 hF, frZ_67 hF, gaI_enc, paI_enc, gaR_enc, g1, g2, hsh, h68, o_500, o_a, g3, g4, g5, g8, h66, e, o_s, e1]
  · simp (config := {decide := true}) only [gfI_enc, gfL_enc, gfR_enc, pfI_enc, pfL_enc, pfR_enc, Option.bind_some, cI_v, cL_v, cF_v, cD_v, cR_v, cV_v, cI_x, cL_x, cR_x, cV_x, gz_0, gz_1, acc_enc, tI_sI, tL_sI, tR_sI, tN_sI, tZ_sI, tC_sI, tc_sI, tz_sI, tI_sL, tL_sL, tR_sL, tN_sL, tZ_sL, tC_sL, tc_sL, tz_sL, tI_sR, tL_sR, tR_sR, tN_sR, tZ_sR, tC_sR, tc_sR, tz_sR, tI_sZ, tL_sZ, tR_sZ, tN_sZ, tZ_sZ, tC_sZ, tc_sZ, tz_sZ, tI_sC, tL_sC, tR_sC, tN_sC, tZ_sC, tC_sC, tc_sC, tz_sC, tI_aC, tL_aC, tR_aC, tN_aC, tZ_aC, tC_aC, tc_aC, tz_aC, tI_rmL, tL_rmL, tR_rmL, tN_rmL, tZ_rmL, tC_rmL, tc_rmL, tz_rmL, tI_mk, tL_mk, tR_mk, tN_mk, tZ_mk, tC_mk, tc_mk, tz_mk, tI_pushL, tL_pushL, tR_pushL, tN_pushL, tZ_pushL, tC_pushL, tc_pushL, tz_pushL, tI_pushB, tL_pushB, tR_pushB, tN_pushB, tZ_pushB, tC_pushB, tc_pushB, tz_pushB, tI_cpL, tL_cpL, tR_cpL, tN_cpL, tZ_cpL, tC_cpL, tc_cpL, tz_cpL, eq_self, true_and, and_true, false_and, and_false, if_true, if_false, reduceIte, ite_true, ite_false, not_true_eq_false, not_false_eq_true, frN_95 hF, frR_95_13 hF, frN_68 hF, frZ_68 hF, frR_95_12 hF, frN_67 hF, frZ_67 hF, gaI_enc, g1, g2, hsh, h68, o_500, o_a, g3, g4, g5, g8, e, o_s, e1]
theorem y211_end {b : TS} {z : Hp} {sh n : Nat} (hF : FxR b) (hsh : sh < 4) (h68 : tI b 68 0 sh = Int32.ofNat n) : Ru 211 6 [(0, aR (some (95, 0))), (1, aI (Int32.ofNat sh)), (2, aI (Int32.ofNat (500 * sh + n)))] [] (enc 2 b z) = some (.inl none, enc 2 b z) := by
  have g1 : (Int32.ofNat sh).toNatClampNeg = sh := o_ix (by omega)
  have g2 : ¬ Int32.ofNat sh < 0 := o_lt0 (by omega)
  have g3 : Int32.ofNat (500 * sh + n) ≤ Int32.ofNat (500 * sh + n) := Int32.le_refl _
  rw [lf_211_6]
  simp (config := {decide := true}) only [gfI_enc, gfL_enc, gfR_enc, pfI_enc, pfL_enc, pfR_enc, Option.bind_some, cI_v, cL_v, cF_v, cD_v, cR_v, cV_v, cI_x, cL_x, cR_x, cV_x, gz_0, gz_1, acc_enc, tI_sI, tL_sI, tR_sI, tN_sI, tZ_sI, tC_sI, tc_sI, tz_sI, tI_sL, tL_sL, tR_sL, tN_sL, tZ_sL, tC_sL, tc_sL, tz_sL, tI_sR, tL_sR, tR_sR, tN_sR, tZ_sR, tC_sR, tc_sR, tz_sR, tI_sZ, tL_sZ, tR_sZ, tN_sZ, tZ_sZ, tC_sZ, tc_sZ, tz_sZ, tI_sC, tL_sC, tR_sC, tN_sC, tZ_sC, tC_sC, tc_sC, tz_sC, tI_aC, tL_aC, tR_aC, tN_aC, tZ_aC, tC_aC, tc_aC, tz_aC, tI_rmL, tL_rmL, tR_rmL, tN_rmL, tZ_rmL, tC_rmL, tc_rmL, tz_rmL, tI_mk, tL_mk, tR_mk, tN_mk, tZ_mk, tC_mk, tc_mk, tz_mk, tI_pushL, tL_pushL, tR_pushL, tN_pushL, tZ_pushL, tC_pushL, tc_pushL, tz_pushL, tI_pushB, tL_pushB, tR_pushB, tN_pushB, tZ_pushB, tC_pushB, tc_pushB, tz_pushB, tI_cpL, tL_cpL, tR_cpL, tN_cpL, tZ_cpL, tC_cpL, tc_cpL, tz_cpL, eq_self, true_and, and_true, false_and, and_false, if_true, if_false, reduceIte, ite_true, ite_false, not_true_eq_false, not_false_eq_true, frN_95 hF, frR_95_13 hF, frN_68 hF, frZ_68 hF, gaI_enc, g1, g2, hsh, h68, o_500, o_a, g3]
theorem x75_end {a : TS} {z : Hp} {sh n : Nat} (h36 : sh < tN a 36) (T9 : tR a 36 sh 7 = some (19, sh)) (h19 : sh < tN a 19) (hn : tZ a 19 sh = n) : Ru 75 2 [(0, aR (some (36, sh))), (1, aI (Int32.ofNat n))] [] (enc 1 a z) = some (.inl none, enc 1 a z) := by
  have g3 : Int32.ofNat n ≤ Int32.ofNat n := Int32.le_refl _
  rw [lf_75_2]
  simp (config := {decide := true}) only [gfI_enc, gfL_enc, gfR_enc, pfI_enc, pfL_enc, pfR_enc, Option.bind_some, cI_v, cL_v, cF_v, cD_v, cR_v, cV_v, cI_x, cL_x, cR_x, cV_x, gz_0, gz_1, acc_enc, tI_sI, tL_sI, tR_sI, tN_sI, tZ_sI, tC_sI, tc_sI, tz_sI, tI_sL, tL_sL, tR_sL, tN_sL, tZ_sL, tC_sL, tc_sL, tz_sL, tI_sR, tL_sR, tR_sR, tN_sR, tZ_sR, tC_sR, tc_sR, tz_sR, tI_sZ, tL_sZ, tR_sZ, tN_sZ, tZ_sZ, tC_sZ, tc_sZ, tz_sZ, tI_sC, tL_sC, tR_sC, tN_sC, tZ_sC, tC_sC, tc_sC, tz_sC, tI_aC, tL_aC, tR_aC, tN_aC, tZ_aC, tC_aC, tc_aC, tz_aC, tI_rmL, tL_rmL, tR_rmL, tN_rmL, tZ_rmL, tC_rmL, tc_rmL, tz_rmL, tI_mk, tL_mk, tR_mk, tN_mk, tZ_mk, tC_mk, tc_mk, tz_mk, tI_pushL, tL_pushL, tR_pushL, tN_pushL, tZ_pushL, tC_pushL, tc_pushL, tz_pushL, tI_pushB, tL_pushB, tR_pushB, tN_pushB, tZ_pushB, tC_pushB, tc_pushB, tz_pushB, tI_cpL, tL_cpL, tR_cpL, tN_cpL, tZ_cpL, tC_cpL, tc_cpL, tz_cpL, eq_self, true_and, and_true, false_and, and_false, if_true, if_false, reduceIte, ite_true, ite_false, not_true_eq_false, not_false_eq_true, h36, T9, h19, X405, hn, g3]
