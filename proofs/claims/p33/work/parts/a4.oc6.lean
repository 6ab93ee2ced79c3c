/-! ===== a batch is sent ===== -/
theorem x45 {a : TS} {z : Hp} {p : Nat} (hp : p < tN a 38) : Ex 45 [aR (some (38, p))] (enc 1 a z) = some (.inl (some (aI (if tI a 38 p 7 = 0 ∨ tI a 38 p 7 = 2 then 1 else 0))), enc 1 a z) := by
  refine (X_in (by decide +kernel) (hp) rfl).trans ((lf_45_0 ..).trans ?_)
  by_cases e0 : tI a 38 p 7 = 0
  · simp (config := {decide := true}) only [gfI_enc, gfL_enc, gfR_enc, pfI_enc, pfL_enc, pfR_enc, Option.bind_some, cI_v, cL_v, cF_v, cD_v, cR_v, cV_v, cI_x, cL_x, cR_x, cV_x, gz_0, gz_1, acc_enc, tI_sI, tL_sI, tR_sI, tN_sI, tZ_sI, tC_sI, tc_sI, tz_sI, tI_sL, tL_sL, tR_sL, tN_sL, tZ_sL, tC_sL, tc_sL, tz_sL, tI_sR, tL_sR, tR_sR, tN_sR, tZ_sR, tC_sR, tc_sR, tz_sR, tI_sZ, tL_sZ, tR_sZ, tN_sZ, tZ_sZ, tC_sZ, tc_sZ, tz_sZ, tI_sC, tL_sC, tR_sC, tN_sC, tZ_sC, tC_sC, tc_sC, tz_sC, tI_aC, tL_aC, tR_aC, tN_aC, tZ_aC, tC_aC, tc_aC, tz_aC, tI_rmL, tL_rmL, tR_rmL, tN_rmL, tZ_rmL, tC_rmL, tc_rmL, tz_rmL, tI_mk, tL_mk, tR_mk, tN_mk, tZ_mk, tC_mk, tc_mk, tz_mk, tI_pushL, tL_pushL, tR_pushL, tN_pushL, tZ_pushL, tC_pushL, tc_pushL, tz_pushL, tI_pushB, tL_pushB, tR_pushB, tN_pushB, tZ_pushB, tC_pushB, tc_pushB, tz_pushB, tI_cpL, tL_cpL, tR_cpL, tN_cpL, tZ_cpL, tC_cpL, tc_cpL, tz_cpL, eq_self, true_and, and_true, false_and, and_false, if_true, if_false, reduceIte, ite_true, ite_false, not_true_eq_false, not_false_eq_true, hp, e0, true_or]
  · by_cases e2 : tI a 38 p 7 = 2
    · simp (config := {decide := true}) only [gfI_enc, gfL_enc, gfR_enc, pfI_enc, pfL_enc, pfR_enc, Option.bind_some, cI_v, cL_v, cF_v, cD_v, cR_v, cV_v, cI_x, cL_x, cR_x, cV_x, gz_0, gz_1, acc_enc, tI_sI, tL_sI, tR_sI, tN_sI, tZ_sI, tC_sI, tc_sI, tz_sI, tI_sL, tL_sL, tR_sL, tN_sL, tZ_sL, tC_sL, tc_sL, tz_sL, tI_sR, tL_sR, tR_sR, tN_sR, tZ_sR, tC_sR, tc_sR, tz_sR, tI_sZ, tL_sZ, tR_sZ, tN_sZ, tZ_sZ, tC_sZ, tc_sZ, tz_sZ, tI_sC, tL_sC, tR_sC, tN_sC, tZ_sC, tC_sC, tc_sC, tz_sC, tI_aC, tL_aC, tR_aC, tN_aC, tZ_aC, tC_aC, tc_aC, tz_aC, tI_rmL, tL_rmL, tR_rmL, tN_rmL, tZ_rmL, tC_rmL, tc_rmL, tz_rmL, tI_mk, tL_mk, tR_mk, tN_mk, tZ_mk, tC_mk, tc_mk, tz_mk, tI_pushL, tL_pushL, tR_pushL, tN_pushL, tZ_pushL, tC_pushL, tc_pushL, tz_pushL, tI_pushB, tL_pushB, tR_pushB, tN_pushB, tZ_pushB, tC_pushB, tc_pushB, tz_pushB, tI_cpL, tL_cpL, tR_cpL, tN_cpL, tZ_cpL, tC_cpL, tc_cpL, tz_cpL, eq_self, true_and, and_true, false_and, and_false, if_true, if_false, reduceIte, ite_true, ite_false, not_true_eq_false, not_false_eq_true, hp, e0, e2, or_true]
    · simp (config := {decide := true}) only [gfI_enc, gfL_enc, gfR_enc, pfI_enc, pfL_enc, pfR_enc, Option.bind_some, cI_v, cL_v, cF_v, cD_v, cR_v, cV_v, cI_x, cL_x, cR_x, cV_x, gz_0, gz_1, acc_enc, tI_sI, tL_sI, tR_sI, tN_sI, tZ_sI, tC_sI, tc_sI, tz_sI, tI_sL, tL_sL, tR_sL, tN_sL, tZ_sL, tC_sL, tc_sL, tz_sL, tI_sR, tL_sR, tR_sR, tN_sR, tZ_sR, tC_sR, tc_sR, tz_sR, tI_sZ, tL_sZ, tR_sZ, tN_sZ, tZ_sZ, tC_sZ, tc_sZ, tz_sZ, tI_sC, tL_sC, tR_sC, tN_sC, tZ_sC, tC_sC, tc_sC, tz_sC, tI_aC, tL_aC, tR_aC, tN_aC, tZ_aC, tC_aC, tc_aC, tz_aC, tI_rmL, tL_rmL, tR_rmL, tN_rmL, tZ_rmL, tC_rmL, tc_rmL, tz_rmL, tI_mk, tL_mk, tR_mk, tN_mk, tZ_mk, tC_mk, tc_mk, tz_mk, tI_pushL, tL_pushL, tR_pushL, tN_pushL, tZ_pushL, tC_pushL, tc_pushL, tz_pushL, tI_pushB, tL_pushB, tR_pushB, tN_pushB, tZ_pushB, tC_pushB, tc_pushB, tz_pushB, tI_cpL, tL_cpL, tR_cpL, tN_cpL, tZ_cpL, tC_cpL, tc_cpL, tz_cpL, eq_self, true_and, and_true, false_and, and_false, if_true, if_false, reduceIte, ite_true, ite_false, not_true_eq_false, not_false_eq_true, hp, e0, e2, or_self]
set_option maxHeartbeats 2000000 in
theorem sends_loop {C sh : Nat} : ∀ k p v a b, p + k = tZ a 29 0 → sh < tZ a 27 0 → Core a b C →
    ∃ n a' b', (∀ z, Ru 98 17 [(0, aR (some (96, 0))), (2, aR (some (36, sh))), (3, aI (Int32.ofNat v)), (4, aI (Int32.ofNat p))] [] (enc 1 a z) = some (.inl (some (aI (Int32.ofNat (v + n)))), enc 1 a' z)) ∧ n ≤ k ∧ Core a' b' C ∧ Wr a a' ∧ StpE EvS a b a' b' ∧
      (∀ j, tI b' 87 0 j = tI b 87 0 j) ∧ (∀ q, q < p → tI b' 70 0 q = tI b 70 0 q) ∧ (∀ q, p ≤ q → q < tZ a 29 0 → tI b 87 0 (10 * q + 2) = Int32.ofNat sh → (tI b 87 0 (10 * q) = 0 ∨ tI b 87 0 (10 * q) = 2) → tI b' 70 0 q ≠ 0) ∧
      ((∀ q, p ≤ q → q < tZ a 29 0 → tI b 87 0 (10 * q + 2) = Int32.ofNat sh → (tI b 87 0 (10 * q) = 0 ∨ tI b 87 0 (10 * q) = 2) → tI b 70 0 q ≠ 0) → n = 0 ∧ a' = a ∧ b' = b) := by
  intro k
  induction k with
  | zero =>
    intro p v a b hk hsh h
    have hR := h.1.1
    have hF := r_FC hR
    have : p = tZ a 29 0 := by omega
    subst this
    have g3 : Int32.ofNat (tZ a 29 0) ≤ Int32.ofNat (tZ a 29 0) := Int32.le_refl _
    refine ⟨0, a, b, fun z => ?_, Nat.le_refl _, h, Wr.rf _, StpE_r a b, fun _ => rfl, fun _ _ => rfl, fun q h1 h2 => by omega, fun _ => ⟨rfl, rfl, rfl⟩⟩
    rw [lf_98_17]
    simp (config := {decide := true}) only [gfI_enc, gfL_enc, gfR_enc, pfI_enc, pfL_enc, pfR_enc, Option.bind_some, cI_v, cL_v, cF_v, cD_v, cR_v, cV_v, cI_x, cL_x, cR_x, cV_x, gz_0, gz_1, acc_enc, tI_sI, tL_sI, tR_sI, tN_sI, tZ_sI, tC_sI, tc_sI, tz_sI, tI_sL, tL_sL, tR_sL, tN_sL, tZ_sL, tC_sL, tc_sL, tz_sL, tI_sR, tL_sR, tR_sR, tN_sR, tZ_sR, tC_sR, tc_sR, tz_sR, tI_sZ, tL_sZ, tR_sZ, tN_sZ, tZ_sZ, tC_sZ, tc_sZ, tz_sZ, tI_sC, tL_sC, tR_sC, tN_sC, tZ_sC, tC_sC, tc_sC, tz_sC, tI_aC, tL_aC, tR_aC, tN_aC, tZ_aC, tC_aC, tc_aC, tz_aC, tI_rmL, tL_rmL, tR_rmL, tN_rmL, tZ_rmL, tC_rmL, tc_rmL, tz_rmL, tI_mk, tL_mk, tR_mk, tN_mk, tZ_mk, tC_mk, tc_mk, tz_mk, tI_pushL, tL_pushL, tR_pushL, tN_pushL, tZ_pushL, tC_pushL, tc_pushL, tz_pushL, tI_pushB, tL_pushB, tR_pushB, tN_pushB, tZ_pushB, tC_pushB, tc_pushB, tz_pushB, tI_cpL, tL_cpL, tR_cpL, tN_cpL, tZ_cpL, tC_cpL, tc_cpL, tz_cpL, eq_self, true_and, and_true, false_and, and_false, if_true, if_false, reduceIte, ite_true, ite_false, not_true_eq_false, not_false_eq_true, fcN_96 hF, fcR_96_5 hF, X405, fcN_29 hF, g3, Nat.add_zero]
  | succ k ih =>
    intro p v a b hk hsh h
    have hR := h.1.1
    have hF := r_FC hR
    obtain ⟨S1, S2, ⟨S3, S4, S5', S6, S7, S8⟩, S9, S10⟩ := r_S hR
    obtain ⟨P1, P2, P3, P4, P5, P6, P7⟩ := r_P' hR
    have hp : p < tZ a 29 0 := by omega
    obtain ⟨t1, t2, t3⟩ := paym_at hR hp
    obtain ⟨-, u0, ⟨cd, c1, c2, c3⟩, ⟨s', v1, v2, v3⟩, ⟨u3, -⟩, ⟨u4, -⟩, -⟩ := P5 p hp
    obtain ⟨e5, e7, e8, e9, e10, eb, n0, n1, n2, n3, n4, n5⟩ := (r_Q hR).1 p hp
    obtain ⟨d1, d2, d3⟩ := card_at hR c1
    have d0 : tI a 37 cd 0 = Int32.ofNat cd := ((r_C hR).2.2.2.2 cd c1).2.1
    have g1 : (Int32.ofNat p).toNatClampNeg = p := o_ix (by omega)
    have g2 : ¬ Int32.ofNat p < 0 := o_lt0 (by omega)
    have g3 : ¬ Int32.ofNat (tZ a 29 0) ≤ Int32.ofNat p := by rw [o_le (by omega) (by omega)]; omega
    have aqq : ∀ z r, aq (enc 1 a z) (some (36, s')) (some (36, sh)) r = r := fun z r => aq_enc (fun q hq => by cases hq; exact ⟨show ow 36 = 1 from by decide +kernel, show kd 36 < 24 from by decide +kernel, by show s' < tN a 36; omega⟩) (fun q hq => by cases hq; exact ⟨show ow 36 = 1 from by decide +kernel, show kd 36 < 24 from by decide +kernel, by show sh < tN a 36; omega⟩)
    have f45 := fun z => x45 (a := a) (z := z) (p := p) t2
    rw [e7] at f45
    obtain ⟨n, a', b', x, hn, hc, wa, hS, i87, i70, hall, hnone⟩ := ih (p + 1) v a b (by omega) hsh h
    have skip : ¬ (tI b 87 0 (10 * p + 2) = Int32.ofNat sh ∧ (tI b 87 0 (10 * p) = 0 ∨ tI b 87 0 (10 * p) = 2) ∧ tI b 70 0 p = 0) → (∀ z, Ru 98 17 [(0, aR (some (96, 0))), (2, aR (some (36, sh))), (3, aI (Int32.ofNat v)), (4, aI (Int32.ofNat p))] [] (enc 1 a z) = Ru 98 17 [(0, aR (some (96, 0))), (2, aR (some (36, sh))), (3, aI (Int32.ofNat v)), (4, aI (Int32.ofNat (p + 1)))] [] (enc 1 a z)) → ∃ n a' b', (∀ z, Ru 98 17 [(0, aR (some (96, 0))), (2, aR (some (36, sh))), (3, aI (Int32.ofNat v)), (4, aI (Int32.ofNat p))] [] (enc 1 a z) = some (.inl (some (aI (Int32.ofNat (v + n)))), enc 1 a' z)) ∧ n ≤ k + 1 ∧ Core a' b' C ∧ Wr a a' ∧ StpE EvS a b a' b' ∧
      (∀ j, tI b' 87 0 j = tI b 87 0 j) ∧ (∀ q, q < p → tI b' 70 0 q = tI b 70 0 q) ∧ (∀ q, p ≤ q → q < tZ a 29 0 → tI b 87 0 (10 * q + 2) = Int32.ofNat sh → (tI b 87 0 (10 * q) = 0 ∨ tI b 87 0 (10 * q) = 2) → tI b' 70 0 q ≠ 0) ∧
      ((∀ q, p ≤ q → q < tZ a 29 0 → tI b 87 0 (10 * q + 2) = Int32.ofNat sh → (tI b 87 0 (10 * q) = 0 ∨ tI b 87 0 (10 * q) = 2) → tI b 70 0 q ≠ 0) → n = 0 ∧ a' = a ∧ b' = b) := fun hs hx => by
      refine ⟨n, a', b', fun z => (hx z).trans (x z), by omega, hc, wa, hS, i87, fun q hq => i70 q (by omega), fun q h1 h2 h3 h4 => ?_, fun hq => hnone (fun q h1 h2 => hq q (by omega) h2)⟩
      by_cases e : q = p
      · subst e
        rw [i70 q (by omega)]
        exact fun e0 => hs ⟨h3, h4, e0⟩
      · exact hall q (by omega) h2 h3 h4
    by_cases es : s' = sh
    · subst es
      have esp : (some ((36 : Nat), s') = some ((36 : Nat), s')) = True := eq_true rfl
      by_cases good : tI b 87 0 (10 * p) = 0 ∨ tI b 87 0 (10 * p) = 2
      · rw [if_pos good] at f45
        by_cases h70 : tI b 70 0 p = 0
        · -- it is sent
          obtain ⟨a1, b1, x1, y1, h1, wa1, i29, i27, hEv⟩ := core_send h hsh hp v3 good h70 c1 c3
          have f49 := fun z => x49 (a := sI a 38 p 10 1) (z := z) (p := p) (cd := cd) (by rw [tN_sI]; exact t2) (by rw [tR_sI]; exact c2) (by rw [tN_sI]; exact d2)
          have iA : ∀ f, f ≠ 10 → tI (sI a 38 p 10 1) 38 p f = tI a 38 p f := fun f hf => by rw [tI_sI, if_neg (fun q => hf q.2.2)]
          have iA37 : tI (sI a 38 p 10 1) 37 cd 0 = Int32.ofNat cd := by rw [tI_sI, if_neg (fun q => absurd q.1 (by decide))]; exact d0
          rw [iA 0 (by decide), iA 4 (by decide), iA 3 (by decide), iA 5 (by decide), iA 9 (by decide), iA37, u0, u3, u4, e5, e9, tN_sI] at f49
          obtain ⟨n2, a2, b2, x2, hn2, hc2, wa2, hS2, j87, j70, hall2, -⟩ := ih (p + 1) (v + 1) a1 b1 (by omega) (by omega) h1
          have ne10 : ¬ (1 : Int32) = 0 := by decide
          have hEv0 := hEv
          obtain ⟨_, _, _, -, -, -, -, -, k70, -, -, -, cb1, -⟩ := hEv0
          have k87 : ∀ j, tI b1 87 0 j = tI b 87 0 j := dIS cb1 (S := [87]) (P := []) (s := 87) (by decide) (by simp) 0
          refine ⟨1 + n2, a2, b2, fun z => ?_, by omega, hc2, wa1.t wa2, StpE_t (StpE_1 ⟨s', p, hEv⟩) hS2, fun j => (j87 j).trans (k87 j), fun q hq => ?_, fun q h1 h2 h3 h4 => ?_, fun hq => absurd h70 (hq p (Nat.le_refl _) hp v3 good)⟩
          · rw [lf_98_17]
            simp (config := {decide := true}) only [gfI_enc, gfL_enc, gfR_enc, pfI_enc, pfL_enc, pfR_enc, Option.bind_some, cI_v, cL_v, cF_v, cD_v, cR_v, cV_v, cI_x, cL_x, cR_x, cV_x, gz_0, gz_1, acc_enc, tI_sI, tL_sI, tR_sI, tN_sI, tZ_sI, tC_sI, tc_sI, tz_sI, tI_sL, tL_sL, tR_sL, tN_sL, tZ_sL, tC_sL, tc_sL, tz_sL, tI_sR, tL_sR, tR_sR, tN_sR, tZ_sR, tC_sR, tc_sR, tz_sR, tI_sZ, tL_sZ, tR_sZ, tN_sZ, tZ_sZ, tC_sZ, tc_sZ, tz_sZ, tI_sC, tL_sC, tR_sC, tN_sC, tZ_sC, tC_sC, tc_sC, tz_sC, tI_aC, tL_aC, tR_aC, tN_aC, tZ_aC, tC_aC, tc_aC, tz_aC, tI_rmL, tL_rmL, tR_rmL, tN_rmL, tZ_rmL, tC_rmL, tc_rmL, tz_rmL, tI_mk, tL_mk, tR_mk, tN_mk, tZ_mk, tC_mk, tc_mk, tz_mk, tI_pushL, tL_pushL, tR_pushL, tN_pushL, tZ_pushL, tC_pushL, tc_pushL, tz_pushL, tI_pushB, tL_pushB, tR_pushB, tN_pushB, tZ_pushB, tC_pushB, tc_pushB, tz_pushB, tI_cpL, tL_cpL, tR_cpL, tN_cpL, tZ_cpL, tC_cpL, tc_cpL, tz_cpL, eq_self, true_and, and_true, false_and, and_false, if_true, if_false, reduceIte, ite_true, ite_false, not_true_eq_false, not_false_eq_true, fcN_96 hF, fcR_96_5 hF, X405, X402, fcN_29 hF, g1, g2, g3, hp, t1, acc_enc, t2, v2, aqq, esp, f45, ne10, e10, h70, f49, x1, o_s]
            rw [← Nat.add_assoc]
            exact x2 z
          · rw [j70 q (by omega), k70, if_neg (by omega)]
          · by_cases e : q = p
            · subst e
              rw [j70 q (by omega), k70, if_pos rfl]
              decide
            · exact hall2 q (by omega) (by rw [i29]; exact h2) (by rw [k87]; exact h3) (by rw [k87]; exact h4)
        · refine skip (fun q => h70 q.2.2) (fun z => ?_)
          have ne10 : ¬ (1 : Int32) = 0 := by decide
          rw [lf_98_17]
          simp (config := {decide := true}) only [gfI_enc, gfL_enc, gfR_enc, pfI_enc, pfL_enc, pfR_enc, Option.bind_some, cI_v, cL_v, cF_v, cD_v, cR_v, cV_v, cI_x, cL_x, cR_x, cV_x, gz_0, gz_1, acc_enc, tI_sI, tL_sI, tR_sI, tN_sI, tZ_sI, tC_sI, tc_sI, tz_sI, tI_sL, tL_sL, tR_sL, tN_sL, tZ_sL, tC_sL, tc_sL, tz_sL, tI_sR, tL_sR, tR_sR, tN_sR, tZ_sR, tC_sR, tc_sR, tz_sR, tI_sZ, tL_sZ, tR_sZ, tN_sZ, tZ_sZ, tC_sZ, tc_sZ, tz_sZ, tI_sC, tL_sC, tR_sC, tN_sC, tZ_sC, tC_sC, tc_sC, tz_sC, tI_aC, tL_aC, tR_aC, tN_aC, tZ_aC, tC_aC, tc_aC, tz_aC, tI_rmL, tL_rmL, tR_rmL, tN_rmL, tZ_rmL, tC_rmL, tc_rmL, tz_rmL, tI_mk, tL_mk, tR_mk, tN_mk, tZ_mk, tC_mk, tc_mk, tz_mk, tI_pushL, tL_pushL, tR_pushL, tN_pushL, tZ_pushL, tC_pushL, tc_pushL, tz_pushL, tI_pushB, tL_pushB, tR_pushB, tN_pushB, tZ_pushB, tC_pushB, tc_pushB, tz_pushB, tI_cpL, tL_cpL, tR_cpL, tN_cpL, tZ_cpL, tC_cpL, tc_cpL, tz_cpL, eq_self, true_and, and_true, false_and, and_false, if_true, if_false, reduceIte, ite_true, ite_false, not_true_eq_false, not_false_eq_true, fcN_96 hF, fcR_96_5 hF, X405, X402, fcN_29 hF, g1, g2, g3, hp, t1, acc_enc, t2, v2, aqq, esp, f45, ne10, e10, h70, o_s]
      · rw [if_neg good] at f45
        refine skip (fun q => good q.2.1) (fun z => ?_)
        rw [lf_98_17]
        simp (config := {decide := true}) only [gfI_enc, gfL_enc, gfR_enc, pfI_enc, pfL_enc, pfR_enc, Option.bind_some, cI_v, cL_v, cF_v, cD_v, cR_v, cV_v, cI_x, cL_x, cR_x, cV_x, gz_0, gz_1, acc_enc, tI_sI, tL_sI, tR_sI, tN_sI, tZ_sI, tC_sI, tc_sI, tz_sI, tI_sL, tL_sL, tR_sL, tN_sL, tZ_sL, tC_sL, tc_sL, tz_sL, tI_sR, tL_sR, tR_sR, tN_sR, tZ_sR, tC_sR, tc_sR, tz_sR, tI_sZ, tL_sZ, tR_sZ, tN_sZ, tZ_sZ, tC_sZ, tc_sZ, tz_sZ, tI_sC, tL_sC, tR_sC, tN_sC, tZ_sC, tC_sC, tc_sC, tz_sC, tI_aC, tL_aC, tR_aC, tN_aC, tZ_aC, tC_aC, tc_aC, tz_aC, tI_rmL, tL_rmL, tR_rmL, tN_rmL, tZ_rmL, tC_rmL, tc_rmL, tz_rmL, tI_mk, tL_mk, tR_mk, tN_mk, tZ_mk, tC_mk, tc_mk, tz_mk, tI_pushL, tL_pushL, tR_pushL, tN_pushL, tZ_pushL, tC_pushL, tc_pushL, tz_pushL, tI_pushB, tL_pushB, tR_pushB, tN_pushB, tZ_pushB, tC_pushB, tc_pushB, tz_pushB, tI_cpL, tL_cpL, tR_cpL, tN_cpL, tZ_cpL, tC_cpL, tc_cpL, tz_cpL, eq_self, true_and, and_true, false_and, and_false, if_true, if_false, reduceIte, ite_true, ite_false, not_true_eq_false, not_false_eq_true, fcN_96 hF, fcR_96_5 hF, X405, X402, fcN_29 hF, g1, g2, g3, hp, t1, acc_enc, t2, v2, aqq, esp, f45, o_s]
    · have esp : ¬ (some ((36 : Nat), s') = some ((36 : Nat), sh)) := fun q => es (by injection q with q; injection q)
      refine skip (fun q => es (o_inj (by omega) (by omega) (v3.symm.trans q.1))) (fun z => ?_)
      rw [lf_98_17]
      simp (config := {decide := true}) only [gfI_enc, gfL_enc, gfR_enc, pfI_enc, pfL_enc, pfR_enc, Option.bind_some, cI_v, cL_v, cF_v, cD_v, cR_v, cV_v, cI_x, cL_x, cR_x, cV_x, gz_0, gz_1, acc_enc, tI_sI, tL_sI, tR_sI, tN_sI, tZ_sI, tC_sI, tc_sI, tz_sI, tI_sL, tL_sL, tR_sL, tN_sL, tZ_sL, tC_sL, tc_sL, tz_sL, tI_sR, tL_sR, tR_sR, tN_sR, tZ_sR, tC_sR, tc_sR, tz_sR, tI_sZ, tL_sZ, tR_sZ, tN_sZ, tZ_sZ, tC_sZ, tc_sZ, tz_sZ, tI_sC, tL_sC, tR_sC, tN_sC, tZ_sC, tC_sC, tc_sC, tz_sC, tI_aC, tL_aC, tR_aC, tN_aC, tZ_aC, tC_aC, tc_aC, tz_aC, tI_rmL, tL_rmL, tR_rmL, tN_rmL, tZ_rmL, tC_rmL, tc_rmL, tz_rmL, tI_mk, tL_mk, tR_mk, tN_mk, tZ_mk, tC_mk, tc_mk, tz_mk, tI_pushL, tL_pushL, tR_pushL, tN_pushL, tZ_pushL, tC_pushL, tc_pushL, tz_pushL, tI_pushB, tL_pushB, tR_pushB, tN_pushB, tZ_pushB, tC_pushB, tc_pushB, tz_pushB, tI_cpL, tL_cpL, tR_cpL, tN_cpL, tZ_cpL, tC_cpL, tc_cpL, tz_cpL, eq_self, true_and, and_true, false_and, and_false, if_true, if_false, reduceIte, ite_true, ite_false, not_true_eq_false, not_false_eq_true, fcN_96 hF, fcR_96_5 hF, X405, X402, fcN_29 hF, g1, g2, g3, hp, t1, acc_enc, t2, v2, aqq, esp, o_s]
/-- a batch is sent -/
theorem oc_sends {a b : TS} {C sh : Nat} (h : Core a b C) (hsh : sh < tZ a 27 0) :
    ∃ n a' b', (∀ z, Ex 97 [aR (some (96, 0)), aI (Int32.ofNat sh)] (enc 1 a z) = some (.inl (some (aI (Int32.ofNat n))), enc 1 a' z)) ∧ n ≤ tZ a 29 0 ∧ Core a' b' C ∧ Wr a a' ∧ StpE EvS a b a' b' ∧
      (∀ j, tI b' 87 0 j = tI b 87 0 j) ∧ (∀ q, q < tZ a 29 0 → tI b 87 0 (10 * q + 2) = Int32.ofNat sh → (tI b 87 0 (10 * q) = 0 ∨ tI b 87 0 (10 * q) = 2) → tI b' 70 0 q ≠ 0) ∧
      ((∀ q, q < tZ a 29 0 → tI b 87 0 (10 * q + 2) = Int32.ofNat sh → (tI b 87 0 (10 * q) = 0 ∨ tI b 87 0 (10 * q) = 2) → tI b 70 0 q ≠ 0) → n = 0 ∧ a' = a ∧ b' = b) := by
  have hR := h.1.1
  have hF := r_FC hR
  have h4 := (r_S hR).1
  have x0 := x140_1 (inR_mk (k := sh) hsh (by omega))
  obtain ⟨r1, r2, r3⟩ := shop_at hR hsh
  have g1 : (Int32.ofNat sh).toNatClampNeg = sh := o_ix (by omega)
  have g2 : ¬ Int32.ofNat sh < 0 := o_lt0 (by omega)
  obtain ⟨n, a', b', x, hn, hc, wa, hS, i87, -, hall, hnone⟩ := sends_loop (sh := sh) (tZ a 29 0) 0 0 a b (Nat.zero_add _) hsh h
  rw [Nat.zero_add] at x
  refine ⟨n, a', b', fun z => pub_go (rf := 140) (cb := [aI (Int32.ofNat sh), aI (Int32.ofNat (tZ a 27 0))]) (dm := 98) (da := [aR (some (96, 0)), aI (Int32.ofNat sh)]) (fun z => ?_) (fun z => x0 _) (fun z => ?_) z, hn, hc, wa, hS, i87, fun q => hall q (Nat.zero_le _), fun hq => hnone (fun q _ => hq q)⟩
  · refine (X_in (by decide +kernel) (fcN_96 hF) rfl).trans ((lf_97_0 ..).trans ?_)
    simp (config := {decide := true}) only [gfI_enc, gfL_enc, gfR_enc, pfI_enc, pfL_enc, pfR_enc, Option.bind_some, cI_v, cL_v, cF_v, cD_v, cR_v, cV_v, cI_x, cL_x, cR_x, cV_x, gz_0, gz_1, acc_enc, tI_sI, tL_sI, tR_sI, tN_sI, tZ_sI, tC_sI, tc_sI, tz_sI, tI_sL, tL_sL, tR_sL, tN_sL, tZ_sL, tC_sL, tc_sL, tz_sL, tI_sR, tL_sR, tR_sR, tN_sR, tZ_sR, tC_sR, tc_sR, tz_sR, tI_sZ, tL_sZ, tR_sZ, tN_sZ, tZ_sZ, tC_sZ, tc_sZ, tz_sZ, tI_sC, tL_sC, tR_sC, tN_sC, tZ_sC, tC_sC, tc_sC, tz_sC, tI_aC, tL_aC, tR_aC, tN_aC, tZ_aC, tC_aC, tc_aC, tz_aC, tI_rmL, tL_rmL, tR_rmL, tN_rmL, tZ_rmL, tC_rmL, tc_rmL, tz_rmL, tI_mk, tL_mk, tR_mk, tN_mk, tZ_mk, tC_mk, tc_mk, tz_mk, tI_pushL, tL_pushL, tR_pushL, tN_pushL, tZ_pushL, tC_pushL, tc_pushL, tz_pushL, tI_pushB, tL_pushB, tR_pushB, tN_pushB, tZ_pushB, tC_pushB, tc_pushB, tz_pushB, tI_cpL, tL_cpL, tR_cpL, tN_cpL, tZ_cpL, tC_cpL, tc_cpL, tz_cpL, eq_self, true_and, and_true, false_and, and_false, if_true, if_false, reduceIte, ite_true, ite_false, not_true_eq_false, not_false_eq_true, fcN_96 hF, fcR_96_3 hF, X405, fcN_27 hF]
  · refine (X_in (by decide +kernel) (fcN_96 hF) rfl).trans ((lf_98_0 ..).trans ?_)
    simp (config := {decide := true}) only [gfI_enc, gfL_enc, gfR_enc, pfI_enc, pfL_enc, pfR_enc, Option.bind_some, cI_v, cL_v, cF_v, cD_v, cR_v, cV_v, cI_x, cL_x, cR_x, cV_x, gz_0, gz_1, acc_enc, tI_sI, tL_sI, tR_sI, tN_sI, tZ_sI, tC_sI, tc_sI, tz_sI, tI_sL, tL_sL, tR_sL, tN_sL, tZ_sL, tC_sL, tc_sL, tz_sL, tI_sR, tL_sR, tR_sR, tN_sR, tZ_sR, tC_sR, tc_sR, tz_sR, tI_sZ, tL_sZ, tR_sZ, tN_sZ, tZ_sZ, tC_sZ, tc_sZ, tz_sZ, tI_sC, tL_sC, tR_sC, tN_sC, tZ_sC, tC_sC, tc_sC, tz_sC, tI_aC, tL_aC, tR_aC, tN_aC, tZ_aC, tC_aC, tc_aC, tz_aC, tI_rmL, tL_rmL, tR_rmL, tN_rmL, tZ_rmL, tC_rmL, tc_rmL, tz_rmL, tI_mk, tL_mk, tR_mk, tN_mk, tZ_mk, tC_mk, tc_mk, tz_mk, tI_pushL, tL_pushL, tR_pushL, tN_pushL, tZ_pushL, tC_pushL, tc_pushL, tz_pushL, tI_pushB, tL_pushB, tR_pushB, tN_pushB, tZ_pushB, tC_pushB, tc_pushB, tz_pushB, tI_cpL, tL_cpL, tR_cpL, tN_cpL, tZ_cpL, tC_cpL, tc_cpL, tz_cpL, eq_self, true_and, and_true, false_and, and_false, if_true, if_false, reduceIte, ite_true, ite_false, not_true_eq_false, not_false_eq_true, fcN_96 hF, fcR_96_3 hF, X402, fcN_27 hF, g1, g2, hsh, r1, acc_enc, r2]
    exact x z
