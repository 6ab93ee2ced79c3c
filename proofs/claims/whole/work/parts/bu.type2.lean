/-! ===== typing, the reference's check; the signs are put down ===== -/
theorem y258_no {b : TS} {p : Int64} (hF : FxR b) : ∀ k j (v : Int32), j + k = 8 → ∀ z, Ru 258 8 [(0, aR (some (97, 0))), (1, aL p), (3, aI v), (4, aI 0), (5, aI (Int32.ofNat j))] [] (enc 2 b z) = some (.inl (some (aI 0)), enc 2 (sI b 97 0 8 1) z) := by
  intro k
  induction k with
  | zero =>
    intro j v hj z
    have : j = 8 := by omega
    subst this
    have q : (8 : Int32) ≤ Int32.ofNat 8 := by decide
    rw [lf_258_8, if_pos q, if_pos rfl, y251 hF, cI_v]
  | succ k ih =>
    intro j v hj z
    have q : ¬ (8 : Int32) ≤ Int32.ofNat j := by
      rw [show (8 : Int32) = Int32.ofNat 8 from rfl, o_le (by omega) (by omega)]
      omega
    rw [lf_258_8, if_neg q, o_80, B8_f, o_s]
    by_cases e : B8 p j = 0
    · rw [if_pos e, if_pos rfl]
      exact ih (j + 1) _ (by omega) z
    · rw [if_neg e, if_pos rfl]
      exact ih (j + 1) _ (by omega) z
theorem y258_sum {b : TS} {p : Int64} (hF : FxR b) : ∀ k j, j + k = 8 →
    ((∀ i, j ≤ i → i < 8 → ok8 p i) → ∀ z, Ru 258 8 [(0, aR (some (97, 0))), (1, aL p), (3, aI (Int32.ofNat (cu p j))), (4, aI 1), (5, aI (Int32.ofNat j))] [] (enc 2 b z) = Ru 258 8 [(0, aR (some (97, 0))), (1, aL p), (3, aI (Int32.ofNat (cu p 8))), (4, aI 1), (5, aI (Int32.ofNat 8))] [] (enc 2 b z)) ∧
    (¬ (∀ i, j ≤ i → i < 8 → ok8 p i) → ∀ z, Ru 258 8 [(0, aR (some (97, 0))), (1, aL p), (3, aI (Int32.ofNat (cu p j))), (4, aI 1), (5, aI (Int32.ofNat j))] [] (enc 2 b z) = some (.inl (some (aI 0)), enc 2 (sI b 97 0 8 1) z)) := by
  intro k
  induction k with
  | zero =>
    intro j hj
    have : j = 8 := by omega
    subst this
    exact ⟨fun _ z => rfl, fun h => absurd (fun i h1 h2 => by omega) h⟩
  | succ k ih =>
    intro j hj
    have q : ¬ (8 : Int32) ≤ Int32.ofNat j := by
      rw [show (8 : Int32) = Int32.ofNat 8 from rfl, o_le (by omega) (by omega)]
      omega
    have n10 : ¬ (1 : Int32) = 0 := by decide
    have z0 : ∀ w : Nat, Int32.ofNat w + 0 = Int32.ofNat w := fun w => Int32.add_zero _
    obtain ⟨i1, i2⟩ := ih (j + 1) (by omega)
    have up : ok8 p j → ((∀ i, j ≤ i → i < 8 → ok8 p i) ↔ ∀ i, j + 1 ≤ i → i < 8 → ok8 p i) := fun h0 => ⟨fun h i h1 h2 => h i (by omega) h2, fun h i h1 h2 => by
      by_cases e : i = j
      · rw [e]; exact h0
      · exact h i (by omega) h2⟩
    refine ⟨fun hk z => ?_, fun hk z => ?_⟩
    · have hk' := (up (hk j (Nat.le_refl _) (by omega))).mp hk
      have := i1 hk' z
      rw [cu_s] at this
      conv => lhs; rw [lf_258_8, if_neg q, o_80, B8_f, o_s]
      rcases hk j (Nat.le_refl _) (by omega) with e | e
      · rw [if_pos e] at this
        rw [if_pos e, if_neg n10, if_pos e, z0]
        exact this
      · by_cases e0 : B8 p j = 0
        · rw [if_pos e0] at this
          rw [if_pos e0, if_neg n10, if_pos e0, z0]
          exact this
        · rw [if_neg e0] at this
          rw [if_neg e0, if_neg n10, if_neg e0, y250_1 e, cI_v, if_neg n10, o_s]
          exact this
    · rw [lf_258_8, if_neg q, o_80, B8_f, o_s]
      by_cases e0 : B8 p j = 0
      · have hk' := fun w => hk ((up (Or.inl e0)).mpr w)
        have := i2 hk' z
        rw [cu_s, if_pos e0] at this
        rw [if_pos e0, if_neg n10, if_pos e0, z0]
        exact this
      · by_cases e : inR (B8 p j) 32 126
        · have hk' := fun w => hk ((up (Or.inr e)).mpr w)
          have := i2 hk' z
          rw [cu_s, if_neg e0] at this
          rw [if_neg e0, if_neg n10, if_neg e0, y250_1 e, cI_v, if_neg n10, o_s]
          exact this
        · rw [if_neg e0, if_neg n10, if_neg e0, y250_0 e, cI_v, if_pos rfl, o_s]
          exact y258_no hF k (j + 1) _ (by omega) z
theorem ch16 : ∀ n, n < 127 → ((Int32.ofNat n).toUInt32 % 65536).toInt32 = Int32.ofNat n := by decide +kernel
theorem chF_pB {a : TS} {c : Int32} : chF [13] [] a (pushB a 13 0 c) := fun s hs => by
  have e : ¬ s = 13 := fun q => hs (by simp [q])
  exact ⟨fun i k _ => by rw [tI_pushB, if_neg (fun w => e w.1)], fun i k _ => tL_pushB .., fun i k => tR_pushB .., tN_pushB .., fun i => by rw [tZ_pushB, if_neg (fun w => e w.1)], fun i => by rw [tC_pushB, if_neg (fun w => e w.1)]⟩
theorem chF_p84 {b : TS} {k : Nat} {c v : Int32} : chF [84] [(92, 3)] b (sI (sI b 84 0 k c) 92 0 3 v) := fun s hs => by
  have e : ¬ s = 84 := fun q => hs (by simp [q])
  exact ⟨fun i k q => by
    rw [tI_sI, if_neg (fun w => q (by simp [w.1, w.2.2])), tI_sI, if_neg (fun w => e w.1)], fun i k _ => rfl, fun i k => rfl, rfl, fun i => rfl, fun i => rfl⟩
/-- the signs are put down, on both sides alike -/
theorem type_put {p : Int64} : ∀ k a b, k ≤ 8 → FxC a → FxR b → Tx a b → tI b 92 0 3 = Int32.ofNat (tZ a 13 0) → okT8 p k → tZ a 13 0 + cu p k ≤ 600 →
    ∃ a' b', (∀ z, Ru 77 96 [(0, aR (some (96, 0))), (1, aL p), (4, aI (Int32.ofNat (8 * k) + (-8)))] [] (enc 1 a z) = some (.inl (some (aI (Int32.ofNat (tZ a' 13 0)))), enc 1 a' z)) ∧
      (∀ z, Ru 258 113 [(0, aR (some (97, 0))), (1, aL p), (5, aI (Int32.ofNat k + (-1)))] [] (enc 2 b z) = some (.inl (some (aI (Int32.ofNat (tZ a' 13 0)))), enc 2 (sI b' 97 0 8 0) z)) ∧
      Tx a' b' ∧ tI b' 92 0 3 = Int32.ofNat (tZ a' 13 0) ∧ chF [13] [] a a' ∧ chF [84] [(92, 3)] b b' ∧ Wr a a' ∧ Wr b b' ∧ tZ a' 13 0 = tZ a 13 0 + cu p k := by
  intro k
  induction k with
  | zero =>
    intro a b _ hF hFR ht h3 _ hL
    have l1 : Int32.ofNat (8 * 0) + (-8) < 0 := by decide
    have l2 : Int32.ofNat 0 + (-1) < 0 := by decide
    have f252 := fun v z => y252 (b := b) (z := z) (v := v) hFR
    refine ⟨a, b, fun z => ?_, fun z => ?_, ht, h3, chF_r _ _ _, chF_r _ _ _, Wr.rf _, Wr.rf _, rfl⟩
    · rw [lf_77_96, if_pos l1]
      simp (config := {decide := true}) only [gfI_enc, gfL_enc, gfR_enc, pfI_enc, pfL_enc, pfR_enc, Option.bind_some, cI_v, cL_v, cF_v, cD_v, cR_v, cV_v, cI_x, cL_x, cR_x, cV_x, gz_0, gz_1, acc_enc, tI_sI, tL_sI, tR_sI, tN_sI, tZ_sI, tC_sI, tc_sI, tz_sI, tI_sL, tL_sL, tR_sL, tN_sL, tZ_sL, tC_sL, tc_sL, tz_sL, tI_sR, tL_sR, tR_sR, tN_sR, tZ_sR, tC_sR, tc_sR, tz_sR, tI_sZ, tL_sZ, tR_sZ, tN_sZ, tZ_sZ, tC_sZ, tc_sZ, tz_sZ, tI_sC, tL_sC, tR_sC, tN_sC, tZ_sC, tC_sC, tc_sC, tz_sC, tI_aC, tL_aC, tR_aC, tN_aC, tZ_aC, tC_aC, tc_aC, tz_aC, tI_rmL, tL_rmL, tR_rmL, tN_rmL, tZ_rmL, tC_rmL, tc_rmL, tz_rmL, tI_mk, tL_mk, tR_mk, tN_mk, tZ_mk, tC_mk, tc_mk, tz_mk, tI_pushL, tL_pushL, tR_pushL, tN_pushL, tZ_pushL, tC_pushL, tc_pushL, tz_pushL, tI_pushB, tL_pushB, tR_pushB, tN_pushB, tZ_pushB, tC_pushB, tc_pushB, tz_pushB, tI_cpL, tL_cpL, tR_cpL, tN_cpL, tZ_cpL, tC_cpL, tc_cpL, tz_cpL, eq_self, true_and, and_true, false_and, and_false, if_true, if_false, reduceIte, ite_true, ite_false, not_true_eq_false, not_false_eq_true, fcN_96 hF, fcR_96_0 hF, fcN_24 hF, fcR_24_0 hF, X412, fcN_13 hF]
    · rw [lf_258_113, if_pos l2]
      simp (config := {decide := true}) only [gfI_enc, gfL_enc, gfR_enc, pfI_enc, pfL_enc, pfR_enc, Option.bind_some, cI_v, cL_v, cF_v, cD_v, cR_v, cV_v, cI_x, cL_x, cR_x, cV_x, gz_0, gz_1, acc_enc, tI_sI, tL_sI, tR_sI, tN_sI, tZ_sI, tC_sI, tc_sI, tz_sI, tI_sL, tL_sL, tR_sL, tN_sL, tZ_sL, tC_sL, tc_sL, tz_sL, tI_sR, tL_sR, tR_sR, tN_sR, tZ_sR, tC_sR, tc_sR, tz_sR, tI_sZ, tL_sZ, tR_sZ, tN_sZ, tZ_sZ, tC_sZ, tc_sZ, tz_sZ, tI_sC, tL_sC, tR_sC, tN_sC, tZ_sC, tC_sC, tc_sC, tz_sC, tI_aC, tL_aC, tR_aC, tN_aC, tZ_aC, tC_aC, tc_aC, tz_aC, tI_rmL, tL_rmL, tR_rmL, tN_rmL, tZ_rmL, tC_rmL, tc_rmL, tz_rmL, tI_mk, tL_mk, tR_mk, tN_mk, tZ_mk, tC_mk, tc_mk, tz_mk, tI_pushL, tL_pushL, tR_pushL, tN_pushL, tZ_pushL, tC_pushL, tc_pushL, tz_pushL, tI_pushB, tL_pushB, tR_pushB, tN_pushB, tZ_pushB, tC_pushB, tc_pushB, tz_pushB, tI_cpL, tL_cpL, tR_cpL, tN_cpL, tZ_cpL, tC_cpL, tc_cpL, tz_cpL, eq_self, true_and, and_true, false_and, and_false, if_true, if_false, reduceIte, ite_true, ite_false, not_true_eq_false, not_false_eq_true, frN_97 hFR, frR_97_1 hFR, frN_92 hFR, h3, f252]
  | succ k ih =>
    intro a b k8 hF hFR ht h3 hk hL
    have nl : ¬ Int32.ofNat (8 * k) < 0 := o_lt0 (by omega)
    have nl2 : ¬ Int32.ofNat k < 0 := o_lt0 (by omega)
    have hk' : okT8 p k := fun j hj => hk j (by omega)
    by_cases e0 : B8 p k = 0
    · rw [cu_s, if_pos e0, Nat.add_zero] at hL
      obtain ⟨a', b', i1, i2, i3, i4, i5, i6, i7, i8, i9⟩ := ih a b (by omega) hF hFR ht h3 hk' hL
      refine ⟨a', b', fun z => ?_, fun z => ?_, i3, i4, i5, i6, i7, i8, by rw [cu_s, if_pos e0, Nat.add_zero]; exact i9⟩
      · rw [pos_s, lf_77_96, if_neg nl, B8_f, if_pos e0]
        exact i1 z
      · rw [pos1_s, lf_258_113, if_neg nl2, o_80, B8_f, if_pos e0]
        exact i2 z
    · rw [cu_s, if_neg e0] at hL
      have hin : inR (B8 p k) 32 126 := by
        rcases hk k (by omega) with e | e
        · exact absurd e e0
        · exact e
      obtain ⟨n, n1, n2, n3⟩ := inR_nat (lo := 32) (hi := 126) hin (by decide) (by decide)
      obtain ⟨t1, t2, t3, t4⟩ := ht
      have wa : Wr a (pushB a 13 0 (Int32.ofNat n)) := (Wr.rf _).cB 13 0 _ (by decide +kernel) (by decide) (fcN_13 hF) t2
      have ca : chF [13] [] a (pushB a 13 0 (Int32.ofNat n)) := chF_pB
      have wb : Wr b (sI (sI b 84 0 (tZ a 13 0) (Int32.ofNat n)) 92 0 3 (Int32.ofNat (tZ a 13 0 + 1))) := ((Wr.rf _).cI _ _ _ _).cI _ _ _ _
      have cb : chF [84] [(92, 3)] b (sI (sI b 84 0 (tZ a 13 0) (Int32.ofNat n)) 92 0 3 (Int32.ofNat (tZ a 13 0 + 1))) := chF_p84
      have zz : tZ (pushB a 13 0 (Int32.ofNat n)) 13 0 = tZ a 13 0 + 1 := by rw [tZ_pushB, if_pos ⟨rfl, rfl⟩]
      have cc : tC (pushB a 13 0 (Int32.ofNat n)) 13 0 = (if tZ a 13 0 < tC a 13 0 then tC a 13 0 else 2 * tC a 13 0 + 2) := by rw [tC_pushB, if_pos ⟨rfl, rfl⟩]
      have ht' : Tx (pushB a 13 0 (Int32.ofNat n)) (sI (sI b 84 0 (tZ a 13 0) (Int32.ofNat n)) 92 0 3 (Int32.ofNat (tZ a 13 0 + 1))) := by
        unfold Tx
        rw [zz, cc]
        refine ⟨by omega, by split <;> omega, by split <;> omega, fun j hj => ?_⟩
        by_cases e : j = tZ a 13 0
        · rw [tI_pushB, if_pos ⟨rfl, rfl, e⟩, tI_sI, if_neg (fun w => absurd w.1 (by decide)), tI_sI, if_pos ⟨rfl, rfl, e⟩]
          exact ⟨n, n1, n2, rfl, rfl⟩
        · rw [tI_pushB, if_neg (fun w => e w.2.2), tI_sI, if_neg (fun w => absurd w.1 (by decide)), tI_sI, if_neg (fun w => e w.2.2)]
          exact t4 j (by omega)
      have h3' : tI (sI (sI b 84 0 (tZ a 13 0) (Int32.ofNat n)) 92 0 3 (Int32.ofNat (tZ a 13 0 + 1))) 92 0 3 = Int32.ofNat (tZ (pushB a 13 0 (Int32.ofNat n)) 13 0) := by rw [tI_sI, if_pos ⟨rfl, rfl, rfl⟩, zz]
      obtain ⟨a', b', i1, i2, i3, i4, i5, i6, i7, i8, i9⟩ := ih _ _ (by omega) (FxC_s hF wa ca (by decide)) (FxR_s hFR wb cb (by decide)) ht' h3' hk' (by rw [zz]; omega)
      have g1 : (Int32.ofNat (tZ a 13 0)).toNatClampNeg = tZ a 13 0 := o_ix (by omega)
      have g2 : ¬ Int32.ofNat (tZ a 13 0) < 0 := o_lt0 (by omega)
      have g3 : tZ a 13 0 < 600 := by omega
      have g4 : tZ a 13 0 < 1000 := by omega
      have c1 : ¬ Int32.ofNat n < 0 := o_lt0 (by omega)
      have c2 : ¬ (255 : Int32) < Int32.ofNat n := by
        rw [show (255 : Int32) = Int32.ofNat 255 from rfl, o_lt (by omega) (by omega)]
        omega
      have e0' : ¬ Int32.ofNat n = 0 := by rw [← n3]; exact e0
      refine ⟨a', b', fun z => ?_, fun z => ?_, i3, i4, chF_t ca i5, chF_t cb i6, wa.t i7, wb.t i8, by rw [cu_s, if_neg e0, i9, zz]; omega⟩
      · rw [pos_s, lf_77_96, if_neg nl, B8_f, if_neg e0, n3, ch16 n (by omega)]
        simp (config := {decide := true}) only [gfI_enc, gfL_enc, gfR_enc, pfI_enc, pfL_enc, pfR_enc, Option.bind_some, cI_v, cL_v, cF_v, cD_v, cR_v, cV_v, cI_x, cL_x, cR_x, cV_x, gz_0, gz_1, acc_enc, tI_sI, tL_sI, tR_sI, tN_sI, tZ_sI, tC_sI, tc_sI, tz_sI, tI_sL, tL_sL, tR_sL, tN_sL, tZ_sL, tC_sL, tc_sL, tz_sL, tI_sR, tL_sR, tR_sR, tN_sR, tZ_sR, tC_sR, tc_sR, tz_sR, tI_sZ, tL_sZ, tR_sZ, tN_sZ, tZ_sZ, tC_sZ, tc_sZ, tz_sZ, tI_sC, tL_sC, tR_sC, tN_sC, tZ_sC, tC_sC, tc_sC, tz_sC, tI_aC, tL_aC, tR_aC, tN_aC, tZ_aC, tC_aC, tc_aC, tz_aC, tI_rmL, tL_rmL, tR_rmL, tN_rmL, tZ_rmL, tC_rmL, tc_rmL, tz_rmL, tI_mk, tL_mk, tR_mk, tN_mk, tZ_mk, tC_mk, tc_mk, tz_mk, tI_pushL, tL_pushL, tR_pushL, tN_pushL, tZ_pushL, tC_pushL, tc_pushL, tz_pushL, tI_pushB, tL_pushB, tR_pushB, tN_pushB, tZ_pushB, tC_pushB, tc_pushB, tz_pushB, tI_cpL, tL_cpL, tR_cpL, tN_cpL, tZ_cpL, tC_cpL, tc_cpL, tz_cpL, eq_self, true_and, and_true, false_and, and_false, if_true, if_false, reduceIte, ite_true, ite_false, not_true_eq_false, not_false_eq_true, fcN_96 hF, fcR_96_0 hF, fcN_24 hF, fcR_24_0 hF, X411, fcN_13 hF, c1, c2, g4, t2]
        exact i1 z
      · rw [pos1_s, lf_258_113, if_neg nl2, o_80, B8_f, if_neg e0, n3]
        simp (config := {decide := true}) only [gfI_enc, gfL_enc, gfR_enc, pfI_enc, pfL_enc, pfR_enc, Option.bind_some, cI_v, cL_v, cF_v, cD_v, cR_v, cV_v, cI_x, cL_x, cR_x, cV_x, gz_0, gz_1, acc_enc, tI_sI, tL_sI, tR_sI, tN_sI, tZ_sI, tC_sI, tc_sI, tz_sI, tI_sL, tL_sL, tR_sL, tN_sL, tZ_sL, tC_sL, tc_sL, tz_sL, tI_sR, tL_sR, tR_sR, tN_sR, tZ_sR, tC_sR, tc_sR, tz_sR, tI_sZ, tL_sZ, tR_sZ, tN_sZ, tZ_sZ, tC_sZ, tc_sZ, tz_sZ, tI_sC, tL_sC, tR_sC, tN_sC, tZ_sC, tC_sC, tc_sC, tz_sC, tI_aC, tL_aC, tR_aC, tN_aC, tZ_aC, tC_aC, tc_aC, tz_aC, tI_rmL, tL_rmL, tR_rmL, tN_rmL, tZ_rmL, tC_rmL, tc_rmL, tz_rmL, tI_mk, tL_mk, tR_mk, tN_mk, tZ_mk, tC_mk, tc_mk, tz_mk, tI_pushL, tL_pushL, tR_pushL, tN_pushL, tZ_pushL, tC_pushL, tc_pushL, tz_pushL, tI_pushB, tL_pushB, tR_pushB, tN_pushB, tZ_pushB, tC_pushB, tc_pushB, tz_pushB, tI_cpL, tL_cpL, tR_cpL, tN_cpL, tZ_cpL, tC_cpL, tc_cpL, tz_cpL, eq_self, true_and, and_true, false_and, and_false, if_true, if_false, reduceIte, ite_true, ite_false, not_true_eq_false, not_false_eq_true, frN_97 hFR, frR_97_1 hFR, frN_92 hFR, frR_92_2 hFR, h3, frN_84 hFR, frZ_84 hFR, paI_enc, g1, g2, g3, o_s]
        exact i2 z
theorem Core_ty {a a' b b' : TS} {C : Nat} (h : Core a b C) (ca : chF [13] [] a a') (wa : Wr a a') (cb : chF [84] [(92, 3)] b b') (wb : Wr b b') (ht' : Tx a' b') : Core a' b' C := by
  have hR := h.1.1
  have hR1 : R0 a' b' := by
    have ha := ca
    have hb := cb
    obtain ⟨hFC, hFR, hB, hS, hM, hW, hV, hC, hD, hE, hP, hQ, hH, hK, hG, hO, hZ⟩ := hR
    exact ⟨FxC_s hFC wa ha (by decide), FxR_s hFR wb hb (by decide), RB_c hB ha hb (by decide) (by decide), RS_c hS ha hb (by decide) (by decide), RM_c hM ha hb (by decide) (by decide), RW_c hW ha hb (by decide) (by decide), RV_c hV ha hb (by decide) (by decide), RC_c hC ha hb (by decide) (by decide), RD_c hD ha hb (by decide) (by decide), RE_c hE ha hb (by decide) (by decide), RP_c hP ha hb (by decide) (by decide), RQ_c hQ ha hb (by decide) (by decide), RH_c hH ha hb (by decide) (by decide), RK_c hK ha hb (by decide) (by decide) (gro_c ha (by decide)) (gro_c ha (by decide)) (gro_c ha (by decide)) (gro_c ha (by decide)), RG_c hG ha hb (by decide) (by decide), RO_c hO ha hb (by decide) (by decide), RZ_c hZ ha hb (by decide) (by decide)⟩
  exact Core_kT h hR1 ca cb (by decide) (by simp) (by decide) (groQ_c cb (by decide +kernel)) ht'
/-- up to eight signs are typed -/
theorem t_type {a b : TS} {n : Nat} (h : IvH a b n) (p : Int64) : PubT aI 77 [aR (some (96, 0)), aL p] 258 [aR (some (97, 0)), aL p] k23 a b n := by
  obtain ⟨C, hc, hp, ht, hB⟩ := h
  have hF := r_FC hc.1.1
  have hFR := r_FR hc.1.1
  have t1 := hc.2.2.1
  have c8 := cu_le p 8
  have p0 : Int32.ofNat (8 * 8) + (-8) = 56 := by decide
  have p1 : Int32.ofNat 8 + (-1) = 7 := by decide
  have o0 : Int32.ofNat 0 = 0 := rfl
  have nl : (0 : Int32) + (-8) < 0 := by decide
  have q8 : (8 : Int32) ≤ Int32.ofNat 8 := by decide
  have n10 : ¬ (1 : Int32) = 0 := by decide
  have all : (∀ i, 0 ≤ i → i < 8 → ok8 p i) ↔ okT8 p 8 := ⟨fun h j hj => h j (Nat.zero_le _) hj, fun h i _ hi => h i hi⟩
  have s1 := x77_sum (p := p) hF 8 0 (by omega)
  have s2 := y258_sum (p := p) hFR 8 0 (by omega)
  rw [show cu p 0 = 0 from rfl, o0] at s2
  rw [p0, o0, Nat.zero_add] at s1
  have hd1 : ∀ z, Ex 77 [aR (some (96, 0)), aL p] (enc 1 a z) = Ru 77 6 [(0, aR (some (96, 0))), (1, aL p), (3, aI 0), (4, aI 56)] [] (enc 1 a z) := fun z => by
    refine (X_in (by decide +kernel) (fcN_96 hF) rfl).trans ((lf_77_0 ..).trans ?_)
    rfl
  have hd2 : ∀ z, Ex 258 [aR (some (97, 0)), aL p] (enc 2 b z) = Ru 258 8 [(0, aR (some (97, 0))), (1, aL p), (3, aI 0), (4, aI 1), (5, aI 0)] [] (enc 2 b z) := fun z => by
    refine (X_in (by decide +kernel) (frN_97 hFR) rfl).trans ((lf_258_0 ..).trans ?_)
    rfl
  by_cases hk : okT8 p 8
  · have s1 := s1.1 hk
    have s2 := s2.1 (all.mpr hk)
    have sm : Int32.ofNat (tZ a 13 0) + Int32.ofNat (cu p 8) = Int32.ofNat (tZ a 13 0 + cu p 8) := o_a ..
    by_cases hL : tZ a 13 0 + cu p 8 ≤ 600
    · have l6 : Int32.ofNat (tZ a 13 0 + cu p 8) ≤ 600 := by
        rw [show (600 : Int32) = Int32.ofNat 600 from rfl, o_le (by omega) (by omega)]
        exact hL
      obtain ⟨a', b', i1, i2, i3, i4, i5, i6, i7, i8, i9⟩ := type_put 8 a b (by omega) hF hFR hc.2.2 ht.1 hk hL
      rw [p0] at i1
      rw [p1] at i2
      have ct : chF [] FtH b' (sI b' 97 0 8 0) := th_c
      have ht' : Tw a' b' := by
        obtain ⟨i83, -⟩ := i6 83 (by simp)
        obtain ⟨-, -, r82, -⟩ := i6 82 (by simp)
        refine ⟨i4, fun c hc => ?_⟩
        rw [i83 0 c (by simp), r82]
        exact ht.2 c hc
      refine Or.inr ⟨Int32.ofNat (tZ a' 13 0), a', sI b' 97 0 8 0, fun z _ => ?_, fun z _ => ?_, th_v, ⟨C, Core_th (Core_ty hc i5 i7 i6 i8 i3) ct th_w, PcA_c i5 (by decide) (by decide) hp, Tw_th ht' ct, by omega⟩, i7, i8.t th_w⟩
      · rw [hd1, s1, lf_77_6, if_pos nl]
        simp (config := {decide := true}) only [gfI_enc, gfL_enc, gfR_enc, pfI_enc, pfL_enc, pfR_enc, Option.bind_some, cI_v, cL_v, cF_v, cD_v, cR_v, cV_v, cI_x, cL_x, cR_x, cV_x, gz_0, gz_1, acc_enc, tI_sI, tL_sI, tR_sI, tN_sI, tZ_sI, tC_sI, tc_sI, tz_sI, tI_sL, tL_sL, tR_sL, tN_sL, tZ_sL, tC_sL, tc_sL, tz_sL, tI_sR, tL_sR, tR_sR, tN_sR, tZ_sR, tC_sR, tc_sR, tz_sR, tI_sZ, tL_sZ, tR_sZ, tN_sZ, tZ_sZ, tC_sZ, tc_sZ, tz_sZ, tI_sC, tL_sC, tR_sC, tN_sC, tZ_sC, tC_sC, tc_sC, tz_sC, tI_aC, tL_aC, tR_aC, tN_aC, tZ_aC, tC_aC, tc_aC, tz_aC, tI_rmL, tL_rmL, tR_rmL, tN_rmL, tZ_rmL, tC_rmL, tc_rmL, tz_rmL, tI_mk, tL_mk, tR_mk, tN_mk, tZ_mk, tC_mk, tc_mk, tz_mk, tI_pushL, tL_pushL, tR_pushL, tN_pushL, tZ_pushL, tC_pushL, tc_pushL, tz_pushL, tI_pushB, tL_pushB, tR_pushB, tN_pushB, tZ_pushB, tC_pushB, tc_pushB, tz_pushB, tI_cpL, tL_cpL, tR_cpL, tN_cpL, tZ_cpL, tC_cpL, tc_cpL, tz_cpL, eq_self, true_and, and_true, false_and, and_false, if_true, if_false, reduceIte, ite_true, ite_false, not_true_eq_false, not_false_eq_true, fcN_96 hF, fcR_96_0 hF, fcN_24 hF, fcR_24_0 hF, X412, fcN_13 hF, sm, l6]
        exact i1 z
      · rw [hd2, s2, lf_258_8, if_pos q8, if_neg n10]
        simp (config := {decide := true}) only [gfI_enc, gfL_enc, gfR_enc, pfI_enc, pfL_enc, pfR_enc, Option.bind_some, cI_v, cL_v, cF_v, cD_v, cR_v, cV_v, cI_x, cL_x, cR_x, cV_x, gz_0, gz_1, acc_enc, tI_sI, tL_sI, tR_sI, tN_sI, tZ_sI, tC_sI, tc_sI, tz_sI, tI_sL, tL_sL, tR_sL, tN_sL, tZ_sL, tC_sL, tc_sL, tz_sL, tI_sR, tL_sR, tR_sR, tN_sR, tZ_sR, tC_sR, tc_sR, tz_sR, tI_sZ, tL_sZ, tR_sZ, tN_sZ, tZ_sZ, tC_sZ, tc_sZ, tz_sZ, tI_sC, tL_sC, tR_sC, tN_sC, tZ_sC, tC_sC, tc_sC, tz_sC, tI_aC, tL_aC, tR_aC, tN_aC, tZ_aC, tC_aC, tc_aC, tz_aC, tI_rmL, tL_rmL, tR_rmL, tN_rmL, tZ_rmL, tC_rmL, tc_rmL, tz_rmL, tI_mk, tL_mk, tR_mk, tN_mk, tZ_mk, tC_mk, tc_mk, tz_mk, tI_pushL, tL_pushL, tR_pushL, tN_pushL, tZ_pushL, tC_pushL, tc_pushL, tz_pushL, tI_pushB, tL_pushB, tR_pushB, tN_pushB, tZ_pushB, tC_pushB, tc_pushB, tz_pushB, tI_cpL, tL_cpL, tR_cpL, tN_cpL, tZ_cpL, tC_cpL, tc_cpL, tz_cpL, eq_self, true_and, and_true, false_and, and_false, if_true, if_false, reduceIte, ite_true, ite_false, not_true_eq_false, not_false_eq_true, frN_97 hFR, frR_97_1 hFR, frN_92 hFR, ht.1, sm, l6]
        exact i2 z
    · have l6 : ¬ Int32.ofNat (tZ a 13 0 + cu p 8) ≤ 600 := by
        rw [show (600 : Int32) = Int32.ofNat 600 from rfl, o_le (by omega) (by omega)]
        exact hL
      have f251 := fun z => y251 (b := b) (z := z) (v := 2) hFR
      refine Or.inl ⟨3, 0, a, sI b 97 0 8 2, by decide, by decide, by decide, fun z _ => ?_, fun z _ => ?_, th_v, ⟨C, Core_th hc th_c th_w, hp, Tw_th ht th_c, by omega⟩, Wr.rf _, th_w⟩
      · rw [hd1, s1, lf_77_6, if_pos nl]
        simp (config := {decide := true}) only [gfI_enc, gfL_enc, gfR_enc, pfI_enc, pfL_enc, pfR_enc, Option.bind_some, cI_v, cL_v, cF_v, cD_v, cR_v, cV_v, cI_x, cL_x, cR_x, cV_x, gz_0, gz_1, acc_enc, tI_sI, tL_sI, tR_sI, tN_sI, tZ_sI, tC_sI, tc_sI, tz_sI, tI_sL, tL_sL, tR_sL, tN_sL, tZ_sL, tC_sL, tc_sL, tz_sL, tI_sR, tL_sR, tR_sR, tN_sR, tZ_sR, tC_sR, tc_sR, tz_sR, tI_sZ, tL_sZ, tR_sZ, tN_sZ, tZ_sZ, tC_sZ, tc_sZ, tz_sZ, tI_sC, tL_sC, tR_sC, tN_sC, tZ_sC, tC_sC, tc_sC, tz_sC, tI_aC, tL_aC, tR_aC, tN_aC, tZ_aC, tC_aC, tc_aC, tz_aC, tI_rmL, tL_rmL, tR_rmL, tN_rmL, tZ_rmL, tC_rmL, tc_rmL, tz_rmL, tI_mk, tL_mk, tR_mk, tN_mk, tZ_mk, tC_mk, tc_mk, tz_mk, tI_pushL, tL_pushL, tR_pushL, tN_pushL, tZ_pushL, tC_pushL, tc_pushL, tz_pushL, tI_pushB, tL_pushB, tR_pushB, tN_pushB, tZ_pushB, tC_pushB, tc_pushB, tz_pushB, tI_cpL, tL_cpL, tR_cpL, tN_cpL, tZ_cpL, tC_cpL, tc_cpL, tz_cpL, eq_self, true_and, and_true, false_and, and_false, if_true, if_false, reduceIte, ite_true, ite_false, not_true_eq_false, not_false_eq_true, fcN_96 hF, fcR_96_0 hF, fcN_24 hF, fcR_24_0 hF, X412, fcN_13 hF, sm, l6, hC_enc]
        rfl
      · rw [hd2, s2, lf_258_8, if_pos q8, if_neg n10]
        simp (config := {decide := true}) only [gfI_enc, gfL_enc, gfR_enc, pfI_enc, pfL_enc, pfR_enc, Option.bind_some, cI_v, cL_v, cF_v, cD_v, cR_v, cV_v, cI_x, cL_x, cR_x, cV_x, gz_0, gz_1, acc_enc, tI_sI, tL_sI, tR_sI, tN_sI, tZ_sI, tC_sI, tc_sI, tz_sI, tI_sL, tL_sL, tR_sL, tN_sL, tZ_sL, tC_sL, tc_sL, tz_sL, tI_sR, tL_sR, tR_sR, tN_sR, tZ_sR, tC_sR, tc_sR, tz_sR, tI_sZ, tL_sZ, tR_sZ, tN_sZ, tZ_sZ, tC_sZ, tc_sZ, tz_sZ, tI_sC, tL_sC, tR_sC, tN_sC, tZ_sC, tC_sC, tc_sC, tz_sC, tI_aC, tL_aC, tR_aC, tN_aC, tZ_aC, tC_aC, tc_aC, tz_aC, tI_rmL, tL_rmL, tR_rmL, tN_rmL, tZ_rmL, tC_rmL, tc_rmL, tz_rmL, tI_mk, tL_mk, tR_mk, tN_mk, tZ_mk, tC_mk, tc_mk, tz_mk, tI_pushL, tL_pushL, tR_pushL, tN_pushL, tZ_pushL, tC_pushL, tc_pushL, tz_pushL, tI_pushB, tL_pushB, tR_pushB, tN_pushB, tZ_pushB, tC_pushB, tc_pushB, tz_pushB, tI_cpL, tL_cpL, tR_cpL, tN_cpL, tZ_cpL, tC_cpL, tc_cpL, tz_cpL, eq_self, true_and, and_true, false_and, and_false, if_true, if_false, reduceIte, ite_true, ite_false, not_true_eq_false, not_false_eq_true, frN_97 hFR, frR_97_1 hFR, frN_92 hFR, ht.1, sm, l6, f251]
  · have s1 := s1.2 hk
    have s2 := s2.2 (fun w => hk (all.mp w))
    exact Or.inl ⟨2, 0, a, sI b 97 0 8 1, by decide, by decide, by decide, fun z _ => by rw [hd1, s1]; rfl, fun z _ => by rw [hd2, s2], th_v, ⟨C, Core_th hc th_c th_w, hp, Tw_th ht th_c, by omega⟩, Wr.rf _, th_w⟩
