/-! ===== a shop comes: the parts stand ===== -/
theorem RmS_0 (T K : Nat) : RmS T K [] [] [] := ⟨fun _ => 0, [], [], [], trivial, trivial, fun g => by simp, fun g _ => rfl, fun g => Nat.le_trans (Nat.le_of_eq (by unfold sW sumS; rfl)) (Nat.zero_le K), fun g _ => Nat.zero_le _, by simp⟩
theorem R0_shop {a a' b b' : TS} {d e : Nat} {p0 p1 : Int32} (hR : R0 a b) (h4 : tZ a 27 0 < 4) (hA : SgA a a' (tZ a 27 0) p0 p1) (hB : SgB b b' (tZ a 27 0) d e p0 p1) : R0 a' b' := by
  obtain ⟨ha, wa, aN, ao, ⟨z27, a27, c27⟩, ⟨i0, i1, i2, i9, i10⟩, ⟨j11, j12⟩, ⟨r3, r4, r5, r6, r7, r8⟩, ⟨-, -, -, -, zz20, ii20⟩, -⟩ := hA
  obtain ⟨hb, wb, bN, bo, ⟨b88, b89, b916, b937, b93⟩, ⟨-, -, b959⟩, -⟩ := hB
  generalize hn : tZ a 27 0 = n at *
  obtain ⟨hFC, hFR, hB, hS, hM, hW, hV, hC, hD, hE, hP, hQ, hH, hK, hG, hO, hZ⟩ := hR
  have oI : ∀ s i k, s = 36 ∨ s = 20 → i < n → tI a' s i k = tI a s i k := fun s i k hs hi => (ao s i (fun q => by unfold shNew at q; omega) (by omega)).1 k
  have oR : ∀ i k, i < n → tR a' 36 i k = tR a 36 i k := fun i k hi => (ao 36 i (fun q => by unfold shNew at q; omega) (by omega)).2.1 k
  have oL : ∀ i k, i < n → tL a' 36 i k = tL a 36 i k := fun i k hi => (ao 36 i (fun q => by unfold shNew at q; omega) (by omega)).2.2.2.2 (by decide) (by decide) k
  have w69 := dIS hb (S := [69]) (P := []) (s := 69) (by decide) (by simp) 0
  have w90 := dIS hb (S := [90]) (P := []) (s := 90) (by decide) (by simp) 0
  have w60 := dIS hb (S := [60]) (P := []) (s := 60) (by decide) (by simp)
  have w45 := dLS hb (S := [45]) (P := []) (s := 45) (by decide) (by simp) 0
  have w46 := dLS hb (S := [46]) (P := []) (s := 46) (by decide) (by simp) 0
  have hS' : RS a' b' := by
    obtain ⟨s1, ⟨s2, s2', s2''⟩, ⟨n36, n21, n22, n18, n19, n20⟩, -, s5⟩ := hS
    rw [hn] at s1 s2 n36 n21 n22 n18 n19 n20 s5
    refine ⟨by omega, ?_, ⟨?_, ?_, ?_, ?_, ?_, ?_⟩, ⟨by rw [z27]; exact b916, by rw [z27]; exact b937, by rw [z27]; exact b959⟩, fun s hs => ?_⟩
    · unfold capOK
      rw [z27, c27]
      by_cases l : n < tC a 27 0
      · rw [if_pos l]
        omega
      · rw [if_neg l]
        exact liC_le2 s2 l (by omega) s2''
    · rw [z27, aN, if_neg (by decide), if_pos (by decide)]; omega
    · rw [z27, aN, if_neg (by decide), if_pos (by decide)]; omega
    · rw [z27, aN, if_neg (by decide), if_pos (by decide)]; omega
    · rw [z27, aN, if_neg (by decide), if_pos (by decide)]; omega
    · rw [z27, aN, if_neg (by decide), if_pos (by decide)]; omega
    · rw [z27, aN, if_neg (by decide), if_pos (by decide)]; omega
    · rw [z27] at hs
      by_cases e : s = n
      · subst e
        exact ⟨by rw [a27, if_pos rfl], i0, by rw [i1, b88, if_pos rfl], by rw [i2, b89, if_pos rfl], r3, r4, r5, r6, r7, r8, zz20⟩
      · have hs' : s < n := by omega
        obtain ⟨-, -, z20, -⟩ := ao 20 s (fun q => by unfold shNew at q; omega) (by omega)
        rw [a27, if_neg e, oI 36 s _ (Or.inl rfl) hs', oI 36 s _ (Or.inl rfl) hs', oI 36 s _ (Or.inl rfl) hs', oR s _ hs', oR s _ hs', oR s _ hs', oR s _ hs', oR s _ hs', oR s _ hs', b88, if_neg e, b89, if_neg e, z20]
        exact s5 s hs'
  have hM' : RM a' b' := by
    obtain ⟨m1, m2⟩ := hM
    rw [hn] at m1 m2
    refine ⟨fun s hs => ?_, fun s hs => ?_⟩
    · rw [z27] at hs
      rw [w69, w90]
      by_cases e : s = n
      · subst e
        obtain ⟨q1, q2⟩ := m2 s (Nat.le_refl _)
        exact ⟨⟨0, by omega, q1, i9⟩, i10.trans q2.symm⟩
      · rw [oI 36 s _ (Or.inl rfl) (by omega), oI 36 s _ (Or.inl rfl) (by omega)]
        exact m1 s (by omega)
    · rw [z27] at hs
      rw [w69, w90]
      exact m2 s (by omega)
  have hW' : RW a' b' := by
    obtain ⟨m1, m2⟩ := hW
    rw [hn] at m1 m2
    refine ⟨fun s hs => ?_, fun s hs => ?_⟩
    · rw [z27] at hs
      rw [w45, w46]
      by_cases e : s = n
      · subst e
        obtain ⟨q1, q2⟩ := m2 s (Nat.le_refl _)
        exact ⟨j11.trans q1.symm, j12.trans q2.symm⟩
      · rw [oL s _ (by omega), oL s _ (by omega)]
        exact m1 s (by omega)
    · rw [z27] at hs
      rw [w45, w46]
      exact m2 s (by omega)
  have hV' : RV a' b' := by
    obtain ⟨m1, m2⟩ := hV
    rw [hn] at m1 m2
    refine ⟨fun s hs k hk => ?_, fun s hs k => ?_⟩
    · rw [z27] at hs
      rw [w60]
      by_cases e : s = n
      · subst e
        rw [m2 s (Nat.le_refl _), ii20]
        exact ⟨rfl, rfl⟩
      · rw [oI 20 s _ (Or.inr rfl) (by omega)]
        exact m1 s (by omega) k hk
    · rw [z27] at hs
      rw [w60]
      exact m2 s (by omega) k
  have z28 : tZ a' 28 0 = tZ a 28 0 := dZ ha (S := [28]) (P := []) (s := 28) (by decide) (by simp) 0
  have z26 : tZ a' 26 0 = tZ a 26 0 := dZ ha (S := [26]) (P := []) (s := 26) (by decide) (by simp) 0
  have hP' : RP a' b' := RP_g hP ha hb (by decide) (by decide) (by omega) (Nat.le_of_eq z28.symm)
  have w86 := dIS hb (S := [86]) (P := []) (s := 86) (by decide) (by simp) 0
  have hK' : RK a' b' := RK_g hK ha hb (by decide) (by decide) (Nat.le_of_eq z26.symm) (by omega) (Nat.le_of_eq z28.symm) (fun k _ => w86 _)
  exact ⟨FxC_s hFC wa ha (by decide), FxR_s hFR wb hb (by decide), RB_c hB ha hb (by decide) (by decide), hS', hM', hW', hV', RC_c hC ha hb (by decide) (by decide), RD_c hD ha hb (by decide) (by decide), RE_c hE ha hb (by decide) (by decide), hP', RQ_c hQ ha hb (by decide) (by decide), RH_c hH ha hb (by decide) (by decide), hK', RG_c hG ha hb (by decide) (by decide), RO_c hO ha hb (by decide) (by decide), RZ_c hZ ha hb (by decide) (by decide)⟩
set_option maxHeartbeats 2000000 in
theorem core_shop {a a' b b' : TS} {d e C : Nat} {p0 p1 : Int32} (h : Core a b C) (h4 : tZ a 27 0 < 4) (hA : SgA a a' (tZ a 27 0) p0 p1) (hB : SgB b b' (tZ a 27 0) d e p0 p1) (hd : tN b 49 = d) (he : tN b 50 = e) : Core a' b' C ∧ sam txA a a' ∧ sam txB b b' := by
  have hR1 := R0_shop h.1.1 h4 hA hB
  obtain ⟨⟨hR, hN, hL, hAs, hK⟩, ⟨T, m1, m2, m3, m4, m5, m6, m7⟩, ht⟩ := h
  have hS := r_S hR
  obtain ⟨-, -, ⟨n36, n21, n22, n18, n19, n20⟩, -, -⟩ := hS
  have gq' : groQ b b' := groQ_c hB.1 (by decide +kernel)
  obtain ⟨hL1, hv, ⟨vn0, vq0⟩, vn1, vq1⟩ := Ln0_g hL.1 hA hB hd he (fcN_25 (r_FC hR)) n21 n22 gq'
  obtain ⟨ca, wa, aN, ao, ⟨z27, a27, c27⟩, ⟨-, -, -, -, i10⟩, -, ⟨-, r4, -⟩, ⟨z18, k18, z19, k19, -, -⟩, -, -, a8k, -, -, a9z, a9z', -, -⟩ := hA
  obtain ⟨cb, wb, bN, bo, -, -, -, -, ⟨b48, -⟩⟩ := hB
  have z29 : tZ a' 29 0 = tZ a 29 0 := dZ ca (S := [29]) (P := []) (s := 29) (by decide) (by simp) 0
  have z28 : tZ a' 28 0 = tZ a 28 0 := dZ ca (S := [28]) (P := []) (s := 28) (by decide) (by simp) 0
  have iB : ∀ s, s ∈ [67, 68, 69, 70, 87] → ∀ i k, tI b' s i k = tI b s i k := fun s hs => dIS cb (S := [67, 68, 69, 70, 87]) (P := []) (s := s) (by decide) hs
  have r66 := dR cb (S := [66]) (P := []) (s := 66) (by decide) (by simp)
  have w87 := iB 87 (by simp) 0
  have hP : PS a a' b b' := ⟨⟨Nat.le_of_eq z29.symm, Nat.le_of_eq z28.symm, by omega, fun p _ => ⟨w87 _, w87 _, w87 _, w87 _⟩⟩, fun p _ _ => ⟨w87 _, w87 _, w87 _⟩⟩
  have nB : ∀ s, s ∈ [76, 77, 78, 79, 80, 81] → tN b' s = tN b s := fun s hs => dN cb (S := [76, 77, 78, 79, 80, 81]) (P := []) (s := s) (by decide) hs
  have nA : ∀ s, s ∈ [5, 6, 11, 12, 16, 17, 23, 39] → tN a' s = tN a s := fun s hs => dN ca (S := [5, 6, 11, 12, 16, 17, 23, 39]) (P := []) (s := s) (by decide) hs
  have hN1 : Nt a' b' := Nt_c hN ca cb (by decide) (by decide) hP.1 (gro_c ca (by decide)) gq'
  have hLn : Ln a' b' := by
    refine ⟨hL1, fun s hs => ?_⟩
    rw [z27] at hs
    by_cases q : s = tZ a 27 0
    · subst q
      unfold LnU LnD
      rw [vn0, vq0, vn1, vq1]
      exact ⟨trivial, trivial⟩
    · have q' : s < tZ a 27 0 := by omega
      exact ⟨LnU_c (hL.2 s q').1 hP (hv (2 * s) (by omega)).1 (hv (2 * s) (by omega)).2, LnD_c (hL.2 s q').2 hP (hv (2 * s + 1) (by omega)).1 (hv (2 * s + 1) (by omega)).2⟩
  have noP : ∀ p, p < tZ a 29 0 → tI b 87 0 (10 * p + 2) ≠ Int32.ofNat (tZ a 27 0) := fun p hp q => by
    obtain ⟨-, -, -, -, P5, -⟩ := r_P' hR
    obtain ⟨-, -, -, ⟨s, s1, -, s2⟩, -⟩ := P5 p hp
    rw [s2] at q
    have := o_inj (by omega) (by omega) q
    omega
  have hAs1 : As a' b' := by
    refine ⟨fun s hs => ?_, fun p hp => ?_⟩
    · rw [z27] at hs
      have eL : askL b' (tZ a 29 0) s = askL b (tZ a 29 0) s := askL_eq (fun p hp => w87 _) (fun p hp _ => by rw [w87])
      unfold As1
      rw [z29, eL]
      by_cases q : s = tZ a 27 0
      · subst q
        have e0 : askL b (tZ a 29 0) (tZ a 27 0) = [] := by
          refine List.eq_nil_iff_forall_not_mem.mpr (fun p hp => ?_)
          obtain ⟨q1, q2, -⟩ := askL_mem.mp hp
          exact noP p q1 q2
        unfold capOK
        rw [e0, z18, k18]
        exact ⟨⟨Nat.le_refl _, by omega, Or.inl rfl⟩, rfl⟩
      · obtain ⟨-, q2, q3, q4, -⟩ := ao 18 s (fun q' => by unfold shNew at q'; omega) (by omega)
        have := hAs.1 s (by omega)
        unfold As1 capOK at this
        unfold capOK
        rw [q3, q4, show tR a' 18 s = tR a 18 s from funext q2]
        exact this
    · rw [z29] at hp
      rw [w87, dI cb (S := []) (P := [(95, 1)]) (s := 95) (k := 1) (by decide) (by simp)]
      exact hAs.2 p hp
  have hst : Kst a a' b b' := ⟨hP, gro_c ca (by decide), gro_c ca (by decide), gro_c ca (by decide), gq', fun p _ h => by rw [w87]; exact h, fun p _ h => by rw [iB 70 (by simp)]; exact h, fun s m _ h h' => ⟨m, by rw [iB 69 (by simp)]; exact h, Nat.le_refl _, h'⟩⟩
  have hK1 : Kp a' b' := by
    refine ⟨fun s hs => ?_, fun s hs => ?_⟩
    · rw [z27] at hs
      by_cases q : s = tZ a 27 0
      · subst q
        refine ⟨?_, by rw [iB 68 (by simp), z19]; exact hK.2 _ (Nat.le_refl _), by omega, fun k hk => ?_, fun k k' l hk => ?_⟩
        · unfold capOK
          rw [z19, k19]
          exact ⟨Nat.le_refl _, by omega, Or.inl rfl⟩
        · rw [z19] at hk
          exact absurd hk (Nat.not_lt_zero _)
        · rw [z19] at hk
          exact absurd hk (Nat.not_lt_zero _)
      · obtain ⟨-, q2, q3, q4, -⟩ := ao 19 s (fun q' => by unfold shNew at q'; omega) (by omega)
        exact Kp1_c (hK.1 s (by omega)) (by omega) hst q3 q4 q2 (iB 68 (by simp) 0 s) (fun k _ => r66 0 _) (fun k _ => iB 67 (by simp) 0 _)
    · rw [z27] at hs
      rw [iB 68 (by simp)]
      exact hK.2 s (by omega)
  have hKT : ∀ s, s < tZ a 27 0 → KTs a' b' s = KTs a b s := fun s hs => KTs_eq (ao 19 s (fun q' => by unfold shNew at q'; omega) (by omega)).2.2.1 (fun k _ => iB 67 (by simp) 0 _)
  have hKTn : KTs a' b' (tZ a 27 0) = [] := by
    unfold KTs
    rw [z19]
    rfl
  have hGK : GK a' b' = GK a b := by
    unfold GK
    rw [z29, unsN_eq (fun p => iB 70 (by simp) 0 p), bkN_eq (fun p => iB 69 (by simp) 0 p)]
    unfold askN
    simp only [w87]
  have hKc : Kc a' = Kc a := by
    unfold Kc
    rw [nA 11 (by simp), nA 12 (by simp), nA 23 (by simp), nA 39 (by simp)]
  have hKb : Kb b' = Kb b := by
    unfold Kb
    rw [nB 76 (by simp), nB 77 (by simp), nB 78 (by simp)]
  have i48 : ∀ s, s < tZ a 27 0 → ∀ k, tI b' 48 (2 * s) k = tI b 48 (2 * s) k := fun s hs k => (bo 48 (2 * s) (fun q => by unfold cbNew at q; omega)).1 k (by decide) (by decide) (by decide) (by decide) (by decide)
  refine ⟨⟨⟨hR1, hN1, hLn, hAs1, hK1⟩, ⟨T, m1, m2, ?_, by rw [hKc, hKb, hGK, z29]; exact m4, ?_, fun s hs => ?_, fun s hs => ?_⟩, Tx_s ht (sam0_c ca (by decide)) (sam0_c cb (by decide))⟩, ⟨sam0_c ca (by decide), fun _ hPc s hs => ?_⟩, sam_c cb (by decide)⟩
  · rw [dI cb (S := []) (P := [(95, 1)]) (s := 95) (k := 1) (by decide) (by simp)]
    exact m3
  · have e1 : sumS (tZ a' 27 0) (phi a' b') = sumS (tZ a 27 0) (phi a b) := by
      rw [z27, sumS_s, sumS_eq _ (fun s hs => show phi a' b' s = phi a b s by
        unfold phi
        rw [(hv (2 * s) (by omega)).2, hKT s hs, i48 s hs])]
      unfold phi
      rw [vq0, hKTn, (b48 1).1]
      rfl
    have e2 : Mt b' = Mt b := by unfold Mt; rw [nB 79 (by simp), nB 80 (by simp), nB 81 (by simp)]
    rw [e1, z29, hGK, e2]
    exact m5
  · have e1 : sumS (tZ a' 27 0) (fun s' => ask0 (vQ b' (2 * s'))) = sumS (tZ a 27 0) (fun s' => ask0 (vQ b (2 * s'))) := by
      rw [z27, sumS_s, sumS_eq _ (fun s hs => show ask0 (vQ b' (2 * s)) = ask0 (vQ b (2 * s)) by rw [(hv (2 * s) (by omega)).2])]
      rw [vq0]
      rfl
    rw [e1, z29, nA s (by simp only [List.mem_cons, List.not_mem_nil, or_false] at hs ⊢; omega)]
    exact m6 s hs
  · rw [z27] at hs
    rw [hKc]
    by_cases q : s = tZ a 27 0
    · subst q
      rw [hKTn, vq0, vq1, a9z, a9z']
      exact ⟨RmS_0 _ _, fun _ h => (nomatch h), fun _ h => (nomatch h), Nat.zero_le _, Nat.zero_le _⟩
    · have q' : s < tZ a 27 0 := by omega
      have y1 := (ao 9 (2 * s) (fun q' => by unfold shNew at q'; omega) (by omega)).2.2.1
      have y2 := (ao 9 (2 * s + 1) (fun q' => by unfold shNew at q'; omega) (by omega)).2.2.1
      rw [hKT s q', (hv (2 * s) (by omega)).2, (hv (2 * s + 1) (by omega)).2, y1, y2]
      exact m7 s q'
  · rw [z27] at hs
    have r38 := dR ca (S := [38]) (P := []) (s := 38) (by decide) (by simp)
    rw [z29]
    simp only [r38]
    by_cases q : s = tZ a 27 0
    · subst q
      have e0 : (List.range (tZ a 29 0)).countP (fun p => decide (tR a 38 p 2 = some (36, tZ a 27 0))) = 0 := by
        refine List.countP_eq_zero.mpr (fun p hp => ?_)
        have hp := List.mem_range.mp hp
        obtain ⟨-, -, -, -, P5, -⟩ := r_P' hR
        obtain ⟨-, -, -, ⟨s, s1, s2, -⟩, -⟩ := P5 p hp
        rw [s2]
        intro w
        have w := congrArg Prod.snd (Option.some.inj (of_decide_eq_true w))
        have w : s = tZ a 27 0 := w
        omega
      rw [e0, i10]
      rfl
    · rw [(ao 36 s (fun q' => by unfold shNew at q'; omega) (by omega)).1]
      exact hPc s (by omega)
