/-! ===== a card comes ===== -/
theorem core_card {a b : TS} {C t : Nat} {p1 p2 p3 : Int32} (h : Core a b C) (h8 : tZ a 28 0 < 8) (ht : t < tZ a 26 0) : Core (cdA a (tZ a 28 0) t p1 p2 p3) (cdB b (tZ a 28 0) (Int32.ofNat t) p1 p2 p3) C := by
  have hR := h.1.1
  obtain ⟨C1, ⟨C2, C3, C4⟩, ⟨C5, C6, C7⟩, C8, C9⟩ := r_C hR
  obtain ⟨ha, wa, hb, wb⟩ := cd_eq (a := a) (b := b) (n := tZ a 28 0) (t := t) (p0 := Int32.ofNat t) (p1 := p1) (p2 := p2) (p3 := p3) C2 (fcN_28 (r_FC hR))
  have aI := fun i {f} hf => cdA_I a (tZ a 28 0) t p1 p2 p3 i (f := f) hf
  have aR := fun i {f} hf => cdA_R a (tZ a 28 0) t p1 p2 p3 i (f := f) hf
  have aN := cdA_N a (tZ a 28 0) t p1 p2 p3
  have a1 := cdA_1 a (tZ a 28 0) t p1 p2 p3
  have a2 := cdA_2 a (tZ a 28 0) t p1 p2 p3
  obtain ⟨az, az1, az2⟩ := cdA_Z a (tZ a 28 0) t p1 p2 p3
  have a28 := fun k => (cdA_28 a (tZ a 28 0) t p1 p2 p3 k).1
  have aC := (cdA_28 a (tZ a 28 0) t p1 p2 p3 0).2
  have bI := cdB_I b (tZ a 28 0) (Int32.ofNat t) p1 p2 p3
  have b93 : tI (cdB b (tZ a 28 0) (Int32.ofNat t) p1 p2 p3) 93 0 6 = Int32.ofNat (tZ a 28 0 + 1) := by
    unfold cdB
    rw [tI_sI, if_pos ⟨rfl, rfl, rfl⟩]
  rw [C5] at aI aR
  rw [C6] at a1 az1
  rw [C7] at a2 az2
  generalize cdA a (tZ a 28 0) t p1 p2 p3 = a' at *
  generalize cdB b (tZ a 28 0) (Int32.ofNat t) p1 p2 p3 = b' at *
  have z26 : tZ a' 26 0 = tZ a 26 0 := dZ ha (S := [26]) (P := []) (s := 26) (by decide) (by simp) 0
  have z27 : tZ a' 27 0 = tZ a 27 0 := dZ ha (S := [27]) (P := []) (s := 27) (by decide) (by simp) 0
  have z29 : tZ a' 29 0 = tZ a 29 0 := dZ ha (S := [29]) (P := []) (s := 29) (by decide) (by simp) 0
  have bo : ∀ k f, k < tZ a 28 0 → f < 10 → tI b' 86 0 (10 * k + f) = tI b 86 0 (10 * k + f) := fun k f hk hf => by
    rw [bI, if_neg (by omega), if_neg (by omega), if_neg (by omega), if_neg (by omega), if_neg (by omega)]
  have nI : ∀ f (hf : f < 17), tI a' 37 (tZ a 28 0) f = if f = 5 then p3 else if f = 4 then p2 else if f = 3 then cdK0 (tZ a 28 0) else if f = 2 then p1 else if f = 0 then Int32.ofNat (tZ a 28 0) else if f = 7 then 3 else 0 := fun f hf => by rw [aI _ hf, if_pos rfl]
  have nR : ∀ f (hf : f < 17), tR a' 37 (tZ a 28 0) f = if f = 1 then some (35, t) else if f = 16 then some (2, tN a 2) else if f = 15 then some (1, tN a 1) else none := fun f hf => by rw [aR _ hf, if_pos rfl]
  have m9 : tI b' 86 0 (10 * tZ a 28 0 + 9) = Int32.ofNat t := by rw [bI, if_pos rfl]
  have m8 : tI b' 86 0 (10 * tZ a 28 0 + 8) = p3 := by rw [bI, if_neg (by omega), if_pos rfl]
  have m7 : tI b' 86 0 (10 * tZ a 28 0 + 7) = p1 := by rw [bI, if_neg (by omega), if_neg (by omega), if_pos rfl]
  have m6 : tI b' 86 0 (10 * tZ a 28 0 + 6) = p2 := by rw [bI, if_neg (by omega), if_neg (by omega), if_neg (by omega), if_pos rfl]
  have m1 : tI b' 86 0 (10 * tZ a 28 0 + 1) = 3 := by rw [bI, if_neg (by omega), if_neg (by omega), if_neg (by omega), if_neg (by omega), if_pos rfl]
  have hR1 : R0 a' b' := by
    obtain ⟨hFC, hFR, hB, hS, hM, hW, hV, hC, hD, hE, hP, hQ, hH, hK, hG, hO, hZ⟩ := hR
    have hC' : RC a' b' := by
      refine ⟨by omega, ?_, ?_, ?_, fun k hk => ?_⟩
      · unfold capOK
        rw [az, aC]
        by_cases e : tZ a 28 0 < tC a 28 0
        · rw [if_pos e]
          omega
        · rw [if_neg e]
          exact liC_le2 C2 e (by omega) C4
      · rw [az, aN, aN, aN, if_neg (by decide), if_neg (by decide), if_pos rfl, if_neg (by decide), if_pos rfl, if_pos rfl]
        omega
      · rw [b93, az]
      · rw [az] at hk
        by_cases e : k = tZ a 28 0
        · subst e
          exact ⟨by rw [a28, if_pos rfl, C5], nI 0 (by omega), ⟨t, by rw [z26]; exact ht, nR 1 (by omega), m9⟩, (nI 2 (by omega)).trans m7.symm, by rw [nI 3 (by omega)]; exact cdK0_eq h8, (nI 5 (by omega)).trans m8.symm, (nR 15 (by omega)).trans (by rw [C6]; rfl), (nR 16 (by omega)).trans (by rw [C7]; rfl), by rw [az1, if_pos rfl], by rw [az2, if_pos rfl]⟩
        · rw [a28, aI k (by omega), aR k (by omega), aI k (by omega), aI k (by omega), aI k (by omega), aR k (by omega), aR k (by omega), az1, az2, if_neg e, if_neg e, if_neg e, if_neg e, if_neg e, if_neg e, if_neg e, if_neg e, if_neg e, if_neg e, bo k 9 (by omega) (by omega), bo k 7 (by omega) (by omega), bo k 8 (by omega) (by omega), z26]
          exact C9 k (by omega)
    have hD' : RD a' b' := by
      obtain ⟨d1, d2⟩ := hD
      refine ⟨fun k hk => ?_, fun k hk => ?_⟩
      · rw [az] at hk
        by_cases e : k = tZ a 28 0
        · subst e
          have zr : ∀ f, tI b 86 0 (10 * tZ a 28 0 + f) = 0 := fun f => d2 _ (by omega)
          have mz : ∀ f, f = 0 ∨ f = 2 ∨ f = 3 ∨ f = 4 ∨ f = 5 → tI b' 86 0 (10 * tZ a 28 0 + f) = 0 := fun f hf => by
            rw [bI, if_neg (by omega), if_neg (by omega), if_neg (by omega), if_neg (by omega), if_neg (by omega)]
            exact zr f
          have m0 : tI b' 86 0 (10 * tZ a 28 0) = 0 := mz 0 (by simp)
          exact ⟨(nI 4 (by omega)).trans m6.symm, (nI 6 (by omega)).trans m0.symm, (nI 7 (by omega)).trans m1.symm, (nI 8 (by omega)).trans (mz 2 (by simp)).symm, (nI 9 (by omega)).trans (mz 3 (by simp)).symm, (nI 10 (by omega)).trans (mz 4 (by simp)).symm, (nI 11 (by omega)).trans (mz 5 (by simp)).symm, ⟨by rw [mz 5 (by simp)]; rfl, Or.inr (Or.inr (Or.inr m1)), Or.inl (mz 2 (by simp))⟩, 0, Nat.zero_le _, m0⟩
        · rw [aI k (by omega), aI k (by omega), aI k (by omega), aI k (by omega), aI k (by omega), aI k (by omega), aI k (by omega), z29, if_neg e, if_neg e, if_neg e, if_neg e, if_neg e, if_neg e, if_neg e, bo k 6 (by omega) (by omega), bo k 1 (by omega) (by omega), bo k 2 (by omega) (by omega), bo k 3 (by omega) (by omega), bo k 4 (by omega) (by omega), bo k 5 (by omega) (by omega), show tI b' 86 0 (10 * k) = tI b 86 0 (10 * k) from bo k 0 (by omega) (by omega)]
          exact d1 k (by omega)
      · rw [az] at hk
        rw [bI, if_neg (by omega), if_neg (by omega), if_neg (by omega), if_neg (by omega), if_neg (by omega)]
        exact d2 k (by omega)
    have hE' : RE a' b' := by
      obtain ⟨e1, e2⟩ := hE
      have i58 := dIS hb (S := [58]) (P := []) (s := 58) (by decide) (by simp) 0
      have i57 := dIS hb (S := [57]) (P := []) (s := 57) (by decide) (by simp) 0
      refine ⟨fun k hk => ?_, fun k hk => ?_⟩
      · rw [az] at hk
        rw [aI k (by omega), aI k (by omega), i58, i57]
        by_cases e : k = tZ a 28 0
        · subst e
          obtain ⟨q1, q2⟩ := e2 (tZ a 28 0) (Nat.le_refl _)
          rw [if_pos rfl, if_pos rfl, q1, q2]
          exact ⟨rfl, rfl, rfl, rfl⟩
        · rw [if_neg e, if_neg e]
          exact e1 k (by omega)
      · rw [az] at hk
        rw [i58, i57]
        exact e2 k (by omega)
    have hP' : RP a' b' := RP_g hP ha hb (by decide) (by decide) (Nat.le_of_eq z27.symm) (by omega)
    have hG' : RG a' b' := by
      obtain ⟨H, g1, g2, g3, g4, g5, g6⟩ := hG
      unfold RG
      simp only [dIS hb (S := [54, 55, 56, 87, 94]) (P := []) (s := 54) (by decide) (by simp), dIS hb (S := [54, 55, 56, 87, 94]) (P := []) (s := 55) (by decide) (by simp), dIS hb (S := [54, 55, 56, 87, 94]) (P := []) (s := 56) (by decide) (by simp), dIS hb (S := [54, 55, 56, 87, 94]) (P := []) (s := 87) (by decide) (by simp), dIS hb (S := [54, 55, 56, 87, 94]) (P := []) (s := 94) (by decide) (by simp), az, z29]
      refine ⟨H, g1, g2, fun k hk => ?_, fun cd c h1 h2 h3 => ?_, g5, fun cd h1 => ?_⟩
      · obtain ⟨cd, c, p, q1, q2, q3, q4, q5, q6, q7, q8⟩ := g3 k hk
        exact ⟨cd, c, p, by omega, q2, q3, q4, q5, q6, by rw [a1, if_neg (by omega)]; exact q7, q8⟩
      · rw [a1] at h3
        by_cases e : cd = tZ a 28 0
        · rw [if_pos e] at h3
          exact absurd rfl h3
        · rw [if_neg e] at h3
          exact g4 cd c (by omega) h2 h3
      · rw [aI cd (by omega)]
        by_cases e : cd = tZ a 28 0
        · rw [if_pos e]
          have : (List.range H).countP (fun k => tI b 54 0 k == Int32.ofNat cd) = 0 := by
            refine List.countP_eq_zero.mpr (fun k hk => ?_)
            obtain ⟨cd', c, p, q1, q2, q3, q4, -⟩ := g3 k (List.mem_range.mp hk)
            rw [q4]
            intro z
            have z := eq_of_beq z
            have := o_inj (by omega) (by omega) z
            omega
          rw [this]
          rfl
        · rw [if_neg e]
          exact g6 cd (by omega)
    have hO' : RO a' b' := by
      obtain ⟨o1, o2, o3, o4⟩ := hO
      have w := hI_c hb (S := [53, 61, 64]) (P := []) (by decide) (by simp) (by simp)
      have v := hA_c hb (S := [53, 61, 64]) (P := []) (t := 64) (by decide) (by simp) (by simp)
      unfold RO
      simp only [w, v, az, dIS ha (S := [30]) (P := []) (s := 30) (by decide) (by simp), dIS hb (S := [94]) (P := []) (s := 94) (by decide) (by simp)]
      refine ⟨fun cd c h1 h2 => ?_, fun n hn h1 => ?_, o3, o4⟩
      · rw [a2]
        by_cases e : cd = tZ a 28 0
        · rw [if_pos e]
          exact Or.inl rfl
        · rw [if_neg e]
          exact o1 cd c (by omega) h2
      · obtain ⟨cd, c, q1, q2, q3, q4, q5⟩ := o2 n hn h1
        exact ⟨cd, c, by omega, q2, q3, q4, by rw [a2, if_neg (by omega)]; exact q5⟩
    have hK' : RK a' b' := RK_g hK ha hb (by decide) (by decide) (Nat.le_of_eq z26.symm) (Nat.le_of_eq z27.symm) (by omega) (fun k hk => bo k 9 hk (by omega))
    exact ⟨FxC_s hFC wa ha (by decide), FxR_s hFR wb hb (by decide), RB_c hB ha hb (by decide) (by decide), RS_c hS ha hb (by decide) (by decide), RM_c hM ha hb (by decide) (by decide), RW_c hW ha hb (by decide) (by decide), RV_c hV ha hb (by decide) (by decide), hC', hD', hE', hP', RQ_c hQ ha hb (by decide) (by decide), RH_c hH ha hb (by decide) (by decide), hK', hG', hO', RZ_c hZ ha hb (by decide) (by decide)⟩
  have w87 := dIS hb (S := [87]) (P := []) (s := 87) (by decide) (by simp) 0
  have hPS : PS a a' b b' := ⟨⟨Nat.le_of_eq z29.symm, by omega, Nat.le_of_eq z27.symm, fun p _ => ⟨w87 _, w87 _, w87 _, w87 _⟩⟩, fun p _ _ => ⟨w87 _, w87 _, w87 _⟩⟩
  have gq' : groQ b b' := groQ_c hb (by decide +kernel)
  exact Core_p h hR1 (Nt_c h.1.2.1 ha hb (by decide) (by decide) hPS.1 (gro_c ha (by decide)) gq') hPS ha hb (by decide) (by simp) (by decide) gq'
