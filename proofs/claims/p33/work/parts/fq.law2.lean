/-! ===== the law's plays ===== -/
theorem x332 (H : ALLU) {w : Hp} {n : Nat} {t : List Int32} (hW : WT w n t) (h0 : ∀ j, t.getD j 0 = 0) :
    ∃ a w' k, Ex 332 [aR (some (100, 0)), aR (some (101, 0))] (enc 1 eS0 w) = some (.inl (some (aI 1)), enc 1 a w') ∧ WrX aS0 a k ∧ k ≤ 145 ∧ w'.2 = w.2 ∧ ∃ b', Core a b' 70 := by
  obtain ⟨z26, z27, z28, z29, z15, z13, n4, n61, n7, n9⟩ := s_z
  have o : nob (enc 1 eS0 w) 96 11 [4, 4, 4, 4, 4, 4, 4, 4, 0, 1, 1, 0] = (some (96, 0), enc 1 (mk eS0 96 0 0 12) w) := nob_enc (by decide +kernel)
  obtain ⟨w1, f1, W1, r1⟩ := x319 (a := aS0) hW
  have h78 := x78e (z := w1) s_FC z13 (by decide +kernel)
  have h130 := qn (w := w1) (m := 9) (x := 9) s_Core (by simp) rfl
  have c9 : cnV aS0 bS0 9 = 1 := by decide +kernel
  rw [c9] at h130
  obtain ⟨a2, b2, w2, n2, t2, f2, I2, W2, r2⟩ := x322 s_Bl (by decide +kernel) z26 z27 z28 W1 h0
  have y29 : tZ a2 29 0 = 0 := by
    obtain ⟨put, D, k, ⟨i1, i2, i3, i4⟩, _⟩ := I2
    omega
  have m1 : (-1 : Int32) = -1 := rfl
  have key : ∀ th : Bool, Ru 332 60 [(0, aR (some (100, 0))), (1, aR (some (101, 0))), (2, aR (some (96, 0))), (3, aI (thI th)), (4, aI 1), (5, aI (Int32.ofNat 0))] [] (enc 1 a2 w2) = Ex 332 [aR (some (100, 0)), aR (some (101, 0))] (enc 1 eS0 w) → ∃ a w' k, Ex 332 [aR (some (100, 0)), aR (some (101, 0))] (enc 1 eS0 w) = some (.inl (some (aI 1)), enc 1 a w') ∧ WrX aS0 a k ∧ k ≤ 145 ∧ w'.2 = w.2 ∧ ∃ b', Core a b' 70 := by
    intro th e
    have hR : T_acts th 0 n2 (decide (0 < tZ a2 29 0)) 0 := by
      rw [y29]
      exact ⟨rfl, rfl⟩
    obtain ⟨a3, b3, w3, t3, T3, L3, n3, an3, s1, s2, s3, s4, s5, s6⟩ := acts_loop (T0 := 0) (th := th) (by omega) 70 0 a2 b2 w2 t2 0 0 n2 (by omega) I2 (by omega) W2 hR
    obtain ⟨a4, w4, k, p1, p2, p3, p4, p5⟩ := plays_138 H s2 (by omega) s4 s6
    exact ⟨a4, w4, k, e.symm.trans (s1.trans p1), p2, p3, p4.trans (s5.trans (r2.trans r1)), p5⟩
  have st := (X_sl (k := 332) (h := enc 1 eS0 w) (as := [aR (some (100, 0)), aR (some (101, 0))]) (by decide +kernel) rfl).trans (lf_332_0 ..)
  by_cases q : imod (Int32.ofNat (nS n / 512)) 4 = 0
  · refine key true ?_
    rw [st, o]
    dsimp only
    rw [x76, cV_v, f1, cI_v, if_pos q, h78, cI_v, if_pos m1, h130, cI_v, if_pos rfl, f2, cI_v, if_neg (by decide)]
    rfl
  · refine key false ?_
    rw [st, o]
    dsimp only
    rw [x76, cV_v, f1, cI_v, if_neg q, h78, cI_v, if_pos m1, h130, cI_v, if_pos rfl, f2, cI_v, if_neg (by decide)]
    rfl
