/-! ===== the law's payments: what is drawn ===== -/
def payN (n : Nat) : Nat := if nS (nS (nS (nS (nS n)))) / 512 % 5 = 2 then nS (nS (nS (nS (nS (nS n))))) else nS (nS (nS (nS (nS n))))
theorem le_ofn {k c : Nat} (h1 : k < 1000) (h2 : c < 1000) : (Int32.ofNat c ≤ Int32.ofNat k) ↔ c ≤ k := by
  rw [Int32.le_iff_toInt_le, Int32.toInt_ofNat_of_lt (by omega), Int32.toInt_ofNat_of_lt (by omega)]
  omega
theorem eq_ofn {k c : Nat} (h1 : k < 1000) (h2 : c < 1000) : (Int32.ofNat k = Int32.ofNat c) ↔ k = c := ⟨fun q => o_inj (by omega) (by omega) q, fun q => by rw [q]⟩
set_option maxHeartbeats 4000000 in
theorem x328 {a0 a b : TS} {w : Hp} {u T L n : Nat} {t : List Int32} (h : IL a0 a b u T L t) (hu : u + 1 ≤ 71) (hwt : WT w n t) :
    ∃ a' b' w' t', Ex 328 [aR (some (96, 0)), aR (some (100, 0)), aR (some (101, 0))] (enc 1 a w) = some (.inl (some (aI 1)), enc 1 a' w') ∧ IL a0 a' b' (u + 1) T L t' ∧ WT w' (payN n) t' ∧ w'.2 = w.2 ∧ tZ a 29 0 ≤ tZ a' 29 0 ∧ (tZ a 29 0 = 0 → 3 ≤ nS (nS (nS (nS (nS n)))) / 512 % 5 → nS (nS (nS n)) / 512 % 5 ≠ 0 → 0 < tZ a' 29 0) ∧ tI b' 95 0 6 = tI b 95 0 6 := by
  have hI := h
  obtain ⟨put, D, k, ⟨h1, h2, h3, h4⟩, hC, hT, hM, hL, hK, hf, hF, hTL, hN, hW⟩ := hI
  obtain ⟨⟨q0, q1, q2, q3, q4⟩, ⟨sA, sS, sC⟩, s3, s4, s5, s6⟩ := hTL
  have hcdl : nS n / 512 % tZ a 28 0 < tZ a 28 0 := Nat.mod_lt _ (by omega)
  have hshl : nS (nS n) / 512 % tZ a 27 0 < tZ a 27 0 := Nat.mod_lt _ (by omega)
  obtain ⟨y1, ⟨y2, v0, v1, v2⟩, y3⟩ := s4 _ hcdl
  obtain ⟨-, -, -, -, -, -, -, ⟨b5, hCd⟩, -⟩ := (hC.1.1.2.2.2.2.2.2.2.2.1 : RD a b).1 _ hcdl
  obtain ⟨w1, f1, W1, r1⟩ := x319 (a := a) hwt
  have g2 := tb_get (a := a) (i := 2) (x := 2) W1 rfl (by omega)
  rw [q2] at g2
  obtain ⟨w2, f2, W2, r2⟩ := x319 (a := a) W1
  have g1 := tb_get (a := a) (i := 1) (x := 1) W2 rfl (by omega)
  rw [q1] at g1
  obtain ⟨w3, f3, W3, r3⟩ := x319 (a := a) W2
  have i1 : imod (Int32.ofNat (nS n / 512)) (Int32.ofNat (tZ a 28 0)) = Int32.ofNat (nS n / 512 % tZ a 28 0) := imod_n (by have := nx_lt n; omega) (by omega) (by omega)
  have i2 : imod (Int32.ofNat (nS (nS n) / 512)) (Int32.ofNat (tZ a 27 0)) = Int32.ofNat (nS (nS n) / 512 % tZ a 27 0) := imod_n (by have := nx_lt (nS n); omega) (by omega) (by omega)
  have i5 : ∀ x, imod (Int32.ofNat (nS x / 512)) 5 = Int32.ofNat (nS x / 512 % 5) := fun x => imod_n (y := 5) (by have := nx_lt x; omega) (by omega) (by omega)
  have z1 : ¬ Int32.ofNat (tZ a 28 0) = 0 := fun q => by have := o_inj (n := tZ a 28 0) (k := 0) (by omega) (by omega) q; omega
  have z2 : ¬ Int32.ofNat (tZ a 27 0) = 0 := fun q => by have := o_inj (n := tZ a 27 0) (k := 0) (by omega) (by omega) q; omega
  generalize hcd : nS n / 512 % tZ a 28 0 = cd at *
  generalize hsh : nS (nS n) / 512 % tZ a 27 0 = sh at *
  have qcs : ∀ W, Ex 321 [aR (some (96, 0)), aI 15, aI (Int32.ofNat cd), aI 1, aI 0, aI 0] (enc 1 a W) = some (.inl (some (aI (tI b 86 0 (10 * cd + 1)))), enc 1 a W) ∧ Ex 321 [aR (some (96, 0)), aI 15, aI (Int32.ofNat cd), aI 2, aI 0, aI 0] (enc 1 a W) = some (.inl (some (aI (tI b 86 0 (10 * cd + 2)))), enc 1 a W) ∧ Ex 321 [aR (some (96, 0)), aI 15, aI (Int32.ofNat cd), aI 5, aI 0, aI 0] (enc 1 a W) = some (.inl (some (aI (tI b 86 0 (10 * cd + 5)))), enc 1 a W) := fun W => ⟨qc (k := 1) hC hcdl (by omega) rfl rfl, qc (k := 2) hC hcdl (by omega) rfl rfl, qc (k := 5) hC hcdl (by omega) rfl rfl⟩
  have k5 : nS (nS (nS (nS (nS n)))) / 512 % 5 < 5 := Nat.mod_lt _ (by omega)
  have le2 : ((2 : Int32) ≤ Int32.ofNat (nS (nS (nS (nS (nS n)))) / 512 % 5)) ↔ 2 ≤ nS (nS (nS (nS (nS n)))) / 512 % 5 := le_ofn (c := 2) (by omega) (by omega)
  have eq2 : (Int32.ofNat (nS (nS (nS (nS (nS n)))) / 512 % 5) = (2 : Int32)) ↔ nS (nS (nS (nS (nS n)))) / 512 % 5 = 2 := eq_ofn (c := 2) (by omega) (by omega)
  have start := (X_sl (k := 328) (h := enc 1 a w) (as := [aR (some (96, 0)), aR (some (100, 0)), aR (some (101, 0))]) (by decide +kernel) rfl).trans (lf_328_0 ..)
  rw [f1, cI_v, g2, Option.bind_some, if_neg z1, f2, cI_v, g1, Option.bind_some, if_neg z2, f3, cI_v, i5, i1, i2] at start
  by_cases hamt : nS (nS (nS n)) / 512 % 5 = 0
  · rw [if_pos (by rw [hamt]; rfl)] at start
    obtain ⟨w4, f4, W4, r4⟩ := x320 (a := a) (l := 2400) (k := 60000) (lo := 2400) (hi := 60000) W3 rfl rfl (by omega) (by omega)
    obtain ⟨w5, f5, W5, r5⟩ := x319 (a := a) W4
    have hmb : 1 ≤ 2400 + nS (nS (nS (nS n))) / 512 % (60000 - 2400 + 1) ∧ 2400 + nS (nS (nS (nS n))) / 512 % (60000 - 2400 + 1) ≤ 60000 := by
      have := Nat.mod_lt (nS (nS (nS (nS n))) / 512) (show 0 < 60000 - 2400 + 1 by omega)
      omega
    rw [f4, cI_v, f5, cI_v, i5] at start
    generalize 2400 + nS (nS (nS (nS n))) / 512 % (60000 - 2400 + 1) = m at *
    by_cases hw2 : 2 ≤ nS (nS (nS (nS (nS n)))) / 512 % 5
    · by_cases hwe : nS (nS (nS (nS (nS n)))) / 512 % 5 = 2
      · obtain ⟨w6, f6, W6, r6⟩ := x320 (a := a) (l := 0) (k := 9999) (lo := 0) (hi := 9999) W5 rfl rfl (by omega) (by omega)
        obtain ⟨a', b', w', t', p1, p2, p3, p4, p5, p6, p7⟩ := pays_136 (pin := Int32.ofNat (0 + nS (nS (nS (nS (nS (nS n))))) / 512 % (9999 - 0 + 1))) (m := m) (s0 := if tI b 86 0 (10 * cd + 5) = 1 then 1 else 0) h hu W6 hcdl hshl (by omega) (Or.inr ⟨_, by have := Nat.mod_lt (nS (nS (nS (nS (nS (nS n))))) / 512) (show 0 < 9999 - 0 + 1 by omega); omega, rfl⟩) rfl
        refine ⟨a', b', w', t', ?_, p2, ?_, ?_, p5, ?_, p7⟩
        · rw [start]
          rw [if_pos (le2.mpr hw2), if_pos (eq2.mpr hwe), f6, cI_v]
          rw [(qcs w6).1, cI_v, (qcs w6).2.1, cI_v, (qcs w6).2.2, cI_v]
          by_cases e5 : tI b 86 0 (10 * cd + 5) = 1
          · rw [if_pos e5] at p1
            rw [if_pos e5]
            exact p1
          · rw [if_neg e5] at p1
            rw [if_neg e5]
            exact p1
        · unfold payN
          rw [if_pos hwe]
          exact p3
        · rw [p4, r6, r5, r4, r3, r2, r1]
        · intro _ x; omega
      · skip
        obtain ⟨a', b', w', t', p1, p2, p3, p4, p5, p6, p7⟩ := pays_136 (pin := -1) (m := m) (s0 := if tI b 86 0 (10 * cd + 5) = 1 then 1 else 0) h hu W5 hcdl hshl (by omega) (Or.inl rfl) rfl
        refine ⟨a', b', w', t', ?_, p2, ?_, ?_, p5, ?_, p7⟩
        · rw [start]
          rw [if_pos (le2.mpr hw2), if_neg (fun q => hwe (eq2.mp q))]
          rw [(qcs w5).1, cI_v, (qcs w5).2.1, cI_v, (qcs w5).2.2, cI_v]
          by_cases e5 : tI b 86 0 (10 * cd + 5) = 1
          · rw [if_pos e5] at p1
            rw [if_pos e5]
            exact p1
          · rw [if_neg e5] at p1
            rw [if_neg e5]
            exact p1
        · unfold payN
          rw [if_neg hwe]
          exact p3
        · rw [p4, r5, r4, r3, r2, r1]
        · intro _ _ x; exact absurd hamt x
    · have g30 := tb_get (a := a) (i := 30 + cd) (x := (30 : Int32) + Int32.ofNat cd) W5 (ix_add 30) (by omega)
      rw [y2, v2] at g30
      obtain ⟨a', b', w', t', p1, p2, p3, p4, p5, p6, p7⟩ := pays_136 (pin := Int32.ofNat v0) (m := m) (s0 := if tI b 86 0 (10 * cd + 5) = 1 then 1 else 0) h hu W5 hcdl hshl (by omega) (Or.inr ⟨v0, v1, rfl⟩) rfl
      refine ⟨a', b', w', t', ?_, p2, ?_, ?_, p5, ?_, p7⟩
      · rw [start]
        rw [if_neg (fun q => hw2 (le2.mp q)), g30, Option.bind_some]
        rw [(qcs w5).1, cI_v, (qcs w5).2.1, cI_v, (qcs w5).2.2, cI_v]
        by_cases e5 : tI b 86 0 (10 * cd + 5) = 1
        · rw [if_pos e5] at p1
          rw [if_pos e5]
          exact p1
        · rw [if_neg e5] at p1
          rw [if_neg e5]
          exact p1
      · unfold payN
        rw [if_neg (by omega)]
        exact p3
      · rw [p4, r5, r4, r3, r2, r1]
      · intro _ x; omega
  · have hne : ¬ Int32.ofNat (nS (nS (nS n)) / 512 % 5) = 0 := fun q => hamt ((eq_ofn (c := 0) (by have := Nat.mod_lt (nS (nS (nS n)) / 512) (show 0 < 5 by omega); omega) (by omega)).mp q)
    rw [if_neg hne] at start
    obtain ⟨w4, f4, W4, r4⟩ := x320 (a := a) (l := 1) (k := 2500) (lo := 1) (hi := 2500) W3 rfl rfl (by omega) (by omega)
    obtain ⟨w5, f5, W5, r5⟩ := x319 (a := a) W4
    have hmb : 1 ≤ 1 + nS (nS (nS (nS n))) / 512 % (2500 - 1 + 1) ∧ 1 + nS (nS (nS (nS n))) / 512 % (2500 - 1 + 1) ≤ 2500 := by
      have := Nat.mod_lt (nS (nS (nS (nS n))) / 512) (show 0 < 2500 - 1 + 1 by omega)
      omega
    rw [f4, cI_v, f5, cI_v, i5] at start
    generalize 1 + nS (nS (nS (nS n))) / 512 % (2500 - 1 + 1) = m at *
    by_cases hw2 : 2 ≤ nS (nS (nS (nS (nS n)))) / 512 % 5
    · by_cases hwe : nS (nS (nS (nS (nS n)))) / 512 % 5 = 2
      · obtain ⟨w6, f6, W6, r6⟩ := x320 (a := a) (l := 0) (k := 9999) (lo := 0) (hi := 9999) W5 rfl rfl (by omega) (by omega)
        obtain ⟨a', b', w', t', p1, p2, p3, p4, p5, p6, p7⟩ := pays_136 (pin := Int32.ofNat (0 + nS (nS (nS (nS (nS (nS n))))) / 512 % (9999 - 0 + 1))) (m := m) (s0 := if tI b 86 0 (10 * cd + 5) = 1 then 1 else 0) h hu W6 hcdl hshl (by omega) (Or.inr ⟨_, by have := Nat.mod_lt (nS (nS (nS (nS (nS (nS n))))) / 512) (show 0 < 9999 - 0 + 1 by omega); omega, rfl⟩) rfl
        refine ⟨a', b', w', t', ?_, p2, ?_, ?_, p5, ?_, p7⟩
        · rw [start]
          rw [if_pos (le2.mpr hw2), if_pos (eq2.mpr hwe), f6, cI_v]
          rw [(qcs w6).1, cI_v, (qcs w6).2.1, cI_v, (qcs w6).2.2, cI_v]
          by_cases e5 : tI b 86 0 (10 * cd + 5) = 1
          · rw [if_pos e5] at p1
            rw [if_pos e5]
            exact p1
          · rw [if_neg e5] at p1
            rw [if_neg e5]
            exact p1
        · unfold payN
          rw [if_pos hwe]
          exact p3
        · rw [p4, r6, r5, r4, r3, r2, r1]
        · intro _ x; omega
      · skip
        obtain ⟨a', b', w', t', p1, p2, p3, p4, p5, p6, p7⟩ := pays_136 (pin := -1) (m := m) (s0 := if tI b 86 0 (10 * cd + 5) = 1 then 1 else 0) h hu W5 hcdl hshl (by omega) (Or.inl rfl) rfl
        refine ⟨a', b', w', t', ?_, p2, ?_, ?_, p5, ?_, p7⟩
        · rw [start]
          rw [if_pos (le2.mpr hw2), if_neg (fun q => hwe (eq2.mp q))]
          rw [(qcs w5).1, cI_v, (qcs w5).2.1, cI_v, (qcs w5).2.2, cI_v]
          by_cases e5 : tI b 86 0 (10 * cd + 5) = 1
          · rw [if_pos e5] at p1
            rw [if_pos e5]
            exact p1
          · rw [if_neg e5] at p1
            rw [if_neg e5]
            exact p1
        · unfold payN
          rw [if_neg hwe]
          exact p3
        · rw [p4, r5, r4, r3, r2, r1]
        · intro x _ _; exact p6 x rfl (by omega)
    · have g30 := tb_get (a := a) (i := 30 + cd) (x := (30 : Int32) + Int32.ofNat cd) W5 (ix_add 30) (by omega)
      rw [y2, v2] at g30
      obtain ⟨a', b', w', t', p1, p2, p3, p4, p5, p6, p7⟩ := pays_136 (pin := Int32.ofNat v0) (m := m) (s0 := if tI b 86 0 (10 * cd + 5) = 1 then 1 else 0) h hu W5 hcdl hshl (by omega) (Or.inr ⟨v0, v1, rfl⟩) rfl
      refine ⟨a', b', w', t', ?_, p2, ?_, ?_, p5, ?_, p7⟩
      · rw [start]
        rw [if_neg (fun q => hw2 (le2.mp q)), g30, Option.bind_some]
        rw [(qcs w5).1, cI_v, (qcs w5).2.1, cI_v, (qcs w5).2.2, cI_v]
        by_cases e5 : tI b 86 0 (10 * cd + 5) = 1
        · rw [if_pos e5] at p1
          rw [if_pos e5]
          exact p1
        · rw [if_neg e5] at p1
          rw [if_neg e5]
          exact p1
      · unfold payN
        rw [if_neg (by omega)]
        exact p3
      · rw [p4, r5, r4, r3, r2, r1]
      · intro _ x; omega
