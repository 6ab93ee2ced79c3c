/-! ===== the law begins: its loops ===== -/
def BgP (a0 a b : TS) (w : Hp) (n : Nat) (t : List Int32) (A S Q : Nat) : Prop := Bl a0 a b ∧ FeeI b ∧ WT w n t ∧ TP a b t A S Q
set_option maxHeartbeats 1000000 in
theorem bg_87 {a0 : TS} {A S Q : Nat} : ∀ d a b w n t, tZ a 26 0 + d = A → BgP a0 a b w n t A S Q → tZ a 27 0 = 0 → tZ a 28 0 = 0 →
    ∃ a' b' w' n' t', Ru 322 87 [(0, aR (some (96, 0))), (1, aR (some (100, 0))), (2, aR (some (101, 0))), (3, aI 1), (4, aI (Int32.ofNat (tZ a 26 0)))] [] (enc 1 a w) = Ru 322 168 [(0, aR (some (96, 0))), (1, aR (some (100, 0))), (2, aR (some (101, 0))), (3, aI 1), (4, aI 0)] [] (enc 1 a' w') ∧ BgP a0 a' b' w' n' t' A S Q ∧ tZ a' 26 0 = A ∧ tZ a' 27 0 = 0 ∧ tZ a' 28 0 = 0 ∧ w'.2 = w.2
  | 0, a, b, w, n, t, e, ⟨hB, hf, hW, hT⟩, z27, z28 => by
    have g0 := tb_get (a := a) (i := 0) (x := 0) hW rfl (by omega)
    rw [hT.1.1] at g0
    refine ⟨a, b, w, n, t, ?_, ⟨hB, hf, hW, hT⟩, by omega, z27, z28, rfl⟩
    rw [lf_322_87, g0, Option.bind_some, if_pos (by rw [show tZ a 26 0 = A by omega]; exact Int32.le_refl _)]
  | d + 1, a, b, w, n, t, e, ⟨hB, hf, hW, hT⟩, z27, z28 => by
    have hA4 := hT.2.1.1
    have g0 := tb_get (a := a) (i := 0) (x := 0) hW rfl (by omega)
    rw [hT.1.1] at g0
    obtain ⟨w1, f1, W1, r1⟩ := x319 (a := a) hW
    have i3 : imod (Int32.ofNat (nS n / 512)) 3 = Int32.ofNat (nS n / 512 % 3) := imod_n (y := 3) (by have := nx_lt n; omega) (by omega) (by omega)
    have l3 := Nat.mod_lt (nS n / 512) (show 0 < 3 by omega)
    have go : ∀ hi : Nat, hi = 900 ∨ hi = 90000 → ∃ a' b' w' n' t', (cI (Ex 320 [aR (some (100, 0)), aI (0 : Int32), aI (Int32.ofNat hi)] (enc 1 a w1)) (fun x5 h4 =>
        (pa h4 (some (101, 0)) 1000 ((10 : Int32) + Int32.ofNat (tZ a 26 0)) (aI x5)).bind (fun h6 =>
        if (1 : Int32) = 0 then
          Ru 322 87 [(0, aR (some (96, 0))), (1, aR (some (100, 0))), (2, aR (some (101, 0))), (3, aI (0 : Int32)), (4, aI (Int32.ofNat (tZ a 26 0) + (1 : Int32)))] [] h6
        else
          (gaI h6 (some (101, 0)) 1000 ((10 : Int32) + Int32.ofNat (tZ a 26 0))).bind (fun x7 =>
          cI (Ex 321 [aR (some (96, 0)), aI (0 : Int32), aI x7, aI (0 : Int32), aI (0 : Int32), aI (0 : Int32)] h6) (fun x9 h8 =>
          if x9 = Int32.ofNat (tZ a 26 0) then
            Ru 322 87 [(0, aR (some (96, 0))), (1, aR (some (100, 0))), (2, aR (some (101, 0))), (3, aI (1 : Int32)), (4, aI (Int32.ofNat (tZ a 26 0) + (1 : Int32)))] [] h8
          else
            Ru 322 87 [(0, aR (some (96, 0))), (1, aR (some (100, 0))), (2, aR (some (101, 0))), (3, aI (0 : Int32)), (4, aI (Int32.ofNat (tZ a 26 0) + (1 : Int32)))] [] h8) xT))) xT) = Ru 322 168 [(0, aR (some (96, 0))), (1, aR (some (100, 0))), (2, aR (some (101, 0))), (3, aI 1), (4, aI 0)] [] (enc 1 a' w') ∧ BgP a0 a' b' w' n' t' A S Q ∧ tZ a' 26 0 = A ∧ tZ a' 27 0 = 0 ∧ tZ a' 28 0 = 0 ∧ w'.2 = w.2 := by
      intro hi hhi
      obtain ⟨w2, f2, W2, r2⟩ := x320 (a := a) (l := 0) (k := hi) (lo := 0) (hi := Int32.ofNat hi) W1 rfl rfl (by omega) (by omega)
      have lv := Nat.mod_lt (nS (nS n) / 512) (show 0 < hi - 0 + 1 by omega)
      obtain ⟨p3, W3, r3⟩ := tb_set (a := a) (i := 10 + tZ a 26 0) (x := (10 : Int32) + Int32.ofNat (tZ a 26 0)) (v := Int32.ofNat (0 + nS (nS n) / 512 % (hi - 0 + 1))) W2 (ix_add 10) (by omega)
      have g10 := tb_get (a := a) (i := 10 + tZ a 26 0) (x := (10 : Int32) + Int32.ofNat (tZ a 26 0)) W3 (ix_add 10) (by omega)
      rw [getD_set (by have := hW.2.2.2; omega), if_pos rfl] at g10
      obtain ⟨a1, b1, hx, hB1, hf1, y26, y27, y28, hT1⟩ := acc_step (v := 0 + nS (nS n) / 512 % (hi - 0 + 1)) hB hf (by omega) hT hW.2.2.2 (by omega) z27 z28
      obtain ⟨a', b', w', n', t', s1, s2, s3, s4, s5, s6⟩ := bg_87 d a1 b1 _ _ _ (by omega) ⟨hB1, hf1, W3, hT1⟩ y27 y28
      refine ⟨a', b', w', n', t', ?_, s2, s3, s4, s5, s6.trans (r3.trans (r2.trans r1))⟩
      rw [f2, cI_v, p3, Option.bind_some, if_neg (by decide), g10, Option.bind_some, hx, cI_v, if_pos rfl, o_s, ← y26]
      exact s1
    have e0 : (Int32.ofNat (nS n / 512 % 3) = 0) ↔ nS n / 512 % 3 = 0 := eq_ofn (c := 0) (by omega) (by omega)
    rw [lf_322_87, g0, Option.bind_some, if_neg (fun q => by have := (le_ofn (by omega) (by omega)).mp q; omega), f1, cI_v, i3]
    by_cases e3 : nS n / 512 % 3 = 0
    · rw [if_pos (e0.mpr e3)]
      exact go 900 (Or.inl rfl)
    · rw [if_neg (fun q => e3 (e0.mp q))]
      exact go 90000 (Or.inr rfl)
set_option maxHeartbeats 1000000 in
theorem bg_168 {a0 : TS} {A S Q : Nat} : ∀ d a b w n t, tZ a 27 0 + d = S → BgP a0 a b w n t A S Q → tZ a 26 0 = A → tZ a 28 0 = 0 →
    ∃ a' b' w' n' t', Ru 322 168 [(0, aR (some (96, 0))), (1, aR (some (100, 0))), (2, aR (some (101, 0))), (3, aI 1), (4, aI (Int32.ofNat (tZ a 27 0)))] [] (enc 1 a w) = Ru 322 262 [(0, aR (some (96, 0))), (1, aR (some (100, 0))), (2, aR (some (101, 0))), (3, aI 1), (4, aI 0)] [] (enc 1 a' w') ∧ BgP a0 a' b' w' n' t' A S Q ∧ tZ a' 26 0 = A ∧ tZ a' 27 0 = S ∧ tZ a' 28 0 = 0 ∧ w'.2 = w.2
  | 0, a, b, w, n, t, e, ⟨hB, hf, hW, hT⟩, z26, z28 => by
    have g1 := tb_get (a := a) (i := 1) (x := 1) hW rfl (by omega)
    rw [hT.1.2.1] at g1
    refine ⟨a, b, w, n, t, ?_, ⟨hB, hf, hW, hT⟩, z26, by omega, z28, rfl⟩
    rw [lf_322_168, g1, Option.bind_some, if_pos (by rw [show tZ a 27 0 = S by omega]; exact Int32.le_refl _)]
  | d + 1, a, b, w, n, t, e, ⟨hB, hf, hW, hT⟩, z26, z28 => by
    have hS3 := hT.2.1.2.1
    have hlen := hW.2.2.2
    have g1 := tb_get (a := a) (i := 1) (x := 1) hW rfl (by omega)
    rw [hT.1.2.1] at g1
    obtain ⟨w1, f1, W1, r1⟩ := x319 (a := a) hW
    have i3 : imod (Int32.ofNat (nS n / 512)) 3 = Int32.ofNat (nS n / 512 % 3) := imod_n (y := 3) (by have := nx_lt n; omega) (by omega) (by omega)
    have l3 := Nat.mod_lt (nS n / 512) (show 0 < 3 by omega)
    have e0 : (Int32.ofNat (nS n / 512 % 3) = 0) ↔ nS n / 512 % 3 = 0 := eq_ofn (c := 0) (by omega) (by omega)
    -- with the floor in the table
    have go : ∀ (v : Nat) (W : Hp) (m : Nat), v ≤ 3000 → WT W m t → W.2 = w.2 → ∃ a' b' w' n' t', ((pa (enc 1 a W) (some (101, 0)) 1000 ((40 : Int32) + Int32.ofNat (tZ a 27 0)) (aI (Int32.ofNat v))).bind (fun h4 =>
        if (1 : Int32) = 0 then
          Ru 322 168 [(0, aR (some (96, 0))), (1, aR (some (100, 0))), (2, aR (some (101, 0))), (3, aI (0 : Int32)), (4, aI (Int32.ofNat (tZ a 27 0) + (1 : Int32)))] [] h4
        else
          (gaI h4 (some (101, 0)) 1000 ((40 : Int32) + Int32.ofNat (tZ a 27 0))).bind (fun x5 =>
          cI (Ex 319 [aR (some (100, 0))] h4) (fun x7 h6 =>
          if (imod x7 (2 : Int32)) = 0 then
            cI (Ex 321 [aR (some (96, 0)), aI (1 : Int32), aI x5, aI (0 : Int32), aI (0 : Int32), aI (0 : Int32)] h6) (fun x9 h8 =>
            if x9 = Int32.ofNat (tZ a 27 0) then
              Ru 322 168 [(0, aR (some (96, 0))), (1, aR (some (100, 0))), (2, aR (some (101, 0))), (3, aI (1 : Int32)), (4, aI (Int32.ofNat (tZ a 27 0) + (1 : Int32)))] [] h8
            else
              Ru 322 168 [(0, aR (some (96, 0))), (1, aR (some (100, 0))), (2, aR (some (101, 0))), (3, aI (0 : Int32)), (4, aI (Int32.ofNat (tZ a 27 0) + (1 : Int32)))] [] h8) xT
          else
            cI (Ex 320 [aR (some (100, 0)), aI (1 : Int32), aI (5 : Int32)] h6) (fun x11 h10 =>
            cI (Ex 321 [aR (some (96, 0)), aI (1 : Int32), aI x5, aI x11, aI (0 : Int32), aI (0 : Int32)] h10) (fun x13 h12 =>
            if x13 = Int32.ofNat (tZ a 27 0) then
              Ru 322 168 [(0, aR (some (96, 0))), (1, aR (some (100, 0))), (2, aR (some (101, 0))), (3, aI (1 : Int32)), (4, aI (Int32.ofNat (tZ a 27 0) + (1 : Int32)))] [] h12
            else
              Ru 322 168 [(0, aR (some (96, 0))), (1, aR (some (100, 0))), (2, aR (some (101, 0))), (3, aI (0 : Int32)), (4, aI (Int32.ofNat (tZ a 27 0) + (1 : Int32)))] [] h12) xT) xT) xT))) = Ru 322 262 [(0, aR (some (96, 0))), (1, aR (some (100, 0))), (2, aR (some (101, 0))), (3, aI 1), (4, aI 0)] [] (enc 1 a' w') ∧ BgP a0 a' b' w' n' t' A S Q ∧ tZ a' 26 0 = A ∧ tZ a' 27 0 = S ∧ tZ a' 28 0 = 0 ∧ w'.2 = w.2 := by
      intro v W m hv hWT hW2
      obtain ⟨p3, W3, r3⟩ := tb_set (a := a) (i := 40 + tZ a 27 0) (x := (40 : Int32) + Int32.ofNat (tZ a 27 0)) (v := Int32.ofNat v) hWT (ix_add 40) (by omega)
      have g40 := tb_get (a := a) (i := 40 + tZ a 27 0) (x := (40 : Int32) + Int32.ofNat (tZ a 27 0)) W3 (ix_add 40) (by omega)
      rw [getD_set (by omega), if_pos rfl] at g40
      obtain ⟨w4, f4, W4, r4⟩ := x319 (a := a) W3
      have i2 : imod (Int32.ofNat (nS m / 512)) 2 = Int32.ofNat (nS m / 512 % 2) := imod_n (y := 2) (by have := nx_lt m; omega) (by omega) (by omega)
      have l2 := Nat.mod_lt (nS m / 512) (show 0 < 2 by omega)
      have e2 : (Int32.ofNat (nS m / 512 % 2) = 0) ↔ nS m / 512 % 2 = 0 := eq_ofn (c := 0) (by omega) (by omega)
      rw [p3, Option.bind_some, if_neg (by decide), g40, Option.bind_some, f4, cI_v, i2]
      by_cases q : nS m / 512 % 2 = 0
      · obtain ⟨a1, b1, hx, hB1, hf1, y26, y27, y28, hT1⟩ := shp_step (p0 := v) (p1 := 0) hB hf (by omega) hT hlen (by omega) (by omega) z26 z28
        obtain ⟨a', b', w', n', t', s1, s2, s3, s4, s5, s6⟩ := bg_168 d a1 b1 _ _ _ (by omega) ⟨hB1, hf1, W4, hT1⟩ y26 y28
        refine ⟨a', b', w', n', t', ?_, s2, s3, s4, s5, s6.trans (r4.trans (r3.trans hW2))⟩
        have hx' := hx w4
        rw [if_pos (e2.mpr q)]
        refine Eq.trans ?_ s1
        rw [y27, ← o_s]
        have : (0 : Int32) = Int32.ofNat 0 := rfl
        rw [show Ex 321 [aR (some (96, 0)), aI (1 : Int32), aI (Int32.ofNat v), aI (0 : Int32), aI (0 : Int32), aI (0 : Int32)] (enc 1 a w4) = some (.inl (some (aI (Int32.ofNat (tZ a 27 0)))), enc 1 a1 w4) from hx', cI_v, if_pos rfl]
      · obtain ⟨w5, f5, W5, r5⟩ := x320 (a := a) (l := 1) (k := 5) (lo := 1) (hi := 5) W4 rfl rfl (by omega) (by omega)
        have lv := Nat.mod_lt (nS (nS m) / 512) (show 0 < 5 - 1 + 1 by omega)
        obtain ⟨a1, b1, hx, hB1, hf1, y26, y27, y28, hT1⟩ := shp_step (p0 := v) (p1 := 1 + nS (nS m) / 512 % (5 - 1 + 1)) hB hf (by omega) hT hlen (by omega) (by omega) z26 z28
        obtain ⟨a', b', w', n', t', s1, s2, s3, s4, s5, s6⟩ := bg_168 d a1 b1 _ _ _ (by omega) ⟨hB1, hf1, W5, hT1⟩ y26 y28
        refine ⟨a', b', w', n', t', ?_, s2, s3, s4, s5, s6.trans (r5.trans (r4.trans (r3.trans hW2)))⟩
        rw [if_neg (fun z => q (e2.mp z)), f5, cI_v, hx w5, cI_v, if_pos rfl, o_s, ← y27]
        exact s1
    rw [lf_322_168, g1, Option.bind_some, if_neg (fun q => by have := (le_ofn (by omega) (by omega)).mp q; omega), f1, cI_v, i3]
    by_cases e3 : nS n / 512 % 3 = 0
    · rw [if_pos (e0.mpr e3)]
      exact go 0 w1 _ (by omega) W1 r1
    · obtain ⟨w2, f2, W2, r2⟩ := x320 (a := a) (l := 10) (k := 3000) (lo := 10) (hi := 3000) W1 rfl rfl (by omega) (by omega)
      have lv := Nat.mod_lt (nS (nS n) / 512) (show 0 < 3000 - 10 + 1 by omega)
      rw [if_neg (fun q => e3 (e0.mp q)), f2, cI_v]
      exact go _ w2 _ (by omega) W2 (r2.trans r1)
set_option maxHeartbeats 1000000 in
theorem bg_262 {a0 : TS} {A S Q : Nat} : ∀ d a b w n t, tZ a 28 0 + d = Q → BgP a0 a b w n t A S Q → tZ a 26 0 = A → tZ a 27 0 = S →
    ∃ a' b' w' n' t', Ru 322 262 [(0, aR (some (96, 0))), (1, aR (some (100, 0))), (2, aR (some (101, 0))), (3, aI 1), (4, aI (Int32.ofNat (tZ a 28 0)))] [] (enc 1 a w) = some (.inl (some (aI 1)), enc 1 a' w') ∧ BgP a0 a' b' w' n' t' A S Q ∧ tZ a' 26 0 = A ∧ tZ a' 27 0 = S ∧ tZ a' 28 0 = Q ∧ w'.2 = w.2
  | 0, a, b, w, n, t, e, ⟨hB, hf, hW, hT⟩, z26, z27 => by
    have g2 := tb_get (a := a) (i := 2) (x := 2) hW rfl (by omega)
    rw [hT.1.2.2.1] at g2
    refine ⟨a, b, w, n, t, ?_, ⟨hB, hf, hW, hT⟩, z26, z27, by omega, rfl⟩
    rw [lf_322_262, g2, Option.bind_some, if_pos (by rw [show tZ a 28 0 = Q by omega]; exact Int32.le_refl _), gz1]
  | d + 1, a, b, w, n, t, e, ⟨hB, hf, hW, hT⟩, z26, z27 => by
    have hb := hT.2.1
    have hlen := hW.2.2.2
    have g2 := tb_get (a := a) (i := 2) (x := 2) hW rfl (by omega)
    rw [hT.1.2.2.1] at g2
    obtain ⟨w1, f1, W1, r1⟩ := x319 (a := a) hW
    have g0 := tb_get (a := a) (i := 0) (x := 0) W1 rfl (by omega)
    rw [hT.1.1] at g0
    have zA : ¬ Int32.ofNat A = 0 := fun q => by have := o_inj (n := A) (k := 0) (by omega) (by omega) q; omega
    have iA : imod (Int32.ofNat (nS n / 512)) (Int32.ofNat A) = Int32.ofNat (nS n / 512 % A) := imod_n (by have := nx_lt n; omega) (by omega) (by omega)
    have lA : nS n / 512 % A < A := Nat.mod_lt _ (by omega)
    obtain ⟨p2, W2, r2⟩ := tb_set (a := a) (i := 20 + tZ a 28 0) (x := (20 : Int32) + Int32.ofNat (tZ a 28 0)) (v := Int32.ofNat (nS n / 512 % A)) W1 (ix_add 20) (by omega)
    obtain ⟨w3, f3, W3, r3⟩ := x320 (a := a) (l := 0) (k := 9999) (lo := 0) (hi := 9999) W2 rfl rfl (by omega) (by omega)
    have l3 := Nat.mod_lt (nS (nS n) / 512) (show 0 < 9999 - 0 + 1 by omega)
    obtain ⟨p4, W4, r4⟩ := tb_set (a := a) (i := 30 + tZ a 28 0) (x := (30 : Int32) + Int32.ofNat (tZ a 28 0)) (v := Int32.ofNat (0 + nS (nS n) / 512 % (9999 - 0 + 1))) W3 (ix_add 30) (by omega)
    have g20 := tb_get (a := a) (i := 20 + tZ a 28 0) (x := (20 : Int32) + Int32.ofNat (tZ a 28 0)) W4 (ix_add 20) (by omega)
    rw [getD_set (by rw [List.length_set]; omega), if_neg (by omega), getD_set (by omega), if_pos rfl] at g20
    have g30 := tb_get (a := a) (i := 30 + tZ a 28 0) (x := (30 : Int32) + Int32.ofNat (tZ a 28 0)) W4 (ix_add 30) (by omega)
    rw [getD_set (by rw [List.length_set]; omega), if_pos rfl] at g30
    obtain ⟨w5, f5, W5, r5⟩ := x320 (a := a) (l := 0) (k := 9) (lo := 0) (hi := 9) W4 rfl rfl (by omega) (by omega)
    obtain ⟨w6, f6, W6, r6⟩ := x320 (a := a) (l := 0) (k := 9000) (lo := 0) (hi := 9000) W5 rfl rfl (by omega) (by omega)
    have l5 := Nat.mod_lt (nS (nS (nS n)) / 512) (show 0 < 9 - 0 + 1 by omega)
    have l6 := Nat.mod_lt (nS (nS (nS (nS n))) / 512) (show 0 < 9000 - 0 + 1 by omega)
    obtain ⟨a1, b1, hx, hk, hB1, hf1, y26, y27, y28, hT1⟩ := crd_step (ac := nS n / 512 % A) (pin := 0 + nS (nS n) / 512 % (9999 - 0 + 1)) (p2 := 0 + nS (nS (nS n)) / 512 % (9 - 0 + 1)) (p3 := 0 + nS (nS (nS (nS n))) / 512 % (9000 - 0 + 1)) hB hf (by omega) hT hlen lA (by omega) (by omega) (by omega) z26 z27
    obtain ⟨a', b', w', n', t', s1, s2, s3, s4, s5, s6⟩ := bg_262 d a1 b1 _ _ _ (by omega) ⟨hB1, hf1, W6, hT1⟩ y26 y27
    refine ⟨a', b', w', n', t', ?_, s2, s3, s4, s5, s6.trans (r6.trans (r5.trans (r4.trans (r3.trans (r2.trans r1)))))⟩
    rw [lf_322_262, g2, Option.bind_some, if_neg (fun q => by have := (le_ofn (by omega) (by omega)).mp q; omega), f1, cI_v, g0, Option.bind_some, if_neg zA, iA, p2, Option.bind_some, f3, cI_v, p4, Option.bind_some, if_neg (by decide), g20, Option.bind_some, g30, Option.bind_some, f5, cI_v, f6, cI_v, hx, cI_v, if_pos rfl, hk, cI_v, x323, cL_v, if_pos rfl, o_s, ← y28]
    exact s1
