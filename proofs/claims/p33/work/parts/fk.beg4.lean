/-! ===== the law begins: the whole ===== -/
theorem bg_2 {a : TS} {n : Nat} : ∀ d k w t, k + d = 60 → WT w n t → (∀ j, t.getD j 0 = 0) →
    ∃ w' t', Ru 322 2 [(0, aR (some (96, 0))), (1, aR (some (100, 0))), (2, aR (some (101, 0))), (3, aI (Int32.ofNat k))] [] (enc 1 a w) = Ru 322 2 [(0, aR (some (96, 0))), (1, aR (some (100, 0))), (2, aR (some (101, 0))), (3, aI 60)] [] (enc 1 a w') ∧ WT w' n t' ∧ (∀ j, t'.getD j 0 = 0) ∧ w'.2 = w.2
  | 0, k, w, t, e, hW, h0 => ⟨w, t, by rw [show k = 60 by omega]; rfl, hW, h0, rfl⟩
  | d + 1, k, w, t, e, hW, h0 => by
    obtain ⟨p1, W1, r1⟩ := tb_set (a := a) (i := k) (x := Int32.ofNat k) (v := 0) hW rfl (by omega)
    obtain ⟨w', t', s1, s2, s3, s4⟩ := bg_2 (a := a) d (k + 1) _ _ (by omega) W1 (fun j => by
      rw [getD_set (by have := hW.2.2.2; omega)]
      split
      · rfl
      · exact h0 j)
    refine ⟨w', t', ?_, s2, s3, s4.trans r1⟩
    rw [lf_322_2, tb_len hW, Option.bind_some, if_neg (fun q => by have := (le_ofn (k := k) (c := 60) (by omega) (by omega)).mp q; omega), p1, Option.bind_some, o_s]
    exact s1
set_option maxHeartbeats 2000000 in
theorem x322 {a0 a b : TS} {w : Hp} {n : Nat} {t : List Int32} (hB : Bl a0 a b) (h100 : tI b 97 0 7 = 100) (z26 : tZ a 26 0 = 0) (z27 : tZ a 27 0 = 0) (z28 : tZ a 28 0 = 0) (hW : WT w n t) (h0 : ∀ j, t.getD j 0 = 0) :
    ∃ a' b' w' n' t', Ex 322 [aR (some (96, 0)), aR (some (100, 0)), aR (some (101, 0))] (enc 1 a w) = some (.inl (some (aI 1)), enc 1 a' w') ∧ IL a0 a' b' 0 0 0 t' ∧ WT w' n' t' ∧ w'.2 = w.2 := by
  obtain ⟨w0, t0, s0, W0, h0', r0⟩ := bg_2 (a := a) 60 0 w t (by omega) hW h0
  obtain ⟨w1, f1, W1, r1⟩ := x320 (a := a) (l := 1) (k := 4) (lo := 1) (hi := 4) W0 rfl rfl (by omega) (by omega)
  have l1 := Nat.mod_lt (nS n / 512) (show 0 < 4 - 1 + 1 by omega)
  obtain ⟨p1, V1, q1⟩ := tb_set (a := a) (i := 0) (x := 0) (v := Int32.ofNat (1 + nS n / 512 % (4 - 1 + 1))) W1 rfl (by omega)
  obtain ⟨w2, f2, W2, r2⟩ := x320 (a := a) (l := 1) (k := 3) (lo := 1) (hi := 3) V1 rfl rfl (by omega) (by omega)
  have l2 := Nat.mod_lt (nS (nS n) / 512) (show 0 < 3 - 1 + 1 by omega)
  obtain ⟨p2, V2, q2⟩ := tb_set (a := a) (i := 1) (x := 1) (v := Int32.ofNat (1 + nS (nS n) / 512 % (3 - 1 + 1))) W2 rfl (by omega)
  obtain ⟨w3, f3, W3, r3⟩ := x320 (a := a) (l := 1) (k := 5) (lo := 1) (hi := 5) V2 rfl rfl (by omega) (by omega)
  have l3 := Nat.mod_lt (nS (nS (nS n)) / 512) (show 0 < 5 - 1 + 1 by omega)
  obtain ⟨p3, V3, q3⟩ := tb_set (a := a) (i := 2) (x := 2) (v := Int32.ofNat (1 + nS (nS (nS n)) / 512 % (5 - 1 + 1))) W3 rfl (by omega)
  obtain ⟨w4, f4, W4, r4⟩ := x320 (a := a) (l := 0) (k := 3000) (lo := 0) (hi := 3000) V3 rfl rfl (by omega) (by omega)
  have l4 := Nat.mod_lt (nS (nS (nS (nS n))) / 512) (show 0 < 3000 - 0 + 1 by omega)
  obtain ⟨w5, f5, W5, r5⟩ := x320 (a := a) (l := 0) (k := 500) (lo := 0) (hi := 500) W4 rfl rfl (by omega) (by omega)
  have l5 := Nat.mod_lt (nS (nS (nS (nS (nS n)))) / 512) (show 0 < 500 - 0 + 1 by omega)
  obtain ⟨w6, f6, W6, r6⟩ := x320 (a := a) (l := 1) (k := 5) (lo := 1) (hi := 5) W5 rfl rfl (by omega) (by omega)
  have l6 := Nat.mod_lt (nS (nS (nS (nS (nS (nS n))))) / 512) (show 0 < 5 - 1 + 1 by omega)
  obtain ⟨a1, b1, hx, hC1, hw1, ca, cb, e7⟩ := oc_house (n := 1 + nS (nS (nS (nS (nS (nS n))))) / 512 % (5 - 1 + 1)) hB.1 (inR_n (v := 0 + nS (nS (nS (nS n))) / 512 % (3000 - 0 + 1)) (hi := 20000) (by omega) (by omega)) (inR_n (v := 0 + nS (nS (nS (nS (nS n)))) / 512 % (500 - 0 + 1)) (hi := 500) (by omega) (by omega)) (by omega) (by omega)
  have y26 : tZ a1 26 0 = 0 := (dZ ca (S := [26]) (P := []) (s := 26) (by decide) (by simp) 0).trans z26
  have y27 : tZ a1 27 0 = 0 := (dZ ca (S := [27]) (P := []) (s := 27) (by decide) (by simp) 0).trans z27
  have y28 : tZ a1 28 0 = 0 := (dZ ca (S := [28]) (P := []) (s := 28) (by decide) (by simp) 0).trans z28
  have hm := hB.2.2.1.2.2.2.2
  have hB1 : Bl a0 a1 b1 := Bl_c hB hC1 hw1 ca cb (by decide) (by decide) (by decide) (groQ_c cb (by decide)) (by
    rw [y26, dL cb (S := []) (P := [(91, 8)]) (s := 91) (k := 8) (by decide) (by simp) 0, ← hm, z26]
    rfl)
  have hf1 : FeeI b1 := by
    unfold FeeI
    rw [e7, Int32.toInt_ofNat_of_lt (by omega)]
    omega
  have hlen := W0.2.2.2
  generalize hA : 1 + nS n / 512 % (4 - 1 + 1) = A at *
  generalize hS : 1 + nS (nS n) / 512 % (3 - 1 + 1) = S at *
  generalize hQ : 1 + nS (nS (nS n)) / 512 % (5 - 1 + 1) = Q at *
  have g : ∀ j, (((t0.set 0 (Int32.ofNat A)).set 1 (Int32.ofNat S)).set 2 (Int32.ofNat Q)).getD j 0 = if j = 2 then Int32.ofNat Q else if j = 1 then Int32.ofNat S else if j = 0 then Int32.ofNat A else 0 := fun j => by
    rw [getD_set (by rw [List.length_set, List.length_set]; omega), getD_set (by rw [List.length_set]; omega), getD_set (by omega), h0']
  have hT1 : TP a1 b1 (((t0.set 0 (Int32.ofNat A)).set 1 (Int32.ofNat S)).set 2 (Int32.ofNat Q)) A S Q := by
    refine ⟨⟨by rw [g]; rfl, by rw [g]; rfl, by rw [g]; rfl, by rw [g]; rfl, by rw [g]; rfl⟩, ⟨by omega, by omega, by omega⟩, fun u hu => by omega, fun k hk => by omega, fun s hs => by omega, fun j hj => ?_⟩
    rw [g, if_neg (by omega), if_neg (by omega), if_neg (by omega)]
  obtain ⟨a2, b2, w7, n7, t7, k1, B2, u26, u27, u28, rr7⟩ := bg_87 A a1 b1 w6 _ _ (by omega) ⟨hB1, hf1, W6, hT1⟩ y27 y28
  obtain ⟨a3, b3, w8, n8, t8, k2, B3, v26, v27, v28, rr8⟩ := bg_168 S a2 b2 w7 _ _ (by omega) B2 u26 u28
  obtain ⟨a4, b4, w9, n9, t9, k3, ⟨B4, F4, W9, T9⟩, x26, x27, x28, rr9⟩ := bg_262 Q a3 b3 w8 _ _ (by omega) B3 v26 v27
  rw [y26] at k1
  rw [u27] at k2
  rw [v28] at k3
  have rW : w6.2 = w.2 := r6.trans (r5.trans (r4.trans (q3.trans (r3.trans (q2.trans (r2.trans (q1.trans (r1.trans r0))))))))
  refine ⟨a4, b4, w9, n9, t9, ?_, IL_0 B4 F4 (by rw [x26, x27, x28]; exact T9), W9, rr9.trans (rr8.trans (rr7.trans rW))⟩
  refine (X_sl (by decide +kernel) rfl).trans ((lf_322_0 ..).trans ?_)
  refine Eq.trans s0 ?_
  rw [lf_322_2, tb_len W0, Option.bind_some, if_pos (Int32.le_refl _), f1, cI_v, p1, Option.bind_some, f2, cI_v, p2, Option.bind_some, f3, cI_v, p3, Option.bind_some, f4, cI_v, f5, cI_v, f6, cI_v, dn_3 hx, cI_v, if_pos h100]
  exact k1.trans (k2.trans k3)
