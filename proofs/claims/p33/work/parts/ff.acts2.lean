/-! ===== the law's acts ===== -/
theorem gz1 (r : Res) : gz 1 r = r := rfl
def thI (th : Bool) : Int32 := if th = true then 1 else 0
/-- what an act leaves -/
def ActR (a0 a b : TS) (w : Hp) (u T L n : Nat) (th : Bool) (r : Res) : Prop := ∃ a' b' w' t' T', r = some (.inl (some (aI 1)), enc 1 a' w') ∧ IL a0 a' b' (u + 1) T' (L + aW n) t' ∧ T' ≤ T + 20 ∧ WT w' (aN th (decide (0 < tZ a 29 0)) n) t' ∧ w'.2 = w.2 ∧ tZ a 29 0 ≤ tZ a' 29 0 ∧ (aKb n = true → 0 < tZ a' 29 0)
theorem aW_0 {n : Nat} (h : nS n / 512 % 22 ≠ 15) : aW n = 0 := by
  unfold aW aWf
  rw [if_neg (fun q => h q.1)]
theorem aK_0 {n : Nat} (h : 7 ≤ nS n / 512 % 22) (P : Prop) : aKb n = true → P := by
  intro q
  unfold aKb at q
  rw [Bool.and_eq_true] at q
  have h1 := q.1
  rw [Bool.not_eq_true'] at h1
  have : Nat.ble 7 (nS n / 512 % 22) = true := Nat.ble_eq_true_of_le h
  rw [nS_rS] at this
  rw [this] at h1
  cases h1
set_option maxHeartbeats 8000000 in
theorem x329 {a0 a b : TS} {w : Hp} {u T L n : Nat} {t : List Int32} (th : Bool) (h : IL a0 a b u T L t) (hu : u + 1 ≤ 71) (hT3 : T + 20 ≤ 3000) (hwt : WT w n t) : ActR a0 a b w u T L n th (Ex 329 [aR (some (96, 0)), aR (some (100, 0)), aR (some (101, 0)), aI (thI th)] (enc 1 a w)) := by
  have hI := h
  obtain ⟨put, D, k, ⟨h1, h2, h3, h4⟩, hC, hT, hM, hL, hK, hf, hF, hTL, hN, hW⟩ := hI
  obtain ⟨⟨q0, q1, q2, q3, q4⟩, ⟨sA, sS, sC⟩, s3, s4, s5, s6⟩ := hTL
  have hP2 := (r_P' hC.1.1).1
  obtain ⟨w1, f1, W1, r1⟩ := x319 (a := a) hwt
  obtain ⟨w2, f2, W2, r2⟩ := x319 (a := a) W1
  have g1 := tb_get (a := a) (i := 1) (x := 1) W2 rfl (by omega)
  rw [q1] at g1
  have z1 : ¬ Int32.ofNat (tZ a 27 0) = 0 := fun q => by have := o_inj (n := tZ a 27 0) (k := 0) (by omega) (by omega) q; omega
  have z0 : ¬ Int32.ofNat (tZ a 26 0) = 0 := fun q => by have := o_inj (n := tZ a 26 0) (k := 0) (by omega) (by omega) q; omega
  have z2 : ¬ Int32.ofNat (tZ a 28 0) = 0 := fun q => by have := o_inj (n := tZ a 28 0) (k := 0) (by omega) (by omega) q; omega
  have im : ∀ x c, 0 < c → c < 1000 → imod (Int32.ofNat (nS x / 512)) (Int32.ofNat c) = Int32.ofNat (nS x / 512 % c) := fun x c c0 c1 => imod_n (by have := nx_lt x; omega) (by omega) c0
  have i22 : imod (Int32.ofNat (nS n / 512)) 22 = Int32.ofNat (nS n / 512 % 22) := im n 22 (by omega) (by omega)
  have ish : imod (Int32.ofNat (nS (nS n) / 512)) (Int32.ofNat (tZ a 27 0)) = Int32.ofNat (nS (nS n) / 512 % tZ a 27 0) := im (nS n) _ (by omega) (by omega)
  have hshl : nS (nS n) / 512 % tZ a 27 0 < tZ a 27 0 := Nat.mod_lt _ (by omega)
  have m22 : nS n / 512 % 22 < 22 := Nat.mod_lt _ (by omega)
  have le : ∀ c, c < 1000 → ((Int32.ofNat c ≤ Int32.ofNat (nS n / 512 % 22)) ↔ c ≤ nS n / 512 % 22) := fun c hc => le_ofn (by omega) hc
  have eq : ∀ c, c < 1000 → ((Int32.ofNat (nS n / 512 % 22) = Int32.ofNat c) ↔ nS n / 512 % 22 = c) := fun c hc => eq_ofn (by omega) hc
  have start := (X_sl (k := 329) (h := enc 1 a w) (as := [aR (some (96, 0)), aR (some (100, 0)), aR (some (101, 0)), aI (thI th)]) (by decide +kernel) rfl).trans (lf_329_0 ..)
  rw [f1, cI_v, f2, cI_v, g1, Option.bind_some, if_neg z1, i22, ish] at start
  have c7 : ((7 : Int32) ≤ Int32.ofNat (nS n / 512 % 22)) ↔ 7 ≤ nS n / 512 % 22 := le 7 (by omega)
  have c10 : ((10 : Int32) ≤ Int32.ofNat (nS n / 512 % 22)) ↔ 10 ≤ nS n / 512 % 22 := le 10 (by omega)
  have c15 : ((15 : Int32) ≤ Int32.ofNat (nS n / 512 % 22)) ↔ 15 ≤ nS n / 512 % 22 := le 15 (by omega)
  have d15 : (Int32.ofNat (nS n / 512 % 22) = (15 : Int32)) ↔ nS n / 512 % 22 = 15 := eq 15 (by omega)
  have d16 : (Int32.ofNat (nS n / 512 % 22) = (16 : Int32)) ↔ nS n / 512 % 22 = 16 := eq 16 (by omega)
  have d17 : (Int32.ofNat (nS n / 512 % 22) = (17 : Int32)) ↔ nS n / 512 % 22 = 17 := eq 17 (by omega)
  have d18 : (Int32.ofNat (nS n / 512 % 22) = (18 : Int32)) ↔ nS n / 512 % 22 = 18 := eq 18 (by omega)
  have d19 : (Int32.ofNat (nS n / 512 % 22) = (19 : Int32)) ↔ nS n / 512 % 22 = 19 := eq 19 (by omega)
  have d20 : (Int32.ofNat (nS n / 512 % 22) = (20 : Int32)) ↔ nS n / 512 % 22 = 20 := eq 20 (by omega)
  rw [start]
  clear start
  have rr : ∀ x, rS x = nS x := fun _ => rfl
  generalize hsh : nS (nS n) / 512 % tZ a 27 0 = sh at *
  generalize hany : decide (0 < tZ a 29 0) = any
  by_cases m7 : 7 ≤ nS n / 512 % 22
  · rw [if_pos (c7.mpr m7)]
    by_cases m10 : 10 ≤ nS n / 512 % 22
    · rw [if_pos (c10.mpr m10)]
      by_cases m15 : 15 ≤ nS n / 512 % 22
      · rw [if_pos (c15.mpr m15)]
        obtain ⟨w3, f3, W3, r3⟩ := x319 (a := a) W2
        have i32' : imod (Int32.ofNat (nS (nS (nS n)) / 512)) 2 = Int32.ofNat (nS (nS (nS n)) / 512 % 2) := im (nS (nS n)) 2 (by omega) (by omega)
        have i42 : imod (Int32.ofNat (nS (nS (nS (nS n))) / 512)) 2 = Int32.ofNat (nS (nS (nS (nS n))) / 512 % 2) := im (nS (nS (nS n))) 2 (by omega) (by omega)
        have i43 : imod (Int32.ofNat (nS (nS (nS (nS n))) / 512)) 3 = Int32.ofNat (nS (nS (nS (nS n))) / 512 % 3) := im (nS (nS (nS n))) 3 (by omega) (by omega)
        have i34 : imod (Int32.ofNat (nS (nS (nS n)) / 512)) 4 = Int32.ofNat (nS (nS (nS n)) / 512 % 4) := im (nS (nS n)) 4 (by omega) (by omega)
        have l2 := Nat.mod_lt (nS (nS (nS n)) / 512) (show 0 < 2 by omega)
        have l42 := Nat.mod_lt (nS (nS (nS (nS n))) / 512) (show 0 < 2 by omega)
        have l43 := Nat.mod_lt (nS (nS (nS (nS n))) / 512) (show 0 < 3 by omega)
        have l34 := Nat.mod_lt (nS (nS (nS n)) / 512) (show 0 < 4 by omega)
        by_cases k15 : nS n / 512 % 22 = 15
        · -- faults
          rw [if_pos (d15.mpr k15)]
          obtain ⟨w4, f4, W4, r4⟩ := x319 (a := a) W3
          obtain ⟨w5, f5, W5, r5⟩ := x320 (a := a) (l := 0) (k := 3) (lo := 0) (hi := 3) W4 rfl rfl (by omega) (by omega)
          have l5 := Nat.mod_lt (nS (nS (nS (nS (nS n)))) / 512) (show 0 < 3 - 0 + 1 by omega)
          obtain ⟨a', b', hx, hC', hw', ca, cb, v48, hv⟩ := oc_faults hC (by omega) hshl (show nS (nS (nS n)) / 512 % 2 ≤ 1 by omega) (show nS (nS (nS (nS n))) / 512 % 3 ≤ 2 by omega) (show 0 + nS (nS (nS (nS (nS n)))) / 512 % (3 - 0 + 1) ≤ 100 by omega)
          have hI1 := IL_faults h hu hC' hw' ca cb hshl (by omega) (by omega) (by omega) v48 hv
          have z29 : tZ a' 29 0 = tZ a 29 0 := dZ ca (S := [29]) (P := []) (s := 29) (by decide) (by simp) 0
          have hb := hF.2 (2 * sh + nS (nS (nS n)) / 512 % 2) (nS (nS (nS (nS n))) / 512 % 3) (by omega) (by omega)
          have hpos : ¬ (tI b 48 (2 * sh + nS (nS (nS n)) / 512 % 2) (nS (nS (nS (nS n))) / 512 % 3) + Int32.ofNat (0 + nS (nS (nS (nS (nS n)))) / 512 % (3 - 0 + 1))) < 0 := by
            rw [Int32.lt_iff_toInt_lt, Int32.toInt_add, Int32.toInt_ofNat_of_lt (by omega)]
            have z : (0 : Int32).toInt = 0 := rfl
            rw [z, Int.bmod_eq_of_le (by omega) (by omega)]
            omega
          have hW : aW n = if nS (nS (nS (nS n))) / 512 % 3 = 0 then 0 + nS (nS (nS (nS (nS n)))) / 512 % (3 - 0 + 1) else 0 := by
            unfold aW aWf
            simp only [rr]
            by_cases e : nS (nS (nS (nS n))) / 512 % 3 = 0
            · rw [if_pos ⟨k15, e⟩, if_pos e]
              omega
            · rw [if_neg (fun q => e q.2), if_neg e]
          refine ⟨a', b', w5, t, T, ?_, by rw [hW]; exact hI1, by omega, ?_, r5.trans (r4.trans (r3.trans (r2.trans r1))), Nat.le_of_eq z29.symm, aK_0 m7 _⟩
          · rw [f3, cI_v, f4, cI_v, f5, cI_v, i32', i43, dn_9 hx, cI_v, if_neg hpos]
          · have : aN th any n = nS (nS (nS (nS (nS n)))) := by
              unfold aN
              simp only [rr]
              rw [if_neg (by omega), if_neg (by omega), if_neg (by omega), if_pos k15]
            rw [hany, this]
            exact W5
        · rw [if_neg (fun q => k15 (d15.mp q))]
          have aw := aW_0 k15
          by_cases k16 : nS n / 512 % 22 = 16
          · -- open or closed
            rw [if_pos (d16.mpr k16), f3, cI_v, i32']
            have han : aN th any n = nS (nS (nS n)) := by
              unfold aN
              simp only [rr]
              rw [if_neg (by omega), if_neg (by omega), if_neg (by omega), if_neg (by omega), if_pos k16]
            by_cases o1 : nS (nS (nS n)) / 512 % 2 = 1
            · obtain ⟨a1, b1, x1, hC1, hw1, e5, z15, hc⟩ := oc_open hC
              have hI1 := IL_open h hC1 hw1 z15 hc
              have hnt := Nt_le hC.1.2.1 hP2
              have z29 : tZ a1 29 0 = tZ a 29 0 := by
                rcases hc with ⟨-, ea, -⟩ | ⟨-, ca, -, -⟩
                · rw [ea]
                · exact dZ ca (S := [29]) (P := []) (s := 29) (by decide) (by simp) 0
              have n9 := qn (w := w3) (m := 9) (x := 9) hC1 (by simp) rfl
              have n8 := qn (w := w3) (m := 8) (x := 8) hC1 (by simp) rfl
              have v9 : cnV a1 b1 9 = 1 := e5
              have v8 : cnV a1 b1 8 = 0 := by show Int32.ofNat (tZ a1 15 0) = 0; rw [z15]; rfl
              refine ⟨a1, b1, w3, t, T, ?_, by rw [aw]; exact IL_u hI1 hu, by omega, by rw [hany, han]; exact W3, r3.trans (r2.trans r1), Nat.le_of_eq z29.symm, aK_0 m7 _⟩
              rw [o1, dn_10 (fun z => by rw [if_pos (show Int32.ofNat 1 = 1 from rfl)]; exact x1 z), cI_v, if_neg (o_lt0 (by omega)), n9, cI_v, v9, if_neg (by decide), n8, cI_v, v8, if_pos rfl, lf_329_224]
            · obtain ⟨a1, b1, x1, hC1, hw1, e5, hc⟩ := oc_close hC
              have hI1 := IL_close h hC1 hw1 e5 hc
              have z29 : tZ a1 29 0 = tZ a 29 0 := by
                rcases hc with ⟨-, ea, -⟩ | ⟨-, -, ca, -⟩
                · rw [ea]
                · exact dZ ca (S := [29]) (P := []) (s := 29) (by decide) (by simp) 0
              have n9 := qn (w := w3) (m := 9) (x := 9) hC1 (by simp) rfl
              have v9 : cnV a1 b1 9 = 0 := e5
              have o0 : nS (nS (nS n)) / 512 % 2 = 0 := by omega
              refine ⟨a1, b1, w3, t, T, ?_, by rw [aw]; exact IL_u hI1 hu, by omega, by rw [hany, han]; exact W3, r3.trans (r2.trans r1), Nat.le_of_eq z29.symm, aK_0 m7 _⟩
              rw [o0, dn_10 (fun z => by rw [if_neg (show ¬ Int32.ofNat 0 = 1 by decide)]; exact x1 z), cI_v, if_neg (by decide), n9, cI_v, v9, if_pos rfl, lf_329_224]
          · rw [if_neg (fun q => k16 (d16.mp q))]
            by_cases k17 : nS n / 512 % 22 = 17
            · -- what the issuer tells a card
              rw [if_pos (d17.mpr k17)]
              have g2 := tb_get (a := a) (i := 2) (x := 2) W3 rfl (by omega)
              rw [q2] at g2
              have ic : imod (Int32.ofNat (nS (nS (nS n)) / 512)) (Int32.ofNat (tZ a 28 0)) = Int32.ofNat (nS (nS (nS n)) / 512 % tZ a 28 0) := im (nS (nS n)) _ (by omega) (by omega)
              have lc : nS (nS (nS n)) / 512 % tZ a 28 0 < tZ a 28 0 := Nat.mod_lt _ (by omega)
              obtain ⟨w4, f4, W4, r4⟩ := x319 (a := a) W3
              have han : aN th any n = nS (nS (nS (nS (nS n)))) := by
                unfold aN
                simp only [rr]
                rw [if_neg (by omega), if_neg (by omega), if_neg (by omega), if_neg (by omega), if_neg (by omega), if_pos k17]
              have fin : ∀ hi : Nat, hi = 1 ∨ hi = 3 → ActR a0 a b w u T L n th (Ru 329 264 [] [aI (Int32.ofNat hi), aI 1, aR (some (100, 0)), aI (Int32.ofNat (nS (nS (nS n)) / 512 % tZ a 28 0)), aI 11, aR (some (96, 0))] (enc 1 a w4)) := by
                intro hi hhi
                obtain ⟨w5, f5, W5, r5⟩ := x320 (a := a) (l := 1) (k := hi) (lo := 1) (hi := Int32.ofNat hi) W4 rfl rfl (by omega) (by omega)
                have lv := Nat.mod_lt (nS (nS (nS (nS (nS n)))) / 512) (show 0 < hi - 1 + 1 by omega)
                obtain ⟨v, a', b', hx, hv, hC', hw', ca, cb⟩ := oc_tells (n := 1 + nS (nS (nS (nS (nS n)))) / 512 % (hi - 1 + 1)) hC lc (by omega) (by omega)
                have z29 : tZ a' 29 0 = tZ a 29 0 := dZ ca (S := [29]) (P := []) (s := 29) (by decide) (by simp) 0
                refine ⟨a', b', w5, t, T, ?_, by rw [aw]; exact IL_u (IL_any h hC' hw' ca cb (by decide) (by decide) (by decide) (gro_c ca (by decide)) (by decide) (groQ_c cb (by decide))) hu, by omega, by rw [hany, han]; exact W5, r5.trans (r4.trans (r3.trans (r2.trans r1))), Nat.le_of_eq z29.symm, aK_0 m7 _⟩
                rw [lf_329_264, f5, cI_v, dn_11 hx, cI_v, if_neg (Int32.not_lt.mpr hv)]
              have e0 : (Int32.ofNat (nS (nS (nS (nS n))) / 512 % 3) = 0) ↔ nS (nS (nS (nS n))) / 512 % 3 = 0 := eq_ofn (c := 0) (by omega) (by omega)
              rw [f3, cI_v, g2, Option.bind_some, if_neg z2, f4, cI_v, i43, ic]
              by_cases e3 : nS (nS (nS (nS n))) / 512 % 3 = 0
              · rw [if_pos (e0.mpr e3)]
                exact fin 3 (Or.inr rfl)
              · rw [if_neg (fun q => e3 (e0.mp q))]
                exact fin 1 (Or.inl rfl)
            · rw [if_neg (fun q => k17 (d17.mp q))]
              by_cases k18 : nS n / 512 % 22 = 18
              · -- stolen, frozen
                rw [if_pos (d18.mpr k18), f3, cI_v, i34]
                by_cases f0 : nS (nS (nS n)) / 512 % 4 = 0
                · rw [f0, if_neg (show ¬ (0 : Int32) < Int32.ofNat 0 by decide)]
                  obtain ⟨w4, f4, W4, r4⟩ := x319 (a := a) W3
                  obtain ⟨w5, f5, W5, r5⟩ := x319 (a := a) W4
                  rw [f4, cI_v, i42]
                  by_cases o0 : nS (nS (nS (nS n))) / 512 % 2 = 0
                  · rw [o0, if_pos (show Int32.ofNat 0 = 0 from rfl)]
                    have g2 := tb_get (a := a) (i := 2) (x := 2) W5 rfl (by omega)
                    rw [q2] at g2
                    have ic : imod (Int32.ofNat (nS (nS (nS (nS (nS n)))) / 512)) (Int32.ofNat (tZ a 28 0)) = Int32.ofNat (nS (nS (nS (nS (nS n)))) / 512 % tZ a 28 0) := im (nS (nS (nS (nS n)))) _ (by omega) (by omega)
                    have lc : nS (nS (nS (nS (nS n)))) / 512 % tZ a 28 0 < tZ a 28 0 := Nat.mod_lt _ (by omega)
                    obtain ⟨v, a', b', hx, hv, hC', hw', ca, cb⟩ := oc_stolen hC lc
                    have z29 : tZ a' 29 0 = tZ a 29 0 := dZ ca (S := [29]) (P := []) (s := 29) (by decide) (by simp) 0
                    have han : aN th any n = nS (nS (nS (nS (nS n)))) := by
                      unfold aN
                      simp only [rr]
                      rw [if_neg (by omega), if_neg (by omega), if_neg (by omega), if_neg (by omega), if_neg (by omega), if_neg (by omega), if_pos k18, if_pos f0, if_pos o0]
                    refine ⟨a', b', w5, t, T, ?_, by rw [aw]; exact IL_u (IL_any h hC' hw' ca cb (by decide) (by decide) (by decide) (gro_c ca (by decide)) (by decide) (groQ_c cb (by decide))) hu, by omega, by rw [hany, han]; exact W5, r5.trans (r4.trans (r3.trans (r2.trans r1))), Nat.le_of_eq z29.symm, aK_0 m7 _⟩
                    rw [f5, cI_v, g2, Option.bind_some, if_neg z2, ic, dn_12 hv hx, cI_v, if_neg (by rcases bit01 hv with q | q <;> rw [q] <;> decide), lf_329_355]
                  · rw [if_neg (show ¬ Int32.ofNat (nS (nS (nS (nS n))) / 512 % 2) = 0 from fun q => o0 ((eq_ofn (c := 0) (by omega) (by omega)).mp q))]
                    obtain ⟨w6, f6, W6, r6⟩ := x319 (a := a) W5
                    have g0 := tb_get (a := a) (i := 0) (x := 0) W5 rfl (by omega)
                    rw [q0] at g0
                    have ic : imod (Int32.ofNat (nS (nS (nS (nS (nS n)))) / 512)) (Int32.ofNat (tZ a 26 0)) = Int32.ofNat (nS (nS (nS (nS (nS n)))) / 512 % tZ a 26 0) := im (nS (nS (nS (nS n)))) _ (by omega) (by omega)
                    have i62 : imod (Int32.ofNat (nS (nS (nS (nS (nS (nS n))))) / 512)) 2 = Int32.ofNat (nS (nS (nS (nS (nS (nS n))))) / 512 % 2) := im (nS (nS (nS (nS (nS n))))) 2 (by omega) (by omega)
                    have lc : nS (nS (nS (nS (nS n)))) / 512 % tZ a 26 0 < tZ a 26 0 := Nat.mod_lt _ (by omega)
                    have l6 := Nat.mod_lt (nS (nS (nS (nS (nS (nS n))))) / 512) (show 0 < 2 by omega)
                    have hbw : bitOk (if Int32.ofNat (nS (nS (nS (nS (nS (nS n))))) / 512 % 2) = 1 then (1 : Int32) else 0) = true := by split <;> rfl
                    obtain ⟨v, a', b', hx, hv, hC', hw', ca, cb⟩ := oc_freeze hC lc hbw
                    have z29 : tZ a' 29 0 = tZ a 29 0 := dZ ca (S := [29]) (P := []) (s := 29) (by decide) (by simp) 0
                    have han : aN th any n = nS (nS (nS (nS (nS (nS n))))) := by
                      unfold aN
                      simp only [rr]
                      rw [if_neg (by omega), if_neg (by omega), if_neg (by omega), if_neg (by omega), if_neg (by omega), if_neg (by omega), if_pos k18, if_pos f0, if_neg o0]
                    refine ⟨a', b', w6, t, T, ?_, by rw [aw]; exact IL_u (IL_any h hC' hw' ca cb (by decide) (by decide) (by decide) (gro_c ca (by decide)) (by decide) (groQ_c cb (by decide))) hu, by omega, by rw [hany, han]; exact W6, r6.trans (r5.trans (r4.trans (r3.trans (r2.trans r1)))), Nat.le_of_eq z29.symm, aK_0 m7 _⟩
                    rw [f5, cI_v, g0, Option.bind_some, if_neg z0, f6, cI_v, ic, i62, dn_13 hv hx, cI_v, if_neg (by rcases bit01 hv with q | q <;> rw [q] <;> decide), lf_329_355]
                · have hp : (0 : Int32) < Int32.ofNat (nS (nS (nS n)) / 512 % 4) := Int32.not_le.mp (pos_ofn (by omega) (by omega))
                  rw [if_pos hp, lf_329_355]
                  have han : aN th any n = nS (nS (nS n)) := by
                    unfold aN
                    simp only [rr]
                    rw [if_neg (by omega), if_neg (by omega), if_neg (by omega), if_neg (by omega), if_neg (by omega), if_neg (by omega), if_pos k18, if_neg f0]
                  exact ⟨a, b, w3, t, T, rfl, by rw [aw]; exact IL_u h hu, by omega, by rw [hany, han]; exact W3, r3.trans (r2.trans r1), Nat.le_refl _, aK_0 m7 _⟩
              · rw [if_neg (fun q => k18 (d18.mp q))]
                by_cases k19 : nS n / 512 % 22 = 19
                · rw [if_pos (d19.mpr k19)]
                  obtain ⟨a', b', hx, hI1, z29, e6⟩ := x330 h hu W2
                  have han : aN th any n = nS (nS n) := by
                    unfold aN
                    simp only [rr]
                    rw [if_neg (by omega), if_neg (by omega), if_neg (by omega), if_neg (by omega), if_neg (by omega), if_neg (by omega), if_neg (by omega), if_pos k19]
                  refine ⟨a', b', w2, t, T, ?_, by rw [aw]; exact hI1, by omega, by rw [hany, han]; exact W2, r2.trans r1, Nat.le_of_eq z29.symm, aK_0 m7 _⟩
                  rw [hx, cI_v, gz1]
                · rw [if_neg (fun q => k19 (d19.mp q))]
                  have g3 := tb_get (a := a) (i := 3) (x := 3) W2 rfl (by omega)
                  rw [q3] at g3
                  rw [g3, Option.bind_some]
                  by_cases zP : tZ a 29 0 = 0
                  · rw [if_pos (show Int32.ofNat (tZ a 29 0) = 0 by rw [zP]; rfl)]
                    have han : aN th any n = nS (nS n) := by
                      unfold aN
                      simp only [rr]
                      rw [if_neg (by omega), if_neg (by omega), if_neg (by omega), if_neg (by omega), if_neg (by omega), if_neg (by omega), if_neg (by omega), if_neg (by omega), if_neg (by rw [← hany, zP]; decide)]
                    refine ⟨aC (aC a 1 6) 1 6, b, hX (hX w2 (exN 1)) (exN 1), t, T, ?_, by rw [aw]; exact IL_x2 h hu, by omega, by rw [hany, han]; exact WT_X (WT_X W2 _) _, r2.trans r1, Nat.le_refl _, aK_0 m7 _⟩
                    rw [dx_14 (r := 1) (by omega) (by omega) (oc_dispute0 hC zP), cI_v, if_pos nov1, dx_7 (r := 1) (a := aC a 1 6) (by omega) (by omega) (fun z => oc_forge0 (Core_aC hC) hshl zP z), cI_v, if_pos nov1]
                  · have zPi : ¬ Int32.ofNat (tZ a 29 0) = 0 := fun q => zP (o_inj (n := tZ a 29 0) (k := 0) (by omega) (by omega) q)
                    rw [if_neg zPi]
                    have g3' := tb_get (a := a) (i := 3) (x := 3) W3 rfl (by omega)
                    rw [q3] at g3'
                    have ip : imod (Int32.ofNat (nS (nS (nS n)) / 512)) (Int32.ofNat (tZ a 29 0)) = Int32.ofNat (nS (nS (nS n)) / 512 % tZ a 29 0) := im (nS (nS n)) _ (by omega) (by omega)
                    have lp : nS (nS (nS n)) / 512 % tZ a 29 0 < tZ a 29 0 := Nat.mod_lt _ (by omega)
                    rw [f3, cI_v, g3', Option.bind_some, if_neg zPi, ip]
                    have hant : any = true := by rw [← hany]; exact decide_eq_true (by omega)
                    have base : aN th any n = if nS n / 512 % 22 = 20 then (if th = true then nS (nS (nS (nS (nS (nS n))))) else nS (nS (nS (nS n)))) else nS (nS (nS n)) := by
                      unfold aN
                      simp only [rr]
                      rw [if_neg (by omega), if_neg (by omega), if_neg (by omega), if_neg (by omega), if_neg (by omega), if_neg (by omega), if_neg (by omega), if_neg (by omega), if_pos hant]
                    by_cases k20 : nS n / 512 % 22 = 20
                    · rw [if_pos k20] at base
                      rw [if_pos (d20.mpr k20), d20.mpr k20]
                      cases th
                      · rw [if_pos (show thI false = 0 from rfl)]
                        obtain ⟨a', b', w', p1, p2, p3, p4, p5, p6⟩ := bk_513 h hu W3 hshl lp
                        rw [if_neg (by decide)] at base
                        exact ⟨a', b', w', t, T, p1, by rw [aw]; exact p2, by omega, by rw [hany, base]; exact p3, p4.trans (r3.trans (r2.trans r1)), Nat.le_of_eq p5.symm, aK_0 m7 _⟩
                      · rw [if_neg (show ¬ thI true = 0 by decide)]
                        rw [if_pos rfl] at base
                        obtain ⟨w4, f4, W4, r4⟩ := x319 (a := a) W3
                        rw [f4, cI_v, i42]
                        by_cases o0 : nS (nS (nS (nS n))) / 512 % 2 = 0
                        · rw [o0, if_pos (show Int32.ofNat 0 = 0 from rfl)]
                          obtain ⟨w5, f5, W5, r5⟩ := x319 (a := a) W4
                          have g3'' := tb_get (a := a) (i := 3) (x := 3) W5 rfl (by omega)
                          rw [q3] at g3''
                          have ip2 : imod (Int32.ofNat (nS (nS (nS (nS (nS n)))) / 512)) (Int32.ofNat (tZ a 29 0)) = Int32.ofNat (nS (nS (nS (nS (nS n)))) / 512 % tZ a 29 0) := im (nS (nS (nS (nS n)))) _ (by omega) (by omega)
                          have lp2 : nS (nS (nS (nS (nS n)))) / 512 % tZ a 29 0 < tZ a 29 0 := Nat.mod_lt _ (by omega)
                          rw [f5, cI_v, g3'', Option.bind_some, if_neg zPi, ip2]
                          obtain ⟨a', b', w', p1, p2, p3, p4, p5⟩ := fg_468 (s := nS (nS (nS (nS (nS n)))) / 512 % tZ a 29 0) h hu W5 lp (by omega)
                          exact ⟨a', b', w', _, T, p1, by rw [aw]; exact p2, by omega, by rw [hany, base]; exact p3, p4.trans (r5.trans (r4.trans (r3.trans (r2.trans r1)))), Nat.le_of_eq p5.symm, aK_0 m7 _⟩
                        · rw [if_neg (show ¬ Int32.ofNat (nS (nS (nS (nS n))) / 512 % 2) = 0 from fun q => o0 ((eq_ofn (c := 0) (by omega) (by omega)).mp q))]
                          have g3'' := tb_get (a := a) (i := 3) (x := 3) W4 rfl (by omega)
                          rw [q3] at g3''
                          obtain ⟨w5, f5, W5, r5⟩ := x320 (a := a) (l := tZ a 29 0) (k := 999) (lo := Int32.ofNat (tZ a 29 0)) (hi := 999) W4 rfl rfl (by omega) (by omega)
                          have lv := Nat.mod_lt (nS (nS (nS (nS (nS n)))) / 512) (show 0 < 999 - tZ a 29 0 + 1 by omega)
                          rw [g3'', Option.bind_some, f5, cI_v]
                          obtain ⟨a', b', w', p1, p2, p3, p4, p5⟩ := fg_468 (s := tZ a 29 0 + nS (nS (nS (nS (nS n)))) / 512 % (999 - tZ a 29 0 + 1)) h hu W5 lp (by omega)
                          exact ⟨a', b', w', _, T, p1, by rw [aw]; exact p2, by omega, by rw [hany, base]; exact p3, p4.trans (r5.trans (r4.trans (r3.trans (r2.trans r1)))), Nat.le_of_eq p5.symm, aK_0 m7 _⟩
                    · rw [if_neg k20] at base
                      have k21 : nS n / 512 % 22 = 21 := by omega
                      rw [if_neg (fun q => k20 (d20.mp q)), k21]
                      obtain ⟨a', b', w', p1, p2, p3, p4, p5, p6⟩ := ds_513 (v5 := Int32.ofNat sh) h hu W3 lp
                      exact ⟨a', b', w', t, T, p1, by rw [aw]; exact p2, by omega, by rw [hany, base]; exact p3, p4.trans (r3.trans (r2.trans r1)), Nat.le_of_eq p5.symm, aK_0 m7 _⟩
      · -- time passes
        rw [if_neg (fun q => m15 (c15.mp q))]
        have n0 := qn (w := w2) (m := 0) (x := 0) hC (by simp) rfl
        obtain ⟨w3, f3, W3, r3⟩ := x319 (a := a) W2
        have i3 : imod (Int32.ofNat (nS (nS (nS n)) / 512)) 3 = Int32.ofNat (nS (nS (nS n)) / 512 % 3) := im (nS (nS n)) 3 (by omega) (by omega)
        have e0 : (Int32.ofNat (nS (nS (nS n)) / 512 % 3) = 0) ↔ nS (nS (nS n)) / 512 % 3 = 0 := eq_ofn (c := 0) (by have := Nat.mod_lt (nS (nS (nS n)) / 512) (show 0 < 3 by omega); omega) (by omega)
        have c0 : cnV a b 0 = Int32.ofNat T := hT
        have fin : ∀ (W : Hp) (m : Nat), 1 ≤ m → m ≤ 20 → WT W (nS (nS (nS (nS n)))) t → W.2 = w.2 → ActR a0 a b w u T L n th (Ru 329 112 [(0, aR (some (96, 0))), (6, aI (Int32.ofNat T))] [aI (Int32.ofNat m)] (enc 1 a W)) := by
          intro W m hm1 hm2 hWT hW2
          obtain ⟨a', b', hx, hC', hw', hS, ht'⟩ := oc_passes hC hT (by omega) hm1 (by omega) (by omega)
          have z29 : tZ a' 29 0 = tZ a 29 0 := dZ (Fr_ticks hS).1 dpk_k1 (s := 29) (by simp) 0
          refine ⟨a', b', W, t, T + m, ?_, ?_, by omega, ?_, hW2, Nat.le_of_eq z29.symm, aK_0 m7 _⟩
          · rw [lf_329_112, dn_8 hx, cI_v, if_pos (ix_add T).symm]
          · rw [aW_0 (by omega)]
            exact IL_u (IL_ticks h hC' hw' hS ht') hu
          · have : aN th (decide (0 < tZ a 29 0)) n = nS (nS (nS (nS n))) := by
              unfold aN
              simp only [rr]
              rw [if_neg (by omega), if_neg (by omega), if_pos (by omega)]
            rw [this]
            exact hWT
        rw [n0, cI_v, f3, cI_v, i3, c0]
        by_cases e3 : nS (nS (nS n)) / 512 % 3 = 0
        · obtain ⟨w4, f4, W4, r4⟩ := x320 (a := a) (l := 8) (k := 20) (lo := 8) (hi := 20) W3 rfl rfl (by omega) (by omega)
          have := Nat.mod_lt (nS (nS (nS (nS n))) / 512) (show 0 < 20 - 8 + 1 by omega)
          rw [if_pos (e0.mpr e3), f4, cI_v]
          exact fin w4 _ (by omega) (by omega) W4 (r4.trans (r3.trans (r2.trans r1)))
        · obtain ⟨w4, f4, W4, r4⟩ := x320 (a := a) (l := 1) (k := 4) (lo := 1) (hi := 4) W3 rfl rfl (by omega) (by omega)
          have := Nat.mod_lt (nS (nS (nS (nS n))) / 512) (show 0 < 4 - 1 + 1 by omega)
          rw [if_neg (fun q => e3 (e0.mp q)), f4, cI_v]
          exact fin w4 _ (by omega) (by omega) W4 (r4.trans (r3.trans (r2.trans r1)))
    · -- a batch, twice
      rw [if_neg (fun q => m10 (c10.mp q))]
      obtain ⟨x, a1, b1, hx, hm, hC1, hw1, hS, h87, hall, -⟩ := oc_sends hC hshl
      have hI1 := IL_sends h hC1 hw1 hS
      obtain ⟨ca, cb⟩ := Fr_Ss hS
      have z27 : tZ a1 27 0 = tZ a 27 0 := dZ ca (S := [27]) (P := []) (s := 27) (by decide) (by simp) 0
      have z29 : tZ a1 29 0 = tZ a 29 0 := dZ ca (S := [29]) (P := []) (s := 29) (by decide) (by simp) 0
      obtain ⟨x', a2, b2, hx', -, -, -, -, -, -, hsame⟩ := oc_sends hC1 (show sh < tZ a1 27 0 by omega)
      obtain ⟨e0, e1, e2⟩ := hsame (fun q hq hq2 hq0 => by
        rw [z29] at hq
        rw [h87] at hq2 hq0
        exact hall q hq hq2 hq0)
      subst e0
      subst e1
      subst e2
      refine ⟨_, _, w2, t, T, ?_, by rw [aW_0 (by omega)]; exact IL_u hI1 hu, by omega, ?_, r2.trans r1, Nat.le_of_eq z29.symm, aK_0 m7 _⟩
      · rw [dn_5 hx, cI_v, if_neg (o_lt0 (by omega)), dn_5 hx', cI_v, if_pos (show Int32.ofNat 0 = 0 from rfl)]
      · have : aN th any n = nS (nS n) := by
          unfold aN
          simp only [rr]
          rw [if_neg (by omega), if_pos (by omega)]
        rw [hany, this]
        exact W2
  · -- a payment
    rw [if_neg (fun q => m7 (c7.mp q))]
    obtain ⟨a', b', w', t', p1, p2, p3, p4, p5, p6, p7⟩ := x328 h hu W2
    refine ⟨a', b', w', t', T, ?_, by rw [aW_0 (by omega)]; exact p2, by omega, ?_, p4.trans (r2.trans r1), p5, fun q => ?_⟩
    · rw [p1, cI_v, gz1]
    · have : aN th any n = payN (nS (nS n)) := by
        unfold aN payN
        simp only [rr]
        rw [if_pos (by omega)]
      rw [hany, this]
      exact p3
    · by_cases z : tZ a 29 0 = 0
      · unfold aKb at q
        simp only [rr, Bool.and_eq_true, Bool.not_eq_true'] at q
        obtain ⟨-, q2, q3⟩ := q
        exact p6 z (Nat.le_of_ble_eq_true q2) (fun e => by
          have := beq_tt e
          rw [this] at q3
          cases q3)
      · omega
