/-! ===== the law's days ===== -/
theorem lgc_eq {x y : Int64} (h : x = y) : lg_cmp x y = 0 := by
  subst h
  unfold lg_cmp
  rw [if_neg (Int64.lt_irrefl)]
  simp
theorem lgc_ge {x y : Int64} (h : y.toInt ≤ x.toInt) : ¬ lg_cmp x y < 0 := by
  unfold lg_cmp
  by_cases h1 : x > y
  · rw [if_pos h1]; decide
  · rw [if_neg h1]
    have h1 : ¬ y < x := h1
    rw [Int64.lt_iff_toInt_lt] at h1
    have e : x = y := Int64.toInt_inj.mp (by omega)
    rw [if_pos e]; decide
theorem lgc_ge0 {x : Int64} (h : 0 ≤ x.toInt) : (0 : Int32) ≤ lg_cmp x 0 := by
  have := lgc_ge (x := x) (y := 0) h
  exact Int32.not_lt.mp this
theorem lgc_le0 {x : Int64} (h : x.toInt ≤ 0) : ¬ (0 : Int32) < lg_cmp x 0 := by
  have := (lgc0 x).mpr h
  exact fun q => absurd this (Int32.not_le.mpr q)
theorem fee_up {a b a' b' : TS} {D : Nat} {put : Nat → Int64} (hS : StpE EvE a b a' b') (hM : MonI a b D put) (hf : FeeI b) : (tL b 91 0 7).toInt ≤ (tL b' 91 0 7).toInt := by
  refine (hS (fun x y => (MonI x y D put ∧ FeeI y) ∧ (tL b 91 0 7).toInt ≤ (tL y 91 0 7).toInt) (fun x y x' y' e h => ?_) ⟨⟨hM, hf⟩, Int.le_refl _⟩).2
  have e' := e
  obtain ⟨s, hs, ca, cb, v45, v46, v91, hR, hR'⟩ := e'
  obtain ⟨b1, b2, b3, b4, b5, b6⟩ := MonI_bnd hR h.1.1 hs
  obtain ⟨n1, n2, n3, n4, -⟩ := st_n (x := tL y 45 0 s) (y := tL y 46 0 s) (r := tI y 97 0 7) ⟨b1, b2⟩ ⟨b3, b4⟩ h.1.2
  refine ⟨⟨MonI_settle h.1.1 h.1.2 e, ?_⟩, ?_⟩
  · unfold FeeI
    rw [dI cb (S := []) (P := [(97, 7)]) (s := 97) (k := 7) (by decide) (by simp) 0]
    exact h.1.2
  · rw [v91, i64_add2 (by omega) (by omega)]
    have := h.2
    omega
theorem q129 {a b : TS} {w : Hp} {C s m : Nat} {x : Int32} (h : Core a b C) (hs : s < tZ a 27 0) (hm : m = 0 ∨ m = 1) (hx : x = Int32.ofNat m) : Ex 129 [aR (some (96, 0)), aI (Int32.ofNat s), aI x] (enc 1 a w) = some (.inl (some (aL (if m = 0 then tL b 45 0 s else tL b 46 0 s))), enc 1 a w) := by
  subst hx
  have := x129 (z := w) (m := m) h hs (by omega)
  rcases hm with e | e <;> subst e <;> exact this
theorem days_11 {a b : TS} {w : Hp} {C n : Nat} {t : List Int32} {v2 : Int64} (h : Core a b C) (hwt : WT w n t) (h1 : t.getD 1 0 = Int32.ofNat (tZ a 27 0)) (h4 : tZ a 27 0 ≤ 4) : ∀ d j v4, j + d = tZ a 27 0 →
    Ru 330 11 [(0, aR (some (96, 0))), (1, aR (some (101, 0))), (2, aL v2), (4, aL (v4 + S64 (fun s => tL b 45 0 s + tL b 46 0 s) j)), (6, aI (Int32.ofNat j))] [] (enc 1 a w) =
    Ru 330 11 [(0, aR (some (96, 0))), (1, aR (some (101, 0))), (2, aL v2), (4, aL (v4 + S64 (fun s => tL b 45 0 s + tL b 46 0 s) (tZ a 27 0))), (6, aI (Int32.ofNat (tZ a 27 0)))] [] (enc 1 a w)
  | 0, j, v4, e => by rw [show j = tZ a 27 0 by omega]
  | d + 1, j, v4, e => by
    have g1 := tb_get (a := a) (i := 1) (x := 1) hwt rfl (by omega)
    rw [h1] at g1
    rw [lf_330_11, g1, Option.bind_some, if_neg (fun q => by have := (le_ofn (by omega) (by omega)).mp q; omega), q129 (m := 0) (x := 0) h (by omega) (by simp) rfl, cL_v, q129 (m := 1) (x := 1) h (by omega) (by simp) rfl, cL_v, o_s]
    rw [← days_11 h hwt h1 h4 d (j + 1) v4 (by omega)]
    have : v4 + S64 (fun s => tL b 45 0 s + tL b 46 0 s) (j + 1) = v4 + S64 (fun s => tL b 45 0 s + tL b 46 0 s) j + (tL b 45 0 j + tL b 46 0 j) := by
      show v4 + (S64 (fun s => tL b 45 0 s + tL b 46 0 s) j + (tL b 45 0 j + tL b 46 0 j)) = _
      rw [Int64.add_assoc]
    rw [this]
    rfl
theorem days_82 {a b : TS} {w : Hp} {C n : Nat} {t : List Int32} {v2 : Int64} (h : Core a b C) (hwt : WT w n t) (h1 : t.getD 1 0 = Int32.ofNat (tZ a 27 0)) (h4 : tZ a 27 0 ≤ 4) (hst : ∀ s, s < tZ a 27 0 → (tL b 46 0 s).toInt ≤ 0 ∧ ((tL b 46 0 s).toInt = 0 ∨ (tL b 45 0 s).toInt = 0)) : ∀ d j v4, j + d = tZ a 27 0 →
    Ru 330 82 [(0, aR (some (96, 0))), (1, aR (some (101, 0))), (2, aL v2), (4, aL (v4 - S64 (fun s => tL b 45 0 s + tL b 46 0 s) j)), (7, aI 1), (8, aI (Int32.ofNat j))] [] (enc 1 a w) =
    Ru 330 82 [(0, aR (some (96, 0))), (1, aR (some (101, 0))), (2, aL v2), (4, aL (v4 - S64 (fun s => tL b 45 0 s + tL b 46 0 s) (tZ a 27 0))), (7, aI 1), (8, aI (Int32.ofNat (tZ a 27 0)))] [] (enc 1 a w)
  | 0, j, v4, e => by rw [show j = tZ a 27 0 by omega]
  | d + 1, j, v4, e => by
    have g1 := tb_get (a := a) (i := 1) (x := 1) hwt rfl (by omega)
    rw [h1] at g1
    obtain ⟨z1, z2⟩ := hst j (by omega)
    have q0 := q129 (w := w) (m := 0) (x := 0) h (show j < tZ a 27 0 by omega) (by simp) rfl
    have q1 := q129 (w := w) (m := 1) (x := 1) h (show j < tZ a 27 0 by omega) (by simp) rfl
    rw [if_pos rfl] at q0
    rw [if_neg (by omega)] at q1
    have st : v4 - S64 (fun s => tL b 45 0 s + tL b 46 0 s) (j + 1) = v4 - S64 (fun s => tL b 45 0 s + tL b 46 0 s) j - (tL b 45 0 j + tL b 46 0 j) := by
      show v4 - (S64 (fun s => tL b 45 0 s + tL b 46 0 s) j + (tL b 45 0 j + tL b 46 0 j)) = _
      grind
    rw [lf_330_82, g1, Option.bind_some, if_neg (fun q => by have := (le_ofn (by omega) (by omega)).mp q; omega), q0, cL_v, q1, cL_v, if_neg (by decide), q1, cL_v, if_neg (lgc_le0 z1), q1, cL_v]
    rw [← days_82 h hwt h1 h4 hst d (j + 1) v4 (by omega), st, ← o_s]
    by_cases e0 : (tL b 46 0 j).toInt = 0
    · rw [if_pos (lgc_eq (Int64.toInt_inj.mp e0))]
    · have e5 : (tL b 45 0 j) = 0 := Int64.toInt_inj.mp (by rcases z2 with q | q; exact absurd q e0; exact q)
      by_cases e1 : lg_cmp (tL b 46 0 j) 0 = 0
      · rw [if_pos e1]
      · rw [if_neg e1, q0, cL_v, if_pos (lgc_eq e5)]
set_option maxHeartbeats 2000000 in
theorem x330 {a0 a b : TS} {w : Hp} {u T L n : Nat} {t : List Int32} (h : IL a0 a b u T L t) (hu : u + 1 ≤ 71) (hwt : WT w n t) :
    ∃ a' b', Ex 330 [aR (some (96, 0)), aR (some (101, 0))] (enc 1 a w) = some (.inl (some (aI 1)), enc 1 a' w) ∧ IL a0 a' b' (u + 1) T L t ∧ tZ a' 29 0 = tZ a 29 0 ∧ tI b' 95 0 6 = tI b 95 0 6 := by
  have hI := h
  obtain ⟨put, D, k, ⟨h1, h2, h3, h4⟩, hC, hT, hM, hL, hK, hf, hF, hTL, hN, hW⟩ := hI
  obtain ⟨⟨q0, q1, q2, q3, q4⟩, ⟨sA, sS, sC⟩, s3, s4, s5, s6⟩ := hTL
  obtain ⟨a1, b1, hx, hC', hw', hS, ca, cb, hst⟩ := oc_endDay hC
  have hIL := IL_day h hu hC' hw' hS ca cb
  have z27 : tZ a1 27 0 = tZ a 27 0 := dZ ca (S := [27]) (P := []) (s := 27) (by decide) (by simp) 0
  have z26 : tZ a1 26 0 = tZ a 26 0 := dZ ca (S := [26]) (P := []) (s := 26) (by decide) (by simp) 0
  have z29 : tZ a1 29 0 = tZ a 29 0 := dZ ca (S := [29]) (P := []) (s := 29) (by decide) (by simp) 0
  have e43 : ∀ k, tL b1 43 0 k = tL b 43 0 k := dLS cb (S := [43]) (P := []) (s := 43) (by decide) (by simp) 0
  have e918 := dL cb (S := []) (P := [(91, 8)]) (s := 91) (k := 8) (by decide) (by simp) 0
  have hup := fee_up hS hM hf
  have hM1 := MonI_settles hS hf hM
  have m1 : tL b 91 0 7 + S64 (fun u => tL b 43 0 u) (tZ a 26 0) + S64 (fun s => tL b 45 0 s + tL b 46 0 s) (tZ a 27 0) = tL b 91 0 8 := hM.2.2.2.2.1
  have m2 : tL b1 91 0 7 + S64 (fun u => tL b1 43 0 u) (tZ a1 26 0) + S64 (fun s => tL b1 45 0 s + tL b1 46 0 s) (tZ a1 27 0) = tL b1 91 0 8 := hM1.2.2.2.2.1
  rw [e918, z26, S64_eq (f := fun u => tL b1 43 0 u) (g := fun u => tL b 43 0 u) (tZ a 26 0) (fun k _ => e43 k)] at m2
  have g1 := tb_get (a := a) (i := 1) (x := 1) hwt rfl (by omega)
  rw [q1] at g1
  have n1 := qn (w := w) (m := 1) (x := 1) hC (by simp) rfl
  have f131 : ∀ z, Ex 131 [aR (some (96, 0))] (enc 1 a z) = some (.inl (some (aL (tL b 91 0 7))), enc 1 a z) := fun z => x131 hC.1.1
  have l11 := days_11 (v2 := tL b 91 0 7) hC hwt q1 (by omega) (tZ a 27 0) 0 0 (by omega)
  have d0 : S64 (fun s => tL b 45 0 s + tL b 46 0 s) 0 = 0 := rfl
  rw [d0] at l11
  have zz : (0 : Int64) + 0 = 0 := by decide
  rw [zz, Int64.zero_add] at l11
  have hq1' : t.getD 1 0 = Int32.ofNat (tZ (sI a1 25 0 1 (tI b 97 0 6 + 1)) 27 0) := by
    show t.getD 1 0 = Int32.ofNat (tZ a1 27 0)
    rw [z27]; exact q1
  have hst' : ∀ s, s < tZ (sI a1 25 0 1 (tI b 97 0 6 + 1)) 27 0 → (tL (sI (sI b1 97 0 6 (tI b 97 0 6 + 1)) 94 0 11 (tI b 97 0 6 + 1)) 46 0 s).toInt ≤ 0 ∧ ((tL (sI (sI b1 97 0 6 (tI b 97 0 6 + 1)) 94 0 11 (tI b 97 0 6 + 1)) 46 0 s).toInt = 0 ∨ (tL (sI (sI b1 97 0 6 (tI b 97 0 6 + 1)) 94 0 11 (tI b 97 0 6 + 1)) 45 0 s).toInt = 0) := by
    intro s hs
    have hs : s < tZ a 27 0 := by rw [← z27]; exact hs
    obtain ⟨b1', b2, b3, b4, -⟩ := MonI_bnd hC.1.1 hM hs
    obtain ⟨-, -, -, -, -, -, n7, n8, -⟩ := st_n (x := tL b 45 0 s) (y := tL b 46 0 s) (r := tI b 97 0 7) ⟨b1', b2⟩ ⟨b3, b4⟩ hf
    show (tL b1 46 0 s).toInt ≤ 0 ∧ ((tL b1 46 0 s).toInt = 0 ∨ (tL b1 45 0 s).toInt = 0)
    rw [(hst s hs).1, (hst s hs).2]
    exact ⟨n7, n8⟩
  have fL : ∀ j, tL (sI (sI b1 97 0 6 (tI b 97 0 6 + 1)) 94 0 11 (tI b 97 0 6 + 1)) 91 0 j = tL b1 91 0 j := fun _ => rfl
  have fS : S64 (fun s => tL (sI (sI b1 97 0 6 (tI b 97 0 6 + 1)) 94 0 11 (tI b 97 0 6 + 1)) 45 0 s + tL (sI (sI b1 97 0 6 (tI b 97 0 6 + 1)) 94 0 11 (tI b 97 0 6 + 1)) 46 0 s) (tZ a1 27 0) = S64 (fun s => tL b1 45 0 s + tL b1 46 0 s) (tZ a1 27 0) := rfl
  have fZ : tZ (sI a1 25 0 1 (tI b 97 0 6 + 1)) 27 0 = tZ a1 27 0 := rfl
  have f29 : tZ (sI a1 25 0 1 (tI b 97 0 6 + 1)) 29 0 = tZ a1 29 0 := rfl
  have f95 : tI (sI (sI b1 97 0 6 (tI b 97 0 6 + 1)) 94 0 11 (tI b 97 0 6 + 1)) 95 0 6 = tI b1 95 0 6 := by rw [tI_sI, if_neg (by decide), tI_sI, if_neg (by decide)]
  have e95 : tI b1 95 0 6 = tI b 95 0 6 := dI cb (S := []) (P := [(95, 6)]) (s := 95) (k := 6) (by decide) (by simp) 0
  have hx' := hx w
  generalize hA : sI a1 25 0 1 (tI b 97 0 6 + 1) = A at *
  generalize hB : sI (sI b1 97 0 6 (tI b 97 0 6 + 1)) 94 0 11 (tI b 97 0 6 + 1) = B at *
  have f131' : Ex 131 [aR (some (96, 0))] (enc 1 A w) = some (.inl (some (aL (tL B 91 0 7))), enc 1 A w) := x131 hC'.1.1
  have l82 := days_82 (v2 := tL b 91 0 7) hC' hwt hq1' (by rw [fZ, z27]; omega) hst' (tZ A 27 0) 0 (S64 (fun s => tL b 45 0 s + tL b 46 0 s) (tZ a 27 0)) (by omega)
  have g1' := tb_get (a := A) (i := 1) (x := 1) hwt rfl (by omega)
  rw [hq1'] at g1'
  refine ⟨A, B, ?_, hIL, by rw [f29, z29], by rw [f95, e95]⟩
  refine (X_sl (by decide +kernel) rfl).trans ((lf_330_0 ..).trans ?_)
  rw [f131, cL_v]
  refine l11.trans ?_
  rw [lf_330_11, g1, Option.bind_some, if_pos (Int32.le_refl _), n1, cI_v, hx', cI_v]
  show (if tI b 97 0 6 + 1 = tI b 97 0 6 + 1 then _ else _) = _
  rw [if_pos rfl, f131', cL_v, if_neg (lgc_ge (by rw [fL]; exact hup))]
  have d0' : S64 (fun s => tL B 45 0 s + tL B 46 0 s) 0 = 0 := rfl
  rw [d0', Int64.sub_zero] at l82
  refine l82.trans ?_
  rw [lf_330_82, g1', Option.bind_some, if_pos (Int32.le_refl _), if_neg (by decide), f131', cL_v, if_pos (lgc_eq ?_)]
  rw [fL, fZ, fS]
  rw [← m1] at m2
  generalize S64 _ (tZ a 26 0) = X at *
  generalize S64 (fun s => tL b 45 0 s + tL b 46 0 s) (tZ a 27 0) = Y at *
  generalize S64 (fun s => tL b1 45 0 s + tL b1 46 0 s) (tZ a1 27 0) = Z at *
  grind
