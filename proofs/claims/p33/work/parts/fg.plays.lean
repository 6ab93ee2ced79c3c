/-! ===== the law's plays ===== -/
theorem mA_S (b : TS) : ∀ n, mA b n = tL b 91 0 7 + S64 (fun u => tL b 43 0 u) n
  | 0 => (Int64.add_zero _).symm
  | n + 1 => by
    show mA b n + tL b 43 0 n = tL b 91 0 7 + (S64 (fun u => tL b 43 0 u) n + tL b 43 0 n)
    rw [mA_S b n, Int64.add_assoc]
theorem mS_S (b : TS) (n : Nat) : ∀ s, mS b n s = mA b n + S64 (fun s => tL b 45 0 s + tL b 46 0 s) s
  | 0 => (Int64.add_zero _).symm
  | s + 1 => by
    show mS b n s + (tL b 45 0 s + tL b 46 0 s) = mA b n + (S64 (fun s => tL b 45 0 s + tL b 46 0 s) s + (tL b 45 0 s + tL b 46 0 s))
    rw [mS_S b n s, Int64.add_assoc]
theorem hdB_t {b : TS} : ∀ k t, (∀ u, t ≤ u → u < t + k → sV b u 1000 = tL b 44 0 u) → hdB b t k = true
  | 0, _, _ => rfl
  | k + 1, t, h => by
    rw [hdB_s, Bool.and_eq_true]
    exact ⟨decide_eq_true (lgc_eq (h t (Nat.le_refl _) (by omega))), hdB_t k (t + 1) (fun u h1 h2 => h u (by omega) (by omega))⟩
theorem frB_t {b : TS} : ∀ k n, (∀ u, n ≤ u → u < n + k → frX b u = false) → frB b n k = true
  | 0, _, _ => rfl
  | k + 1, n, h => by
    rw [frB_s, h n (Nat.le_refl _) (by omega)]
    exact frB_t k (n + 1) (fun u h1 h2 => h u (by omega) (by omega))
theorem bdF_f {b : TS} : ∀ k j, (∀ p, j ≤ p → p < j + k → bdP b p = false) → bdF b j k = false
  | 0, _, _ => rfl
  | k + 1, j, h => by
    have es : bdF b j (k + 1) = (bdP b j || bdF b (j + 1) k) := rfl
    rw [es, h j (Nat.le_refl _) (by omega)]
    exact bdF_f k (j + 1) (fun p h1 h2 => h p (by omega) (by omega))
theorem err0 {a0 a b : TS} {w : Hp} {u T L : Nat} {t : List Int32} (h : IL a0 a b u T L t) : Ex 135 [aR (some (96, 0))] (enc 1 a w) = some (.inl (some (aI 0)), enc 1 a w) := by
  obtain ⟨put, D, k, ⟨h1, h2, h3, h4⟩, hC, hT, hM, hL, hK, hf, hF, hTL, hN, hW⟩ := h
  have hP := (r_P' hC.1.1).1
  refine x135 hC.1.1 (fun w => bdF_f _ _ (fun p _ hp => ?_)) (hdB_t _ _ (fun u _ hu => ?_)) (frB_t _ _ (fun n _ hn => ?_)) ?_
  · have hLI := hL.2 w
    refine decide_eq_false (fun q => ?_)
    exact q.2 (LI_pst hLI p (by omega) q.1).2.1
  · rw [sV_S]
    exact hM.2.2.2.1 u (by omega)
  · refine decide_eq_false (fun q => ?_)
    obtain ⟨m8, m9, -⟩ := hM.1 n (by omega) q.1
    rcases q.2 with z | z
    · exact z m8
    · exact z m9
  · rw [mS_S, mA_S]
    exact hM.2.2.2.2.1
theorem aN_f (th : Bool) (n : Nat) : aN th false n = aN false false n := by
  unfold aN
  simp only [Bool.false_eq_true, if_false]
def T_acts (th : Bool) (u n : Nat) (an : Bool) (L : Nat) : Prop := Rch (aN false false) (aN th true) aW aKb u n an L
theorem Rch_s {N0 N1 W : Nat → Nat} {K : Nat → Bool} {u r L : Nat} {an an' : Bool} (h : Rch N0 N1 W K u r an L) (h1 : an = true → an' = true) (h2 : K r = true → an' = true) : Rch N0 N1 W K (u + 1) (cond an (N1 r) (N0 r)) an' (L + W r) := ⟨r, an, L, h, rfl, rfl, h1, h2⟩
theorem aN_e (th : Bool) (n : Nat) : ∀ an, aN th an n = cond an (aN th true n) (aN false false n)
  | true => (cond_true _ _).symm
  | false => (aN_f th n).trans (cond_false _ _).symm
theorem T_step {th : Bool} {u n L : Nat} {an an' : Bool} (h : T_acts th u n an L) (h1 : an = true → an' = true) (h2 : aKb n = true → an' = true) : T_acts th (u + 1) (aN th an n) an' (L + aW n) := by
  rw [aN_e]
  exact Rch_s h h1 h2
set_option maxHeartbeats 2000000 in
theorem acts_loop {a0 : TS} {T0 : Nat} {th : Bool} (hT0 : T0 + 1420 ≤ 3000) : ∀ d u a b w t T L n, u + d = 70 → IL a0 a b u T L t → T ≤ T0 + 20 * u → WT w n t → T_acts th u n (decide (0 < tZ a 29 0)) L →
    ∃ a' b' w' t' T' L' n' an', Ru 332 60 [(0, aR (some (100, 0))), (1, aR (some (101, 0))), (2, aR (some (96, 0))), (3, aI (thI th)), (4, aI 1), (5, aI (Int32.ofNat u))] [] (enc 1 a w) = Ru 332 138 [(0, aR (some (100, 0))), (1, aR (some (101, 0))), (2, aR (some (96, 0))), (4, aI 1)] [] (enc 1 a' w') ∧
      IL a0 a' b' 70 T' L' t' ∧ T' ≤ T0 + 1400 ∧ WT w' n' t' ∧ w'.2 = w.2 ∧ T_acts th 70 n' an' L'
  | 0, u, a, b, w, t, T, L, n, e, hI, hT, hW, hR => by
    have e : u = 70 := by omega
    subst e
    refine ⟨a, b, w, t, T, L, n, _, ?_, hI, by omega, hW, rfl, hR⟩
    rw [lf_332_60, if_pos (show (70 : Int32) ≤ Int32.ofNat 70 by decide)]
  | d + 1, u, a, b, w, t, T, L, n, e, hI, hT, hW, hR => by
    obtain ⟨a1, b1, w1, t1, T1, p1, p2, p3, p4, p5, p6, p7⟩ := x329 th hI (by omega) (by omega) hW
    have hR1 : T_acts th (u + 1) (aN th (decide (0 < tZ a 29 0)) n) (decide (0 < tZ a1 29 0)) (L + aW n) := T_step hR (fun q => decide_eq_true (by have := of_decide_eq_true q; omega)) (fun q => decide_eq_true (p7 q))
    obtain ⟨a2, b2, w2, t2, T2, L2, n2, an2, s1, s2, s3, s4, s5, s6⟩ := acts_loop hT0 d (u + 1) a1 b1 w1 t1 T1 (L + aW n) _ (by omega) p2 (by omega) p4 hR1
    refine ⟨a2, b2, w2, t2, T2, L2, n2, an2, ?_, s2, s3, s4, s5.trans p5, s6⟩
    rw [← s1, ← o_s]
    have g327 := x327 (w := w1) p2 p4
    have g135 := err0 (w := w1) p2
    rw [lf_332_60, if_neg (fun q => by have := (le_ofn (k := u) (c := 70) (by omega) (by omega)).mp q; omega), if_neg (by decide), p1, cI_v, if_neg (by decide)]
    by_cases e7 : imod (Int32.ofNat u) 7 = (6 : Int32)
    · rw [if_pos e7, g327, cI_v, if_neg (by decide)]
      by_cases e20 : imod (Int32.ofNat u) 20 = (19 : Int32)
      · rw [if_pos e20, g135, cI_v, if_pos rfl]
      · rw [if_neg e20]
    · rw [if_neg e7, if_neg (by decide)]
      by_cases e20 : imod (Int32.ofNat u) 20 = (19 : Int32)
      · rw [if_pos e20, g135, cI_v, if_pos rfl]
      · rw [if_neg e20]
set_option maxHeartbeats 2000000 in
theorem plays_138 (H : ALLU) {a0 a b : TS} {w : Hp} {T L n : Nat} {th an : Bool} {t : List Int32} (hI : IL a0 a b 70 T L t) (hT : T + 460 ≤ 3000) (hW : WT w n t) (hR : T_acts th 70 n an L) :
    ∃ a' w' k, Ru 332 138 [(0, aR (some (100, 0))), (1, aR (some (101, 0))), (2, aR (some (96, 0))), (4, aI 1)] [] (enc 1 a w) = some (.inl (some (aI 1)), enc 1 a' w') ∧ WrX a0 a' k ∧ k ≤ 145 ∧ w'.2 = w.2 ∧ ∃ b', Core a' b' 70 := by
  have h37 := acts_37 H th (by omega) hR
  obtain ⟨a1, b1, x1, hI1, e6⟩ := x331 hI h37 hT hW
  have g327 := x327 (w := w) hI1 hW
  have g135 := err0 (w := w) hI1
  obtain ⟨put, D, k, ⟨h1, h2, h3, h4⟩, hC, -, -, -, -, -, -, hTL, -, hWr⟩ := hI1
  have hR1 := hC.1.1
  have sC := hTL.2.1.2.2
  have sS := hTL.2.1.2.1
  have g2 := tb_get (a := a1) (i := 2) (x := 2) hW rfl (by omega)
  rw [hTL.1.2.2.1] at g2
  have r1 : R0 (aC a1 1 6) b1 := hR1
  have r2 : R0 (aC (aC a1 1 6) 1 6) b1 := hR1
  have r3 : R0 (aC (aC (aC a1 1 6) 1 6) 1 6) b1 := hR1
  have r4 : R0 (aC (aC (aC (aC a1 1 6) 1 6) 1 6) 1 6) b1 := hR1
  refine ⟨aC (aC (aC (aC (aC a1 1 6) 1 6) 1 6) 1 6) 1 6, hX (hX (hX (hX (hX w (exN 1)) (exN 1)) (exN 2)) (exN 2)) (exN 2), k + 5, ?_, WrX_e (WrX_e (WrX_e (WrX_e (WrX_e hWr)))), by omega, rfl, b1, hC⟩
  rw [lf_332_138, if_neg (by decide), x1, cI_v, if_neg (by decide), g327, cI_v, if_neg (by decide), lf_332_165, if_neg (by decide), g135, cI_v, if_pos rfl, g2, Option.bind_some,
    dx_15 (r := 1) (by omega) (by omega) (fun z => n_cardAt hR1), cI_v, if_pos nov1,
    dx_17 (r := 1) (by omega) (by omega) (fun z => n_knows r1), cI_v, if_pos nov1,
    dx_4 (r := 2) (by omega) (by omega) (fun z => n_pay r2 (by show 0 < tZ a1 28 0; omega) (by show 0 < tZ a1 27 0; omega)), cI_v, if_pos nov2,
    dx_8 (r := 2) (by omega) (by omega) (fun z => n_passes r3), cI_v, if_pos nov2,
    dx_11 (r := 2) (by omega) (by omega) (fun z => n_tells r4 (by show 0 < tZ a1 28 0; omega)), cI_v, if_pos nov2]
