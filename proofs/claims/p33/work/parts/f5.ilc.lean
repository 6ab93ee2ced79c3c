/-! ===== what holds between the law's acts: the calls ===== -/
theorem pin_R {D : List Nat} {F : List (Nat × Nat)} {a a' b b' : TS} (hR : R0 a b) (hR' : R0 a' b') (ca : chF D F a a') (hd : dpk D [] [28] [] = true) (hd2 : dpk D F [] [(37, 1), (37, 2), (37, 6)] = true) {k : Nat} (hk : k < tZ a 28 0) : tI b' 86 0 (10 * k + 9) = tI b 86 0 (10 * k + 9) ∧ tI b' 86 0 (10 * k + 7) = tI b 86 0 (10 * k + 7) ∧ tI b' 86 0 (10 * k) = tI b 86 0 (10 * k) := by
  have z28 : tZ a' 28 0 = tZ a 28 0 := (ca 28 (dpk_S hd (by simp)).1).2.2.2.2.1 0
  obtain ⟨-, -, ⟨t, t1, t2, t3⟩, p7, -⟩ := (r_C hR).2.2.2.2 k hk
  obtain ⟨-, -, ⟨u, u1, u2, u3⟩, q7, -⟩ := (r_C hR').2.2.2.2 k (by rw [z28]; exact hk)
  obtain ⟨-, c6, -⟩ := (hR.2.2.2.2.2.2.2.2.1 : RD a b).1 k hk
  obtain ⟨-, d6, -⟩ := (hR'.2.2.2.2.2.2.2.2.1 : RD a' b').1 k (by rw [z28]; exact hk)
  have e1 : tR a' 37 k 1 = tR a 37 k 1 := (ca 37 (dpk_P hd2 (q := (37, 1)) (by simp)).1).2.2.1 k 1
  have e2 : tI a' 37 k 2 = tI a 37 k 2 := dI ca hd2 (s := 37) (k := 2) (by simp) k
  have e6 : tI a' 37 k 6 = tI a 37 k 6 := dI ca hd2 (s := 37) (k := 6) (by simp) k
  rw [e1, t2] at u2
  refine ⟨?_, ?_, ?_⟩
  · rw [t3, u3, (Prod.mk.inj (Option.some.inj u2)).2]
  · rw [← p7, ← q7, e2]
  · rw [← c6, ← d6, e6]
theorem dpk_k1 : dpk TkA FtA [26, 27, 28, 29] [(37, 1), (37, 2), (37, 6)] = true := by decide
theorem dpk_k2 : dpk TkB FtB [88] [(95, 2), (95, 3), (95, 5), (95, 6), (91, 8), (97, 6), (97, 7)] = true := by decide
/-- no payment: nothing of the cards changes -/
def N86 (a b : TS) (f : Nat → Int32) : Prop := tZ a 29 0 = 0 ∧ ∀ j, tI b 86 0 j = f j
theorem N86_L {a a' b b' : TS} {f : Nat → Int32} (hE : EvL a b a' b') (h : N86 a b f) : N86 a' b' f := by
  have hD : EvD a b a' b' → N86 a' b' f := fun ⟨e, ca, _⟩ => by
    subst e
    exact ⟨(dZ ca (S := [29]) (P := []) (s := 29) (by decide) (by simp) 0).trans h.1, h.2⟩
  rcases hE with (h1 | h1) | (h1 | h1)
  · obtain ⟨sh, g, q, b1, pre, post, -, -, -, -, c1, -, -, -, -, n, hHrd⟩ := h1
    obtain ⟨-, -, -, -, -, -, -, -, ca, cb, -⟩ := hHrd
    have cc : chF DhB FhB b b' := chF_t (chF_m c1 (by decide) (by simp)) cb
    exact ⟨(dZ ca (S := [29]) (P := []) (s := 29) (by decide) (by simp) 0).trans h.1, fun j => (dIS cc (S := [86]) (P := []) (s := 86) (by decide) (by simp) 0 j).trans (h.2 j)⟩
  · exact hD h1
  · obtain ⟨sh, g, q, b1, pre, post, hsh, -, -, -, c1, -, hE, -, -, -, ca, cb, -⟩ := h1
    have g86 : ∀ j, tI b1 86 0 j = tI b 86 0 j := dIS c1 (S := [86]) (P := []) (s := 86) (by decide) (by simp) 0
    refine ⟨(dZ ca (S := [29]) (P := []) (s := 29) (by decide) (by simp) 0).trans h.1, fun j => ?_⟩
    rcases hE with ⟨-, ⟨p, p1, -⟩, -⟩ | ⟨-, -, -, cF⟩ | ⟨-, -, -, eb⟩
    · rw [h.1] at p1; omega
    · rw [dIS cF (S := [86]) (P := []) (s := 86) (by decide) (by simp) 0 j, g86]; exact h.2 j
    · rw [eb, g86]; exact h.2 j
  · exact hD h1
theorem N86_tick {a a' b b' : TS} {f : Nat → Int32} (hE : TickE a b a' b') (h : N86 a b f) : N86 a' b' f := by
  obtain ⟨T, a0, b0, a1, b1, hT, ht, hC, -, hL, -, hM, -⟩ := hE
  obtain ⟨ca, cb⟩ := EvC_c hC
  have h0 : N86 a0 b0 f := ⟨(dZ ca (S := [29]) (P := []) (s := 29) (by decide) (by simp) 0).trans h.1, fun j => (dIS cb (S := [86]) (P := []) (s := 86) (by decide) (by simp) 0 j).trans (h.2 j)⟩
  refine hM (fun x y => N86 x y f) (fun x y x' y' e h => ?_) (hL (fun x y => N86 x y f) (fun _ _ _ _ e h => N86_L e h) h0)
  rcases e with e | e
  · obtain ⟨sh, p, o, q, g, -, hp, -⟩ := e
    have := h.1
    omega
  · obtain ⟨sh, k, c, i, q, l, T, -, -, -, -, -, -, -, -, -, -, ⟨-, ca, cb, -⟩, -, -⟩ := e
    exact ⟨(dZ ca (S := [29]) (P := []) (s := 29) (by decide) (by simp) 0).trans h.1, fun j => (dIS cb (S := [86]) (P := []) (s := 86) (by decide) (by simp) 0 j).trans (h.2 j)⟩
set_option maxHeartbeats 2000000 in
theorem IL_ticks {a0 a a' b b' : TS} {u T T' L : Nat} {t : List Int32} (h : IL a0 a b u T L t) (hC' : Core a' b' u) (hw : Wr a a') (hS : StpE TickE a b a' b') (ht : tI b' 95 0 1 = Int32.ofNat T') : IL a0 a' b' u T' L t := by
  obtain ⟨put, D, k, h1, hC, hT, hM, hL, hK, hf, hF, hTL, hN, hW⟩ := h
  obtain ⟨ca, cb⟩ := Fr_ticks hS
  have z : ∀ s, s ∈ [26, 27, 28, 29] → tZ a' s 0 = tZ a s 0 := fun s hs => dZ ca dpk_k1 (s := s) hs 0
  refine ⟨put, D, k, by rw [z 29 (by simp)]; exact h1, hC', ht, MonI_ticks hS hM, LIc_ticks hS hL, KlB_ticks hS hK, FeeI_c hf cb (dpk_sub dpk_k2 (by simp) (by simp)), FtI_ticks hS hF, ?_, ?_, WrX_w hW hw⟩
  · exact TL_g hTL ⟨z 26 (by simp), z 27 (by simp), z 28 (by simp), z 29 (by simp)⟩ (dI cb dpk_k2 (s := 95) (k := 6) (by simp) 0) (fun k hk => pin_R hC.1.1 hC'.1.1 ca (by decide) (dpk_sub dpk_k1 (by simp) (by simp)) hk) (dIS cb dpk_k2 (s := 88) (by simp) 0) (dL cb dpk_k2 (s := 91) (k := 8) (by simp) 0)
  · intro w j hj
    rw [z 29 (by simp)] at w
    rw [z 28 (by simp)] at hj
    have := hS (fun x y => N86 x y (fun j => tI b 86 0 j)) (fun _ _ _ _ e h => N86_tick e h) ⟨w, fun _ => rfl⟩
    rw [this.2, this.2]
    exact hN w j hj
/-- faults are told -/
theorem IL_faults {a0 a a' b b' : TS} {u T L s l k m : Nat} {t : List Int32} (h : IL a0 a b u T L t) (hu : u + 1 ≤ 71) (hC' : Core a' b' (u + 1)) (hw : Wr a a') (ca : chF [8] [] a a') (cb : chF [48] [] b b') (hs : s < tZ a 27 0) (hl : l ≤ 1) (hk : k ≤ 2) (hm : m ≤ 3)
    (h48 : ∀ c' k', tI b' 48 c' k' = if c' = 2 * s + l ∧ k' = k then tI b 48 (2 * s + l) k + Int32.ofNat m else tI b 48 c' k') (hv : ∀ c', c' < 2 * tZ a 27 0 → vQ b' c' = vQ b c') : IL a0 a' b' (u + 1) T (L + if k = 0 then m else 0) t := by
  obtain ⟨put, D, kk, ⟨h1, h2, h3, h4⟩, hC, hT, hM, hL, hK, hf, hF, hTL, hN, hW⟩ := h
  have hAl := hC.1
  have hAl' := hC'.1
  have z27 : tZ a' 27 0 = tZ a 27 0 := dZ ca (S := [27]) (P := []) (s := 27) (by decide) (by simp) 0
  have z29 : tZ a' 29 0 = tZ a 29 0 := dZ ca (S := [29]) (P := []) (s := 29) (by decide) (by simp) 0
  have add : ∀ x : Int32, 0 ≤ x.toInt → x.toInt ≤ 3 * u → (x + Int32.ofNat m).toInt = x.toInt + m := by
    intro x x1 x2
    rw [Int32.toInt_add, Int32.toInt_ofNat_of_lt (by omega)]
    exact Int.bmod_eq_of_le (by omega) (by omega)
  refine ⟨put, D, kk, ⟨by omega, by omega, by omega, hu⟩, hC', ?_, ?_, ?_, ?_, ?_, ?_, ?_, ?_, WrX_w hW hw⟩
  · rw [dI cb (S := []) (P := [(95, 1)]) (s := 95) (k := 1) (by decide) (by simp) 0]; exact hT
  · exact MonI_any hAl.1 hAl'.1 hM ca cb (by decide) (by decide)
  · exact LIc_any hAl hAl' hL ca cb (by decide) (gro_c ca (by decide)) (by decide) (groQ_c cb (by decide)) hv (fun n f _ _ => hI_c cb (S := [53, 61]) (P := []) (by decide) (by simp) (by simp) n f)
  · exact KlB_c hK ca cb (by decide) (by decide)
  · exact FeeI_c hf cb (by decide)
  · refine ⟨fun s' hs' => ?_, fun c' k' hc hk' => ?_⟩
    · rw [z27] at hs'
      have b0 := hF.1 s' hs'
      have b1 := hF.2 (2 * s') 0 (by omega) (by omega)
      have b2 := hF.2 (2 * s' + 1) 0 (by omega) (by omega)
      unfold lostN at *
      rw [x_ix, x_ix] at *
      rw [h48, h48]
      by_cases k0 : k = 0
      · subst k0
        rw [if_pos rfl]
        by_cases e1 : 2 * s' = 2 * s + l
        · rw [if_pos ⟨e1, rfl⟩, if_neg (fun q => by omega), ← e1, add _ b1.1 (by omega)]
          omega
        · rw [if_neg (fun q => e1 q.1)]
          by_cases e2 : 2 * s' + 1 = 2 * s + l
          · rw [if_pos ⟨e2, rfl⟩, ← e2, add _ b2.1 (by omega)]
            omega
          · rw [if_neg (fun q => e2 q.1)]
            omega
      · rw [if_neg (fun q => k0 q.2.symm), if_neg (fun q => k0 q.2.symm), if_neg k0]
        omega
    · rw [z27] at hc
      have b1 := hF.2 c' k' hc hk'
      rw [h48]
      by_cases e : c' = 2 * s + l ∧ k' = k
      · rw [if_pos e, ← e.1, ← e.2, add _ b1.1 (by omega)]
        omega
      · rw [if_neg e]
        omega
  · exact TL_c hTL ca cb (by decide) (by decide)
  · exact NP0_c hN ca cb (by decide) (by decide)
theorem IL_close {a0 a a' b b' : TS} {u T L : Nat} {t : List Int32} (h : IL a0 a b u T L t) (hC' : Core a' b' u) (hw : Wr a a') (e5 : tI b' 95 0 5 = 0) (hc : tI b 95 0 5 = 0 ∧ a' = a ∧ b' = b ∨ tI b 95 0 5 ≠ 0 ∧ tZ a 15 0 = 0 ∧ chF [] [(31, 2)] a a' ∧ chF [73] [(95, 4), (95, 5)] b b') : IL a0 a' b' u T L t := by
  rcases hc with ⟨-, ea, eb⟩ | ⟨-, -, ca, cb⟩
  · subst ea
    subst eb
    exact h
  · obtain ⟨put, D, k, h1, hC, hT, hM, hL, hK, hf, hF, hTL, hN, hW⟩ := h
    have z29 : tZ a' 29 0 = tZ a 29 0 := dZ ca (S := [29]) (P := []) (s := 29) (by decide) (by simp) 0
    refine ⟨put, D, k, by rw [z29]; exact h1, hC', ?_, MonI_any hC.1.1 hC'.1.1 hM ca cb (by decide) (by decide), LIc_close hC hL ca cb e5, KlB_c hK ca cb (by decide) (by decide), FeeI_c hf cb (by decide), FtI_c hF ca cb (by decide) (by decide), TL_c hTL ca cb (by decide) (by decide), NP0_c hN ca cb (by decide) (by decide), WrX_w hW hw⟩
    rw [dI cb (S := []) (P := [(95, 1)]) (s := 95) (k := 1) (by decide) (by simp) 0]; exact hT
theorem IL_open {a0 a a' b b' : TS} {u T L : Nat} {t : List Int32} (h : IL a0 a b u T L t) (hC' : Core a' b' u) (hw : Wr a a') (z15 : tZ a' 15 0 = 0) (hc : tI b 95 0 5 ≠ 0 ∧ a' = a ∧ b' = b ∨
      tI b 95 0 5 = 0 ∧ chF [1, 3, 4, 15] [(31, 2), (35, 1), (37, 14)] a a' ∧ chF [44, 53, 54, 55, 56, 61, 62, 63, 64, 73] [(94, 6), (95, 0), (95, 4), (95, 5)] b b' ∧ ∃ a1 a2 b2, chF [] [(31, 2)] a a1 ∧ StpE EvN a1 b a2 b2 ∧ (∀ j, j < tZ a 15 0 → ∃ p, p < tZ a 29 0 ∧ ntP a j = Int32.ofNat p ∧ (hI b2 p 7 ≠ 0 ∨ Dup b p)) ∧ chF [15] [] a2 a' ∧ chF [73] [(95, 4), (95, 5)] b2 b') : IL a0 a' b' u T L t := by
  rcases hc with ⟨-, ea, eb⟩ | ⟨-, ca, cb, a1, a2, b2, c1, hS, hn, c2, c3⟩
  · subst ea
    subst eb
    exact h
  · obtain ⟨put, D, k, h1, hC, hT, hM, hL, hK, hf, hF, hTL, hN, hW⟩ := h
    have z29 : tZ a' 29 0 = tZ a 29 0 := dZ ca (S := [29]) (P := []) (s := 29) (by decide) (by simp) 0
    refine ⟨put, D, k, by rw [z29]; exact h1, hC', ?_, MonI_open hC'.1.1 hM c1 hS c2 c3, LIc_open hC hC' hL ca cb c1 hS hn c2 c3 z15, KlB_c hK ca cb (by decide) (by decide), FeeI_c hf cb (by decide), FtI_c hF ca cb (by decide) (by decide), TL_c hTL ca cb (by decide) (by decide), NP0_c hN ca cb (by decide) (by decide), WrX_w hW hw⟩
    rw [dI cb (S := []) (P := [(95, 1)]) (s := 95) (k := 1) (by decide) (by simp) 0]; exact hT
/-- a dispute -/
theorem IL_dispute {a0 a a' b b' : TS} {u T L p : Nat} {t : List Int32} (h : IL a0 a b u T L t) (hC' : Core a' b' u) (hw : Wr a a') (hp : p < tZ a 29 0) (hd : dsC b p) (ca : chF [4] [(35, 0), (36, 12)] a a') (cb : chF [43, 46, 61] [] b b') (hP : DspP b b' p) : IL a0 a' b' u T L t := by
  obtain ⟨put, D, k, h1, hC, hT, hM, hL, hK, hf, hF, hTL, hN, hW⟩ := h
  have z29 : tZ a' 29 0 = tZ a 29 0 := dZ ca (S := [29]) (P := []) (s := 29) (by decide) (by simp) 0
  refine ⟨put, D, k, by rw [z29]; exact h1, hC', ?_, MonI_dispute hC.1.1 hC'.1.1 hM hp hd ca cb hP, LIc_dispute hC.1 hC'.1 hL ca cb hP, KlB_c hK ca cb (by decide) (by decide), FeeI_c hf cb (by decide), FtI_c hF ca cb (by decide) (by decide), TL_c hTL ca cb (by decide) (by decide), NP0_c hN ca cb (by decide) (by decide), WrX_w hW hw⟩
  rw [dI cb (S := []) (P := [(95, 1)]) (s := 95) (k := 1) (by decide) (by simp) 0]; exact hT
/-- what a batch leaves as it was -/
theorem Fr_Ss {a a' b b' : TS} (hE : StpE EvS a b a' b') : chF [8, 9, 10, 12, 19, 21, 22] ((38, 10) :: FkA) a a' ∧ chF [48, 49, 50, 51, 52, 66, 67, 68, 70, 74, 75, 77] [] b b' :=
  hE (fun x y => chF [8, 9, 10, 12, 19, 21, 22] ((38, 10) :: FkA) a x ∧ chF [48, 49, 50, 51, 52, 66, 67, 68, 70, 74, 75, 77] [] b y) (fun x y x' y' e h => by
    obtain ⟨sh, p, o, q, g, -, -, -, -, -, -, -, -, c1, d1, -, -⟩ := e
    exact ⟨chF_t h.1 c1, chF_t h.2 d1⟩) ⟨chF_r _ _ _, chF_r _ _ _⟩
theorem IL_sends {a0 a a' b b' : TS} {u T L : Nat} {t : List Int32} (h : IL a0 a b u T L t) (hC' : Core a' b' u) (hw : Wr a a') (hS : StpE EvS a b a' b') : IL a0 a' b' u T L t := by
  obtain ⟨put, D, k, h1, hC, hT, hM, hL, hK, hf, hF, hTL, hN, hW⟩ := h
  obtain ⟨ca, cb⟩ := Fr_Ss hS
  have z29 : tZ a' 29 0 = tZ a 29 0 := dZ ca (S := [29]) (P := []) (s := 29) (by decide) (by simp) 0
  refine ⟨put, D, k, by rw [z29]; exact h1, hC', ?_, hS (fun x y => MonI x y D put) (fun _ _ _ _ e h => MonI_S e h) hM, LIc_Ss hS hL, KlB_Ss hS hK, FeeI_c hf cb (by decide), FtI_Ss hS hF, TL_c hTL ca cb (by decide) (by decide), NP0_c hN ca cb (by decide) (by decide), WrX_w hW hw⟩
  rw [dI cb (S := []) (P := [(95, 1)]) (s := 95) (k := 1) (by decide) (by simp) 0]; exact hT
theorem IL_back {a0 a a' b b' : TS} {u T L : Nat} {t : List Int32} (h : IL a0 a b u T L t) (hC' : Core a' b' u) (hw : Wr a a') (hE : EvB a b a' b') : IL a0 a' b' u T L t := by
  obtain ⟨put, D, k, h1, hC, hT, hM, hL, hK, hf, hF, hTL, hN, hW⟩ := h
  have hE' := hE
  obtain ⟨sh, p, m, o, q, g, -, -, -, -, ca, cb, -, -⟩ := hE'
  have z29 : tZ a' 29 0 = tZ a 29 0 := dZ ca (S := [29]) (P := []) (s := 29) (by decide) (by simp) 0
  refine ⟨put, D, k, by rw [z29]; exact h1, hC', ?_, MonI_B hE hM, LIc_B hE hL, KlB_B hE hK, FeeI_c hf cb (by decide), FtI_B hE hF, TL_c hTL ca cb (by decide) (by decide), NP0_c hN ca cb (by decide) (by decide), WrX_w hW hw⟩
  rw [dI cb (S := []) (P := [(95, 1)]) (s := 95) (k := 1) (by decide) (by simp) 0]; exact hT
/-- a thief: the law's table says so too -/
theorem IL_forge {a0 a a' b b' : TS} {u T L : Nat} {t : List Int32} (h : IL a0 a b u T L t) (hu : u + 1 ≤ 71) (hl : t.length = 60) (hC' : Core a' b' (u + 1)) (hw : Wr a a') (hE : EvF a b a' b') : IL a0 a' b' (u + 1) T L (t.set 4 1) := by
  obtain ⟨put, D, k, ⟨h1, h2, h3, h4⟩, hC, hT, hM, hL, hK, hf, hF, hTL, hN, hW⟩ := h
  have hE' := hE
  obtain ⟨sh, g, -, -, -, e6, ca, cb, -, -⟩ := hE'
  have z : ∀ s, s ∈ [26, 27, 28, 29] → tZ a' s 0 = tZ a s 0 := fun s hs => dZ ca (S := [26, 27, 28, 29]) (P := []) (s := s) (by decide) hs 0
  refine ⟨put, D, k, ⟨by omega, by omega, by rw [z 29 (by simp)]; omega, hu⟩, hC', ?_, MonI_F hE hM, LIc_F hE hL, KlB_F hE hK, FeeI_c hf cb (by decide), FtI_F2 (FtI_F hE hF) (by omega) (Nat.le_refl _), ?_, NP0_c hN ca cb (by decide) (by decide), WrX_w hW hw⟩
  · rw [dI cb (S := []) (P := [(95, 1)]) (s := 95) (k := 1) (by decide) (by simp) 0]; exact hT
  · obtain ⟨⟨q0, q1, q2, q3, -⟩, s2, s3, s4, s5, s6⟩ := hTL
    have g : ∀ j, (t.set 4 1).getD j 0 = if j = 4 then 1 else t.getD j 0 := fun j => getD_set (by omega)
    have e86 := dIS cb (S := [86]) (P := []) (s := 86) (by decide) (by simp) 0
    have e88 := dIS cb (S := [88]) (P := []) (s := 88) (by decide) (by simp) 0
    have e91 := dL cb (S := []) (P := [(91, 8)]) (s := 91) (k := 8) (by decide) (by simp) 0
    unfold TL
    rw [z 26 (by simp), z 27 (by simp), z 28 (by simp), z 29 (by simp), e6, e91]
    refine ⟨⟨by rw [g, if_neg (by omega)]; exact q0, by rw [g, if_neg (by omega)]; exact q1, by rw [g, if_neg (by omega)]; exact q2, by rw [g, if_neg (by omega)]; exact q3, by rw [g, if_pos rfl]⟩, s2, fun x hx => by rw [g, if_neg (by omega)]; exact s3 x hx, fun x hx => ?_, fun x hx => by rw [g, if_neg (by omega), e88]; exact s5 x hx, s6⟩
    rw [g, g, g, if_neg (by omega), if_neg (by omega), if_neg (by omega), e86, e86, e86]
    exact s4 x hx
