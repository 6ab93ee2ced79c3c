/-! ===== money and holds: all events ===== -/
theorem MonI_fr {a a' b b' : TS} {D : Nat} {put : Nat → Int64} {Da Db : List Nat} {Fa Fb : List (Nat × Nat)} (hR : R0 a b) (hR' : R0 a' b') (h : MonI a b D put) (ca : chF Da Fa a a') (cb : chF Db Fb b b') (hP : PM a a' b b') (hd : dpk Da [] [26, 27, 28, 37] [] = true) (hd' : dpk Db Fb [43, 44, 45, 46, 53, 61, 64] [(97, 6), (94, 12), (91, 7), (91, 8)] = true) : MonI a' b' D put :=
  MonI_c hR h (StaP_c hR hR' ca cb hP hd) (fun n f _ _ => hI_c cb hd' (by simp) (by simp) n f) (fun n f _ => hA_c cb hd' (by simp) (by simp) n f) (dI cb hd' (s := 97) (k := 6) (by simp) 0) (dI cb hd' (s := 94) (k := 12) (by simp) 0) ⟨dL cb hd' (s := 91) (k := 8) (by simp) 0, dL cb hd' (s := 91) (k := 7) (by simp) 0⟩
    (fun s => dLS cb hd' (s := 45) (by simp) 0 s) (fun u _ => dLS cb hd' (s := 43) (by simp) 0 u) (fun u _ => dLS cb hd' (s := 44) (by simp) 0 u) (fun u => dLS cb hd' (s := 46) (by simp) 0 u)
/-- only b changes, and nothing of it -/
theorem MonI_b {a b b' : TS} {D : Nat} {put : Nat → Int64} {Db : List Nat} {Fb : List (Nat × Nat)} (h : MonI a b D put) (cb : chF Db Fb b b') (hd' : dpk Db Fb [43, 44, 45, 46, 53, 61, 64, 86, 87] [(97, 6), (94, 12), (91, 7), (91, 8)] = true) : MonI a b' D put := by
  have e1 : ∀ n f, hI b' n f = hI b n f := hI_c cb hd' (by simp) (by simp)
  have e2 : ∀ n f, hA b' n 64 f = hA b n 64 f := hA_c cb hd' (by simp) (by simp)
  have e86 := dIS cb hd' (s := 86) (by simp)
  have e87 := dIS cb hd' (s := 87) (by simp)
  have e43 := dLS cb hd' (s := 43) (by simp)
  have e44 := dLS cb hd' (s := 44) (by simp)
  have e45 := dLS cb hd' (s := 45) (by simp)
  have e46 := dLS cb hd' (s := 46) (by simp)
  have e97 := dI cb hd' (s := 97) (k := 6) (by simp) 0
  have e94 := dI cb hd' (s := 94) (k := 12) (by simp) 0
  have e918 := dL cb hd' (s := 91) (k := 8) (by simp) 0
  have e917 := dL cb hd' (s := 91) (k := 7) (by simp) 0
  have f1 : ∀ t, ctH b' t = ctH b t := fun t => funext fun n => by unfold ctH; rw [e1, e1]
  have f2 : ∀ t, ctL b' t = ctL b t := fun t => funext fun n => by unfold ctL lac; rw [e1, e2, e86]
  have f3 : pmI b' = pmI b := funext fun n => by unfold pmI; rw [e1, e2]
  have f4 : lmI b' = lmI b := funext fun n => by unfold lmI; rw [e1]
  have f5 : shU b' = shU b := funext fun n => by unfold shU; rw [e45, e46]
  have f6 : shD b' = shD b := funext fun n => by unfold shD; rw [e46]
  have f7 : pac b' = pac b := funext fun n => by unfold pac; rw [e86, e87]
  have f8 : pcN b' 1000 = pcN b 1000 := pcN_eq (p := 0) (b := b) (b' := b') (by omega) (fun n hn _ => by rw [e1]) (by rw [e1])
  unfold MonI MaA MaB MaE MaG at *
  simp only [e1, e2, e43, e44, e45, e46, e97, e94, e918, e917, f1, f2, f3, f4, f5, f6, f7, f8]
  exact h
theorem dpk_A : dpk DhA [] [26, 27, 28, 29, 37] [] = true := by decide
theorem MonI_H {a a' b b' : TS} {D : Nat} {put : Nat → Int64} (hE : EvH a b a' b') (h : MonI a b D put) : MonI a' b' D put := by
  obtain ⟨sh, g, q, b1, pre, post, hsh, -, -, -, c1, ⟨-, -, -, -, hu⟩, ⟨b2, c2, hH⟩, ⟨hR, -, -⟩, ⟨hR1, -, -⟩, n, hHrd⟩ := hE
  obtain ⟨hR', -, -, -, hPS, -, -, -, ca, cb, -⟩ := hHrd
  have hC := (r_C hR1).1
  have hP200 := (r_P' hR1).1
  have h1 : MonI a b1 D put := MonI_b h c1 (by decide)
  refine MonI_b (b := b2) ?_ c2 (by decide)
  have e86 : ∀ k, tI b2 86 0 k = tI b1 86 0 k := fun k => (dIS c2 (S := [86]) (P := []) (s := 86) (by decide) (by simp) 0 k).symm.trans (dIS cb (S := [86]) (P := []) (s := 86) (by decide) (by simp) 0 k)
  have e87 : ∀ k, tI b2 87 0 k = tI b1 87 0 k := fun k => (dIS c2 (S := [87]) (P := []) (s := 87) (by decide) (by simp) 0 k).symm.trans (dIS cb (S := [87]) (P := []) (s := 87) (by decide) (by simp) 0 k)
  have z : ∀ s, s ∈ [26, 27, 28, 29, 37] → tZ a' s 0 = tZ a s 0 := fun s hs => (ca s (dpk_S dpk_A hs).1).2.2.2.2.1 0
  have e97 := (dI c2 (S := []) (P := [(97, 6)]) (s := 97) (k := 6) (by decide) (by simp) 0).symm.trans (dI cb (S := []) (P := [(97, 6)]) (s := 97) (k := 6) (by decide) (by simp) 0)
  have e918 := (dL c2 (S := []) (P := [(91, 8)]) (s := 91) (k := 8) (by decide) (by simp) 0).symm.trans (dL cb (S := []) (P := [(91, 8)]) (s := 91) (k := 8) (by decide) (by simp) 0)
  have e917 := (dL c2 (S := []) (P := [(91, 7)]) (s := 91) (k := 7) (by decide) (by simp) 0).symm.trans (dL cb (S := []) (P := [(91, 7)]) (s := 91) (k := 7) (by decide) (by simp) 0)
  have e45 : ∀ k, tL b2 45 0 k = tL b1 45 0 k := fun k => (dLS c2 (S := [45]) (P := []) (s := 45) (by decide) (by simp) 0 k).symm.trans (dLS cb (S := [45]) (P := []) (s := 45) (by decide) (by simp) 0 k)
  have hf : FrM a a' b1 b2 := ⟨⟨⟨z 26 (by simp), z 27 (by simp), z 28 (by simp), Nat.le_of_eq (z 29 (by simp)).symm⟩, fun p _ => ⟨e87 _, e87 _, e87 _, e87 _⟩, fun k _ => e86 _⟩, z 29 (by simp), e97, ⟨e918, e917⟩, e45⟩
  rcases hH with ⟨-, -, hN, -, -⟩ | ⟨-, -, hN, -⟩ | ⟨-, -, hH⟩
  · exact MonI_NoCh hR1 h1 hf hN
  · exact MonI_NoCh hR1 h1 hf hN
  · rcases hH with ⟨g0, p, cd, c, ww, p1, p2, p3, ⟨p4, p5, p6⟩, hA, -, -⟩ | ⟨-, ⟨g0, p, p1, p2, hT, hM⟩ | ⟨g0, n', cd, c, n1, n2, n3, ⟨n4, n5, n6⟩, hP⟩ | ⟨g0, p, n', p1, p2, p3, p4, hB, h44, h12, h13⟩⟩
    · rcases hu with ⟨-, -, -, -, p', cd', c', w1, w2, w3, ⟨w4, -, w5⟩, ⟨w6, w7, -⟩, -⟩ | ⟨u0, -⟩ | ⟨u0, -⟩ | ⟨u0, -⟩
      · have e := o_inj (by omega) (by omega) (w6.symm.trans p4)
        have e2 := o_inj (by omega) (by omega) (w7.symm.trans p5)
        subst e
        subst e2
        exact MonI_ask hR1 h1 hf p1 (by omega) w4 hA
      all_goals rw [g0] at u0; exact absurd u0 (by decide)
    · exact MonI_tb hR1 h1 hf p1 hT hM
    · rcases hu with ⟨u0, -⟩ | ⟨u0, -⟩ | ⟨-, -, -, n0, p, cd', c', w1, w2, w3, w4, w5, ⟨w6, w7, w8, w9⟩, -⟩ | ⟨u0, -⟩
      · rw [g0] at u0; exact absurd u0 (by decide)
      · rw [g0] at u0; exact absurd u0 (by decide)
      · obtain ⟨-, -, -, -, ⟨-, u1, u2⟩, -⟩ := (r_P' hR1).2.2.2.2.1 p w2
        rw [Int32.lt_iff_toInt_lt] at u1
        rw [Int32.le_iff_toInt_le] at u2
        have u1 : (0 : Int) < (tI b1 87 0 (10 * p + 3)).toInt := u1
        have u2 : (tI b1 87 0 (10 * p + 3)).toInt ≤ 100000 := u2
        exact MonI_rec hR1 (by rw [w9]; omega) h1 hf n1 n2 hsh hP
      · rw [g0] at u0; exact absurd u0 (by decide)
    · rcases hu with ⟨u0, -⟩ | ⟨u0, -⟩ | ⟨u0, -⟩ | ⟨-, -, -, -, u5, -⟩
      · rw [g0] at u0; exact absurd u0 (by decide)
      · rw [g0] at u0; exact absurd u0 (by decide)
      · rw [g0] at u0; exact absurd u0 (by decide)
      · exact MonI_bm hR1 h1 hf (by omega) hsh u5 hB h44 h12
theorem MonI_D {a a' b b' : TS} {D : Nat} {put : Nat → Int64} (hE : EvD a b a' b') (h : MonI a b D put) : MonI a' b' D put := by
  obtain ⟨e, ca, ⟨hR, -, -⟩, hR', -, -⟩ := hE
  subst e
  exact MonI_fr hR hR' h ca (chF_r [] [] _) (PM_c ca (chF_r [] [] _) (by decide) (by decide)) (by decide) (by decide)
theorem MonI_T {a a' b b' : TS} {D : Nat} {put : Nat → Int64} (hE : EvT a b a' b') (h : MonI a b D put) : MonI a' b' D put := by
  obtain ⟨sh, g, q, b1, pre, post, hsh, -, -, -, c1, -, -, -, ⟨hR, -⟩, ⟨hR', -, -, -, hPS⟩, ca, cb, -⟩ := hE
  have c : chF (DrB ++ [49, 50, 51, 52, 74, 75]) [] b b' := chF_t (chF_m c1 (by decide) (by simp)) (chF_m cb (by decide) (by simp))
  have hPM : PM a a' b b' := by
    obtain ⟨p1, p2, p3, p4⟩ := hPS.1
    have e87 := dIS c1 (S := [87]) (P := []) (s := 87) (by decide) (by simp) 0
    refine ⟨p1, p2, p3, fun p hp => ?_⟩
    have := p4 p hp
    simp only [e87] at this
    exact this
  exact MonI_fr hR hR' h ca c hPM (by decide) (by decide)
theorem MonI_G {a a' b b' : TS} {D : Nat} {put : Nat → Int64} (hE : EvG a b a' b') (h : MonI a b D put) : MonI a' b' D put := by
  obtain ⟨sh, p, o, q, g, -, -, -, -, -, -, -, -, -, -, -, -, -, -, -, -, ⟨hPS, ca, cb, -⟩, hA, hA'⟩ := hE
  exact MonI_fr hA.1 hA'.1 h ca cb hPS.1 (by decide) (by decide)
theorem MonI_R {a a' b b' : TS} {D : Nat} {put : Nat → Int64} (hE : EvR a b a' b') (h : MonI a b D put) : MonI a' b' D put := by
  obtain ⟨sh, k, c, i, q, l, T, -, -, -, -, -, -, -, -, -, -, ⟨hPS, ca, cb, -⟩, hA, hA'⟩ := hE
  exact MonI_fr hA.1 hA'.1 h ca cb hPS.1 (by decide) (by decide)
theorem EvC_c {a a' b b' : TS} (hE : EvC a b a' b') : chF [] [(25, 0)] a a' ∧ chF [] [(97, 5), (93, 9), (95, 1)] b b' := by
  obtain ⟨T, -, -, e1, e2, -, -⟩ := hE
  subst e1
  subst e2
  exact ⟨chF_I (by decide) (chF_r _ _ _), chF_I (by decide) (chF_I (by decide) (chF_I (by decide) (chF_r _ _ _)))⟩
theorem MonI_C {a a' b b' : TS} {D : Nat} {put : Nat → Int64} (hE : EvC a b a' b') (h : MonI a b D put) : MonI a' b' D put := by
  obtain ⟨ca, cb⟩ := EvC_c hE
  obtain ⟨T, -, -, -, -, hA, hA'⟩ := hE
  exact MonI_fr hA.1 hA'.1 h ca cb (PM_c ca cb (by decide) (by decide)) (by decide) (by decide)
theorem MonI_L {a a' b b' : TS} {D : Nat} {put : Nat → Int64} (hE : EvL a b a' b') (h : MonI a b D put) : MonI a' b' D put := by
  rcases hE with (h1 | h1) | (h1 | h1)
  · exact MonI_H h1 h
  · exact MonI_D h1 h
  · exact MonI_T h1 h
  · exact MonI_D h1 h
theorem MonI_tick {a a' b b' : TS} {D : Nat} {put : Nat → Int64} (hE : TickE a b a' b') (h : MonI a b D put) : MonI a' b' D put := by
  obtain ⟨T, a0, b0, a1, b1, -, -, hC, -, hL, -, hM, -⟩ := hE
  refine hM (fun x y => MonI x y D put) (fun x y x' y' e h => ?_) (hL (fun x y => MonI x y D put) (fun x y x' y' e h => MonI_L e h) (MonI_C hC h))
  rcases e with e | e
  · exact MonI_G e h
  · exact MonI_R e h
theorem MonI_ticks {a a' b b' : TS} {D : Nat} {put : Nat → Int64} (hE : StpE TickE a b a' b') (h : MonI a b D put) : MonI a' b' D put := hE (fun x y => MonI x y D put) (fun _ _ _ _ e h => MonI_tick e h) h
/-- a note heard -/
theorem MonI_N {a a' b b' : TS} {D : Nat} {put : Nat → Int64} (hE : EvN a b a' b') (h : MonI a b D put) : MonI a' b' D put := by
  obtain ⟨k, p, cd, c, -, -, hp, hcd, hc, ⟨p1, p4⟩, hN, ca, cb, hR, hR'⟩ := hE
  have hC := (r_C hR).1
  have hs := StaP_c hR hR' ca cb (PM_c ca cb (by decide) (by decide)) (by decide)
  exact MonI_note hR h ⟨hs, dZ ca (S := [29]) (P := []) (s := 29) (by decide) (by simp) 0, dI cb (S := []) (P := [(97, 6)]) (s := 97) (k := 6) (by decide) (by simp) 0, ⟨dL cb (S := []) (P := [(91, 8)]) (s := 91) (k := 8) (by decide) (by simp) 0, dL cb (S := []) (P := [(91, 7)]) (s := 91) (k := 7) (by decide) (by simp) 0⟩, dLS cb (S := [45]) (P := []) (s := 45) (by decide) (by simp) 0⟩ hp (by omega) p1 hN
