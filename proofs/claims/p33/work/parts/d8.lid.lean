/-! ===== who was granted what: open, closed, disputes, the start ===== -/
/-- what holds while notes are heard -/
def NtI (a b : TS) : Prop := Ln0 a b ∧ LIc a b ∧ (∀ d g, oUp a b d g → d ≠ tI b 95 0 1) ∧ ∀ k, k < tZ a 15 0 → ∃ i, tR a 15 0 k = some (17, i)
theorem oNt_17 {D : List Nat} {F : List (Nat × Nat)} {a a' : TS} (h : ∀ k, k < tZ a 15 0 → ∃ i, tR a 15 0 k = some (17, i)) (ca : chF D F a a') (hd : dpk D F [15, 17] [] = true) : oNt a' = oNt a := by
  have e17 := dIS ca hd (s := 17) (by simp)
  have r15 := dR ca hd (s := 15) (by simp)
  have z15 := dZ ca hd (s := 15) (by simp) 0
  refine oNt_s ⟨z15, fun k hk => ?_⟩
  obtain ⟨i, hi⟩ := h k hk
  unfold ntP
  rw [r15, hi]
  exact e17 i 1
set_option maxHeartbeats 2000000 in
theorem NtI_N {a a' b b' : TS} (hE : EvN a b a' b') (h : NtI a b) : NtI a' b' := by
  obtain ⟨k, p, cd, c, hk, hkp, hp, hcd, hc, ⟨p1, p4⟩, hN, ca, cb, hR, hR'⟩ := hE
  obtain ⟨hL0, hc0, hnd, h17⟩ := h
  have hP200 := (r_P' hR).1
  have pk : p < 1000 := by omega
  have z15 : tZ a' 15 0 = tZ a 15 0 := dZ ca (S := [15]) (P := []) (s := 15) (by decide) (by simp) 0
  have z27 : tZ a' 27 0 = tZ a 27 0 := dZ ca (S := [27]) (P := []) (s := 27) (by decide) (by simp) 0
  have z29 : tZ a' 29 0 = tZ a 29 0 := dZ ca (S := [29]) (P := []) (s := 29) (by decide) (by simp) 0
  have hkl : ∀ s, s < tZ a 27 0 → kL a' b' s = kL a b s := fun s _ => kL_c ca cb (by decide) (by decide) s
  have hg : groQ b b' := groQ_c cb (by decide)
  obtain ⟨hL0', hv⟩ := Ln0_o hL0 ca cb (by decide) (by decide) (by decide) hg
  obtain ⟨f5, f1, f6, f3⟩ := o95_c cb (by decide)
  have hu : ∀ d g, oUp a' b' d g → oUp a b d g := fun d g ⟨s, s1, s2⟩ => by
    rw [z27] at s1
    rw [(hv (2 * s) (by omega)).2] at s2
    exact ⟨s, s1, s2⟩
  have hd : ∀ d g, oDn a' b' d g → oDn a b d g := fun d g ⟨s, s1, s2⟩ => by
    rw [z27] at s1
    rw [(hv (2 * s + 1) (by omega)).2] at s2
    exact ⟨s, s1, s2⟩
  refine ⟨hL0', ⟨KpQ_same hc0.1 z27 hkl hg, fun ht => ?_⟩, fun d g w => by rw [f1]; exact hnd d g (hu d g w), fun j hj => ?_⟩
  · have hL := hc0.2 (f6.symm.trans ht)
    show LI (tZ a' 29 0) (oPf b') (oCt b') (oSe b') (hI b') (hA b') (oUp a' b') (oDn a' b') (oKp a' b') (oNt a') (tI b' 95 0 5 ≠ 0) (tI b' 95 0 1) (oSw b')
    rw [z29, oPf_c cb (by decide), oCt_c cb (by decide), oSe_c cb (by decide), oKp_same hc0.1 z27 hkl hg, oNt_17 h17 ca (by decide), oSw_c cb (by decide), f5, f1]
    rcases hN with ⟨N, q, n1, n2, n3, n4, n5, n6, -⟩ | ⟨t, -, -, vI, v63, vA, -⟩
    · have e8 := (r_P' hR).2.2.2.1
      have := inj2 (n1.symm.trans e8) (by omega) (by omega)
      subst this
      exact absurd (n6.trans p4.symm) (LI_cd hL q p n3 hp n4 (n5.trans p1.symm))
    · have x := LI_note (H' := hI b') (A' := hA b') (p := p) hL hp ⟨k, hk, hkp⟩ hnd (fun n f h1 h2 h3 => ?_) ?_ (fun n u f h1 h2 => ?_) ⟨?_, ?_, ?_⟩
      · exact LI_less x (fun _ _ _ _ => rfl) (fun _ _ _ _ _ => rfl) (fun _ w => w) hu hd
      · rw [vI n f h1]
        by_cases e : n = p
        · subst e
          rcases h3 with h3 | h3 | h3 | h3
          · exact absurd rfl h3
          all_goals (subst h3; simp)
        · simp [e]
      · rw [vI p 7 pk]; simp
      · rcases h2 with h2 | h2 | ⟨h2, h3⟩
        · exact vA n u f h1 (Or.inl h2)
        · exact vA n u f h1 (Or.inr h2)
        · subst h2
          rw [v63 n f h1]; simp [h3]
      · rw [v63 p 0 pk]
        simp
        exact p1.symm
      · rw [v63 p 1 pk]
        simp
        exact p4.symm
      · rw [v63 p 2 pk]
        simp
        rfl
  · rw [z15] at hj
    obtain ⟨i, hi⟩ := h17 j hj
    exact ⟨i, by rw [dR ca (S := [15]) (P := []) (s := 15) (by decide) (by simp)]; exact hi⟩
theorem nt17 {a b : TS} (h : Nt a b) : ∀ k, k < tZ a 15 0 → ∃ i, tR a 15 0 k = some (17, i) := fun k hk => by
  obtain ⟨i, q, p, cd, c, sh, -, i2, -⟩ := h.2.2.1 k hk
  exact ⟨i, i2⟩
set_option maxHeartbeats 2000000 in
theorem LIc_open {a a' a1 a2 b b' b2 : TS} {C : Nat} (hC : Core a b C) (hC' : Core a' b' C) (h : LIc a b) (ca : chF [1, 3, 4, 15] [(31, 2), (35, 1), (37, 14)] a a') (cb : chF [44, 53, 54, 55, 56, 61, 62, 63, 64, 73] [(94, 6), (95, 0), (95, 4), (95, 5)] b b')
    (c1 : chF [] [(31, 2)] a a1) (hS : StpE EvN a1 b a2 b2) (hn : ∀ j, j < tZ a 15 0 → ∃ p, p < tZ a 29 0 ∧ ntP a j = Int32.ofNat p ∧ (hI b2 p 7 ≠ 0 ∨ Dup b p)) (c2 : chF [15] [] a2 a') (c3 : chF [73] [(95, 4), (95, 5)] b2 b') (z15 : tZ a' 15 0 = 0) : LIc a' b' := by
  obtain ⟨T, hT, ht, hnd⟩ := Core_nd hC
  have hAl := hC.1
  have hAl' := hC'.1
  have hP200 := (r_P' hAl.1).1
  have z27 : tZ a' 27 0 = tZ a 27 0 := dZ ca (S := [27]) (P := []) (s := 27) (by decide) (by simp) 0
  have z29 : tZ a' 29 0 = tZ a 29 0 := dZ ca (S := [29]) (P := []) (s := 29) (by decide) (by simp) 0
  have hkl : ∀ s, s < tZ a 27 0 → kL a' b' s = kL a b s := fun s _ => kL_c ca cb (by decide) (by decide) s
  have hg : groQ b b' := groQ_c cb (by decide)
  have y27 : tZ a1 27 0 = tZ a 27 0 := dZ c1 (S := [27]) (P := []) (s := 27) (by decide) (by simp) 0
  have y29 : tZ a1 29 0 = tZ a 29 0 := dZ c1 (S := [29]) (P := []) (s := 29) (by decide) (by simp) 0
  have x27 : tZ a' 27 0 = tZ a2 27 0 := dZ c2 (S := [27]) (P := []) (s := 27) (by decide) (by simp) 0
  have x29 : tZ a' 29 0 = tZ a2 29 0 := dZ c2 (S := [29]) (P := []) (s := 29) (by decide) (by simp) 0
  have gb : groQ b b := groQ_c (chF_r [] [] b) (by decide)
  have kl1 : ∀ s, s < tZ a 27 0 → kL a1 b s = kL a b s := fun s _ => kL_c c1 (chF_r [] [] b) (by decide) (by decide) s
  have h17 := nt17 hAl.2.1
  have e1 : oNt a1 = oNt a := oNt_17 h17 c1 (by decide)
  have u1 : ∀ d g, oUp a1 b d g → oUp a b d g := fun d g ⟨s, s1, s2⟩ => ⟨s, by omega, s2⟩
  have d1 : ∀ d g, oDn a1 b d g → oDn a b d g := fun d g ⟨s, s1, s2⟩ => ⟨s, by omega, s2⟩
  have nd := NoDue_now hnd hT ht
  have L1 : LIc a1 b := by
    refine ⟨KpQ_same h.1 y27 kl1 gb, fun w => ?_⟩
    have hL := h.2 w
    show LI (tZ a1 29 0) (oPf b) (oCt b) (oSe b) (hI b) (hA b) (oUp a1 b) (oDn a1 b) (oKp a1 b) (oNt a1) (tI b 95 0 5 ≠ 0) (tI b 95 0 1) (oSw b)
    rw [y29, oKp_same h.1 y27 kl1 gb, e1]
    exact LI_less hL (fun _ _ _ _ => rfl) (fun _ _ _ _ _ => rfl) (fun _ w => w) u1 d1
  have I1 : NtI a1 b := by
    refine ⟨(Ln0_o hAl.2.2.1.1 c1 (chF_r [] [] b) (by decide) (by decide) (by decide) gb).1, L1, fun d g w => nd d g (u1 d g w), fun k hk => ?_⟩
    rw [dZ c1 (S := [15]) (P := []) (s := 15) (by decide) (by simp) 0] at hk
    obtain ⟨i, hi⟩ := h17 k hk
    exact ⟨i, by rw [dR c1 (S := [15]) (P := []) (s := 15) (by decide) (by simp)]; exact hi⟩
  obtain ⟨l0, L2, n2, -⟩ := hS NtI (fun _ _ _ _ e h => NtI_N e h) I1
  -- the notes stay while they are heard
  have sN : (∀ p, oNt a2 p ↔ oNt a p) ∧ tI b2 95 0 6 = tI b 95 0 6 := by
    have := hS (fun x y => ((∀ k, k < tZ x 15 0 → ∃ i, tR x 15 0 k = some (17, i)) ∧ oNt x = oNt a) ∧ tI y 95 0 6 = tI b 95 0 6) (fun x y x' y' e ⟨⟨w1, w2⟩, w3⟩ => by
      obtain ⟨k, p, cd, c, -, -, -, -, -, -, -, ca', cb', -, -⟩ := e
      refine ⟨⟨fun j hj => ?_, (oNt_17 w1 ca' (by decide)).trans w2⟩, (o95_c cb' (by decide)).2.2.1.trans w3⟩
      rw [dZ ca' (S := [15]) (P := []) (s := 15) (by decide) (by simp) 0] at hj
      obtain ⟨i, hi⟩ := w1 j hj
      exact ⟨i, by rw [dR ca' (S := [15]) (P := []) (s := 15) (by decide) (by simp)]; exact hi⟩) ⟨⟨I1.2.2.2, e1⟩, rfl⟩
    exact ⟨fun p => by rw [this.1.2], this.2⟩
  have f6 : tI b' 95 0 6 = tI b2 95 0 6 := dI c3 (S := []) (P := [(95, 6)]) (s := 95) (k := 6) (by decide) (by simp) 0
  have f1 : tI b' 95 0 1 = tI b2 95 0 1 := dI c3 (S := []) (P := [(95, 1)]) (s := 95) (k := 1) (by decide) (by simp) 0
  have g2 : groQ b2 b' := groQ_c c3 (by decide)
  have kl2 : ∀ s, s < tZ a2 27 0 → kL a' b' s = kL a2 b2 s := fun s _ => kL_c c2 c3 (by decide) (by decide) s
  have hv := (Ln0_o l0 c2 c3 (by decide) (by decide) (by decide) g2).2
  refine ⟨KpQ_same h.1 z27 hkl hg, fun w => ?_⟩
  have hLa := h.2 (sN.2.symm.trans (f6.symm.trans w))
  have hL := L2.2 (f6.symm.trans w)
  show LI (tZ a' 29 0) (oPf b') (oCt b') (oSe b') (hI b') (hA b') (oUp a' b') (oDn a' b') (oKp a' b') (oNt a') (tI b' 95 0 5 ≠ 0) (tI b' 95 0 1) (oSw b')
  rw [x29, oPf_c c3 (by decide), oCt_c c3 (by decide), oSe_c c3 (by decide), oKp_same L2.1 x27 kl2 g2, f1]
  have eH : ∀ n f, hI b' n f = hI b2 n f := hI_c c3 (S := [53, 61]) (P := []) (by decide) (by simp) (by simp)
  have eA : ∀ n t f, t = 62 ∨ t = 63 ∨ t = 64 → hA b' n t f = hA b2 n t f := fun n t f ht => hA_c c3 (S := [53, 62, 63, 64]) (P := []) (t := t) (by decide) (by simp) (by rcases ht with q | q | q <;> subst q <;> simp) n f
  have x := LI_open (nt' := oNt a') (opn' := tI b' 95 0 5 ≠ 0) (swd' := oSw b') hL n2 (fun p hp hp2 => by
    rw [← x29, z29] at hp
    obtain ⟨j, j1, j2⟩ := (sN.1 p).mp hp2
    obtain ⟨p', p1, p2, p3⟩ := hn j j1
    have := inj2 (j2.symm.trans p2) (by omega) (by omega)
    subst this
    rcases p3 with p3 | ⟨N, q, n1, n2, n3, n4, n5, n6⟩
    · exact p3
    · have e8 := (r_P' hAl.1).2.2.2.1
      have := inj2 (n1.symm.trans e8) (by omega) (by omega)
      subst this
      exact absurd n6 (LI_cd hLa q p n3 p1 n4 n5)) (fun p _ ⟨k, k1, _⟩ => by rw [z15] at k1; omega)
  exact LI_less x (fun n f _ _ => eH n f) (fun n t f _ ht => eA n t f ht) (fun _ w => w) (fun d g ⟨s, s1, s2⟩ => by
    rw [x27] at s1
    rw [(hv (2 * s) (by omega)).2] at s2
    exact ⟨s, s1, s2⟩) (fun d g ⟨s, s1, s2⟩ => by
    rw [x27] at s1
    rw [(hv (2 * s + 1) (by omega)).2] at s2
    exact ⟨s, s1, s2⟩)
set_option maxHeartbeats 2000000 in
theorem LIc_close {a a' b b' : TS} {C : Nat} (hC : Core a b C) (h : LIc a b) (ca : chF [] [(31, 2)] a a') (cb : chF [73] [(95, 4), (95, 5)] b b') (e5 : tI b' 95 0 5 = 0) : LIc a' b' := by
  obtain ⟨T, hT, ht, hnd⟩ := Core_nd hC
  have hAl := hC.1
  have z27 : tZ a' 27 0 = tZ a 27 0 := dZ ca (S := [27]) (P := []) (s := 27) (by decide) (by simp) 0
  have z29 : tZ a' 29 0 = tZ a 29 0 := dZ ca (S := [29]) (P := []) (s := 29) (by decide) (by simp) 0
  have hkl : ∀ s, s < tZ a 27 0 → kL a' b' s = kL a b s := fun s _ => kL_c ca cb (by decide) (by decide) s
  have hg : groQ b b' := groQ_c cb (by decide)
  have hv := (Ln0_o hAl.2.2.1.1 ca cb (by decide) (by decide) (by decide) hg).2
  have f6 : tI b' 95 0 6 = tI b 95 0 6 := dI cb (S := []) (P := [(95, 6)]) (s := 95) (k := 6) (by decide) (by simp) 0
  have f1 : tI b' 95 0 1 = tI b 95 0 1 := dI cb (S := []) (P := [(95, 1)]) (s := 95) (k := 1) (by decide) (by simp) 0
  refine ⟨KpQ_same h.1 z27 hkl hg, fun w => ?_⟩
  have hL := h.2 (f6.symm.trans w)
  show LI (tZ a' 29 0) (oPf b') (oCt b') (oSe b') (hI b') (hA b') (oUp a' b') (oDn a' b') (oKp a' b') (oNt a') (tI b' 95 0 5 ≠ 0) (tI b' 95 0 1) (oSw b')
  rw [z29, oPf_c cb (by decide), oCt_c cb (by decide), oSe_c cb (by decide), oKp_same h.1 z27 hkl hg, oNt_17 (nt17 hAl.2.1) ca (by decide), f1]
  have eH : ∀ n f, hI b' n f = hI b n f := hI_c cb (S := [53, 61]) (P := []) (by decide) (by simp) (by simp)
  have eA : ∀ n t f, t = 62 ∨ t = 63 ∨ t = 64 → hA b' n t f = hA b n t f := fun n t f ht => hA_c cb (S := [53, 62, 63, 64]) (P := []) (t := t) (by decide) (by simp) (by rcases ht with q | q | q <;> subst q <;> simp) n f
  have x := LI_clk (opn' := tI b' 95 0 5 ≠ 0) (now' := tI b 95 0 1) (swd' := oSw b') hL (NoDue_now hnd hT ht) (fun _ q => q e5)
  exact LI_less x (fun n f _ _ => eH n f) (fun n t f _ ht => eA n t f ht) (fun _ w => w) (fun d g ⟨s, s1, s2⟩ => by
    rw [z27] at s1
    rw [(hv (2 * s) (by omega)).2] at s2
    exact ⟨s, s1, s2⟩) (fun d g ⟨s, s1, s2⟩ => by
    rw [z27] at s1
    rw [(hv (2 * s + 1) (by omega)).2] at s2
    exact ⟨s, s1, s2⟩)
theorem LIc_dispute {a a' b b' : TS} {p : Nat} (hAl : Al a b) (hAl' : Al a' b') (h : LIc a b) (ca : chF [4] [(35, 0), (36, 12)] a a') (cb : chF [43, 46, 61] [] b b') (hP : DspP b b' p) : LIc a' b' := by
  obtain ⟨k, t, s, -, -, -, -, -, -, vI, vA, -⟩ := hP
  have hg : groQ b b' := groQ_c cb (by decide)
  exact LIc_any hAl hAl' h ca cb (by decide) (gro_c ca (by decide)) (by decide) hg (fun c hc => ((Ln0_o hAl.2.2.1.1 ca cb (by decide) (by decide) (by decide) hg).2 c hc).2) (fun n f h1 h2 => by rw [vI n f h1, if_neg (by omega), if_neg (by omega)])
/-- at the start -/
theorem LIc_0 {a b : TS} (hAl : Al a b) (h1 : tZ a 29 0 = 0) (h2 : ∀ n f, n < 1000 → hI b n f = if f = 15 then -1 else 0) (h3 : ∀ c, c < 2 * tZ a 27 0 → vQ b c = []) (h4 : ∀ s, s < tZ a 27 0 → tZ a 19 s = 0) (h5 : tZ a 15 0 = 0) : LIc a b := by
  refine ⟨KpQ_of hAl.2.2.2.2, fun _ => LI_0 h1 (fun n f hn hf => by rw [h2 n f hn, if_neg (by omega)]) (fun d g ⟨s, s1, s2⟩ => ?_) (fun d g ⟨s, s1, s2⟩ => ?_) (fun g ⟨s, s1, s2⟩ => ?_) (fun p _ ⟨k, k1, _⟩ => by rw [h5] at k1; omega)⟩
  · rw [h3 (2 * s) (by omega)] at s2
    exact List.not_mem_nil s2
  · rw [h3 (2 * s + 1) (by omega)] at s2
    exact List.not_mem_nil s2
  · unfold KM kL at s2
    rw [h4 s s1] at s2
    exact List.not_mem_nil s2
