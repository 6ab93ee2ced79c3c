/-! ===== what a payment becomes, and what its card then knows: the rest stands ===== -/
def FpA : List (Nat × Nat) := [(37, 4), (37, 7), (37, 8), (37, 9), (37, 10), (37, 11), (38, 5), (38, 7), (38, 8), (38, 9)]
/-- the row of payments: what stays -/
def W87 (b b' : TS) : Prop := (∀ p, tI b' 87 0 (10 * p + 1) = tI b 87 0 (10 * p + 1)) ∧ (∀ p, tI b' 87 0 (10 * p + 2) = tI b 87 0 (10 * p + 2)) ∧ (∀ p, tI b' 87 0 (10 * p + 3) = tI b 87 0 (10 * p + 3)) ∧ (∀ p, tI b' 87 0 (10 * p + 4) = tI b 87 0 (10 * p + 4)) ∧ (∀ p, tI b' 87 0 (10 * p + 6) = tI b 87 0 (10 * p + 6)) ∧ (∀ p, tI b' 87 0 (10 * p + 9) = tI b 87 0 (10 * p + 9))
/-- the row of cards: what stays -/
def W86 (b b' : TS) : Prop := (∀ k, tI b' 86 0 (10 * k + 7) = tI b 86 0 (10 * k + 7)) ∧ (∀ k, tI b' 86 0 (10 * k + 8) = tI b 86 0 (10 * k + 8)) ∧ (∀ k, tI b' 86 0 (10 * k + 9) = tI b 86 0 (10 * k + 9))
theorem W87_pst {b b' : TS} (h : W87 b b') (p : Nat) (t : Int32) : pst b' p t = pst b p t := by
  obtain ⟨e1, e2, e3, e4, -⟩ := h
  unfold pst
  rw [e1, e2, e3, e4]
theorem pq_R0 {a a' b b' : TS} (hR : R0 a b) (ha : chF [] FpA a a') (hb : chF [86, 87] [] b b') (e87 : W87 b b') (e86 : W86 b b') (hz : ∀ k, 10 * tZ a 29 0 ≤ k → tI b' 87 0 k = 0) (hD' : RD a' b') (hQ' : RQ a' b')
    (hs : ∀ p, p < tZ a 29 0 → (tI b 87 0 (10 * p) = 0 ∨ tI b 87 0 (10 * p) = 2) → tI b' 87 0 (10 * p) = tI b 87 0 (10 * p) ∧ tI b' 87 0 (10 * p + 5) = tI b 87 0 (10 * p + 5)) (wa : Wr a a') (wb : Wr b b') : R0 a' b' := by
  obtain ⟨hFC, hFR, hB, hS, hM, hW, hV, hC, hD, hE, hP, hQ, hH, hK, hG, hO, hZ⟩ := hR
  obtain ⟨e1, e2, e3, e4, e6, e9⟩ := e87
  obtain ⟨g7, g8, g9⟩ := e86
  have hd : dpk [] FpA [1, 2, 3, 4, 5, 6, 7, 17, 26, 27, 28, 29] [(37, 0), (37, 2), (37, 3), (37, 5), (37, 14), (38, 0), (38, 3), (38, 4), (38, 6), (38, 11)] = true := by decide
  have hd' : dpk [86, 87] [] [53, 54, 55, 56, 61, 62, 63, 64] [(93, 6), (93, 8), (94, 6)] = true := by decide
  have hC' : RC a' b' := by
    unfold RC capOK at *
    simp only [g7, g8, g9, dN ha hd (s := 1) (by decide), dN ha hd (s := 2) (by decide), dZ ha hd (s := 1) (by decide), dZ ha hd (s := 2) (by decide), dC ha hd (s := 28) (by decide), dI ha hd (s := 37) (k := 0) (by decide), dI ha hd (s := 37) (k := 2) (by decide), dI ha hd (s := 37) (k := 3) (by decide), dI ha hd (s := 37) (k := 5) (by decide), dNP ha hd (s := 37) (k := 0) (by decide), dRP ha hd (s := 37) (k := 0) (by decide), dR ha hd (s := 28) (by decide), dZ ha hd (s := 26) (by decide), dZ ha hd (s := 28) (by decide), dI hb hd' (s := 93) (k := 6) (by decide)]
    exact hC
  have hP' : RP a' b' := by
    obtain ⟨q1, q2, q3, q4, q5, q6, -⟩ := hP
    have z29 := dZ ha hd (s := 29) (by decide) 0
    unfold RP capOK at *
    simp only [e1, e2, e3, e4, e6, e9, dC ha hd (s := 29) (by decide), dI ha hd (s := 38) (k := 0) (by decide), dI ha hd (s := 38) (k := 11) (by decide), dI ha hd (s := 38) (k := 3) (by decide), dI ha hd (s := 38) (k := 4) (by decide), dI ha hd (s := 38) (k := 6) (by decide), dI hb hd' (s := 93) (k := 8) (by decide), dNP ha hd (s := 38) (k := 0) (by decide), dR ha hd (s := 29) (by decide), dRP ha hd (s := 38) (k := 0) (by decide), dZ ha hd (s := 27) (by decide), dZ ha hd (s := 28) (by decide), dZ ha hd (s := 29) (by decide)]
    exact ⟨q1, q2, q3, q4, q5, q6, hz⟩
  have hK' : RK a' b' := by
    obtain ⟨h1, h2, h3⟩ := hK
    refine ⟨KsA_c h1 ha hd (by decide) (by decide), KsB_c h2 hb hd' (by decide) (by decide) (by decide) (by decide) (by decide), fun n hn => ?_⟩
    have h4 := h3 n hn
    unfold KnR at *
    simp only [g9, kI_c ha hd (by decide) (by decide), kR_c ha hd (by decide) (by decide), hI_c hb hd' (by decide) (by decide), hA_c hb hd' (t := 62) (by decide) (by decide), hA_c hb hd' (t := 63) (by decide) (by decide), hA_c hb hd' (t := 64) (by decide) (by decide), dZ ha hd (s := 26) (by decide), dZ ha hd (s := 27) (by decide), dZ ha hd (s := 28) (by decide), dN ha hd (s := 5) (by decide), dN ha hd (s := 6) (by decide), dN ha hd (s := 7) (by decide), dN ha hd (s := 17) (by decide), dIS ha hd (s := 5) (by decide), dIS ha hd (s := 6) (by decide), dIS ha hd (s := 7) (by decide), dIS ha hd (s := 17) (by decide)]
    exact h4
  have hG' : RG a' b' := by
    unfold RG at *
    simp only [e1, e4, dIS ha hd (s := 1) (by decide), dIS hb hd' (s := 54) (by decide), dIS hb hd' (s := 55) (by decide), dIS hb hd' (s := 56) (by decide), dI ha hd (s := 37) (k := 14) (by decide), dI hb hd' (s := 94) (k := 6) (by decide), dZ ha hd (s := 28) (by decide), dZ ha hd (s := 29) (by decide)]
    exact hG
  have hZ' : RZ a' b' := by
    obtain ⟨z1, z2⟩ := hZ
    refine ⟨?_, fun n hn q => ?_⟩
    · simp only [dN ha hd (s := 7) (by decide), kR_c ha hd (by decide) (by decide)]
      exact z1
    · simp only [hI_c hb hd' (by decide) (by decide)] at q ⊢
      obtain ⟨p, p1, p2, p3, p4, p5, p6, p7⟩ := z2 n hn q
      obtain ⟨s1, s2⟩ := hs p p1 p6
      refine ⟨p, by rw [dZ ha hd (s := 29) (by decide)]; exact p1, ?_⟩
      simp only [hA_c hb hd' (t := 64) (by decide) (by decide), kR_c ha hd (by decide) (by decide), dIS ha hd (s := 7) (by decide), e1, e2, e3, e4, s1, s2]
      exact ⟨p2, p3, p4, p5, p6, p7⟩
  exact ⟨FxC_s hFC wa ha (by decide), FxR_s hFR wb hb (by decide), RB_c hB ha hb (by decide) (by decide), RS_c hS ha hb (by decide) (by decide), RM_c hM ha hb (by decide) (by decide), RW_c hW ha hb (by decide) (by decide), RV_c hV ha hb (by decide) (by decide), hC', hD', RE_c hE ha hb (by decide) (by decide), hP', hQ', RH_c hH ha hb (by decide) (by decide), hK', hG', RO_c hO ha hb (by decide) (by decide), hZ'⟩
theorem pq_PS {a a' b b' : TS} (ha : chF [] FpA a a') (e87 : W87 b b') (hs : ∀ p, p < tZ a 29 0 → (tI b 87 0 (10 * p) = 0 ∨ tI b 87 0 (10 * p) = 2) → tI b' 87 0 (10 * p) = tI b 87 0 (10 * p) ∧ tI b' 87 0 (10 * p + 5) = tI b 87 0 (10 * p + 5) ∧ tI b' 87 0 (10 * p + 8) = tI b 87 0 (10 * p + 8)) : PS a a' b b' := by
  obtain ⟨e1, e2, e3, e4, e6, e9⟩ := e87
  have hd : dpk [] FpA [27, 28, 29] [] = true := by decide
  exact ⟨⟨Nat.le_of_eq (dZ ha hd (s := 29) (by decide) 0).symm, Nat.le_of_eq (dZ ha hd (s := 28) (by decide) 0).symm, Nat.le_of_eq (dZ ha hd (s := 27) (by decide) 0).symm, fun p _ => ⟨e1 p, e2 p, e3 p, e4 p⟩⟩, hs⟩
