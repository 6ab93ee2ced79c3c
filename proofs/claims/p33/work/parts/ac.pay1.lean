/-! ===== a payment is registered: the cells ===== -/
def RD1 (a b : TS) : Prop := (∀ k, k < tZ a 28 0 → tI a 37 k 4 = tI b 86 0 (10 * k + 6) ∧ tI a 37 k 6 = tI b 86 0 (10 * k) ∧ tI a 37 k 7 = tI b 86 0 (10 * k + 1) ∧ tI a 37 k 8 = tI b 86 0 (10 * k + 2) ∧ tI a 37 k 9 = tI b 86 0 (10 * k + 3) ∧ tI a 37 k 10 = tI b 86 0 (10 * k + 4) ∧ tI a 37 k 11 = tI b 86 0 (10 * k + 5) ∧ (bitOk (tI b 86 0 (10 * k + 5)) = true ∧ CdB (tI b 86 0 (10 * k + 1)) (tI b 86 0 (10 * k + 2))) ∧ ∃ n, n ≤ tZ a 29 0 + 1 ∧ tI b 86 0 (10 * k) = Int32.ofNat n) ∧
  ∀ k, 10 * tZ a 28 0 ≤ k → tI b 86 0 k = 0
/-- all parts, while a card has counted and its payment isn't there yet -/
def R0x (a b : TS) : Prop := FxC a ∧ FxR b ∧ RB a b ∧ RS a b ∧ RM a b ∧ RW a b ∧ RV a b ∧ RC a b ∧ RD1 a b ∧ RE a b ∧ RP a b ∧ RQ a b ∧ RH a b ∧ RK a b ∧ RG a b ∧ RO a b ∧ RZ a b
def cuA (a : TS) (cd : Nat) (pin : Int32) : TS := if pin = -1 then sI (sI a 37 cd 8 (tI a 37 cd 8 + 1)) 37 cd 6 (tI a 37 cd 6 + 1) else sI (sI (sI a 37 cd 7 3) 37 cd 8 0) 37 cd 6 (tI a 37 cd 6 + 1)
def cuB (b : TS) (cd : Nat) (pin : Int32) : TS := if pin = -1 then sI (sI b 86 0 (10 * cd + 2) (tI b 86 0 (10 * cd + 2) + 1)) 86 0 (10 * cd + 0) (tI b 86 0 (10 * cd + 0) + 1) else sI (sI (sI b 86 0 (10 * cd + 1) 3) 86 0 (10 * cd + 2) 0) 86 0 (10 * cd + 0) (tI b 86 0 (10 * cd + 0) + 1)
theorem cu_eq (a b : TS) (cd : Nat) (pin : Int32) : chF [] [(37, 6), (37, 7), (37, 8)] a (cuA a cd pin) ∧ Wr a (cuA a cd pin) ∧ chF [86] [] b (cuB b cd pin) ∧ Wr b (cuB b cd pin) := by
  unfold cuA cuB
  by_cases e : pin = -1
  · rw [if_pos e, if_pos e]
    exact ⟨chF_I (by simp) (chF_I (by simp) (chF_r _ _ _)), ((Wr.rf _).cI _ _ _ _).cI _ _ _ _, chF_I (by simp) (chF_I (by simp) (chF_r _ _ _)), ((Wr.rf _).cI _ _ _ _).cI _ _ _ _⟩
  · rw [if_neg e, if_neg e]
    exact ⟨chF_I (by simp) (chF_I (by simp) (chF_I (by simp) (chF_r _ _ _))), (((Wr.rf _).cI _ _ _ _).cI _ _ _ _).cI _ _ _ _, chF_I (by simp) (chF_I (by simp) (chF_I (by simp) (chF_r _ _ _))), (((Wr.rf _).cI _ _ _ _).cI _ _ _ _).cI _ _ _ _⟩
theorem cuA_I (a : TS) (cd : Nat) (pin : Int32) (k f : Nat) : tI (cuA a cd pin) 37 k f = if k = cd then (if f = 6 then tI a 37 cd 6 + 1 else if f = 8 then (if pin = -1 then tI a 37 cd 8 + 1 else 0) else if f = 7 then (if pin = -1 then tI a 37 cd 7 else 3) else tI a 37 k f) else tI a 37 k f := by
  unfold cuA
  by_cases ek : k = cd
  · subst ek
    rw [if_pos rfl]
    by_cases e : pin = -1
    · simp only [e, if_true, tI_sI, true_and]
      by_cases e6 : f = 6
      · rw [if_pos e6, if_pos e6]
      · rw [if_neg e6, if_neg e6]
        by_cases e8 : f = 8
        · rw [if_pos e8, if_pos e8]
        · rw [if_neg e8, if_neg e8]
          by_cases e7 : f = 7
          · rw [if_pos e7, e7]
          · rw [if_neg e7]
    · simp only [e, if_false, tI_sI, true_and]
  · rw [if_neg ek]
    by_cases e : pin = -1
    · rw [if_pos e, tI_sI, if_neg (fun q => ek q.2.1), tI_sI, if_neg (fun q => ek q.2.1)]
    · rw [if_neg e, tI_sI, if_neg (fun q => ek q.2.1), tI_sI, if_neg (fun q => ek q.2.1), tI_sI, if_neg (fun q => ek q.2.1)]
theorem cuB_I (b : TS) (cd : Nat) (pin : Int32) (j : Nat) : tI (cuB b cd pin) 86 0 j = if j = 10 * cd then tI b 86 0 (10 * cd) + 1 else if j = 10 * cd + 2 then (if pin = -1 then tI b 86 0 (10 * cd + 2) + 1 else 0) else if j = 10 * cd + 1 then (if pin = -1 then tI b 86 0 (10 * cd + 1) else 3) else tI b 86 0 j := by
  have p01 : ¬ 10 * cd = 10 * cd + 1 := by omega
  have p02 : ¬ 10 * cd = 10 * cd + 2 := by omega
  unfold cuB
  by_cases e : pin = -1
  · simp only [e, if_true, tI_sI, true_and, Nat.add_zero, p02, if_false]
    by_cases e0 : j = 10 * cd
    · rw [if_pos e0, if_pos e0]
    · rw [if_neg e0, if_neg e0]
      by_cases e2 : j = 10 * cd + 2
      · rw [if_pos e2, if_pos e2]
      · rw [if_neg e2, if_neg e2]
        by_cases e1 : j = 10 * cd + 1
        · rw [if_pos e1, e1]
        · rw [if_neg e1]
  · simp only [e, if_false, tI_sI, true_and, Nat.add_zero, p01, p02]
theorem cu_R {a b : TS} {cd : Nat} (pin : Int32) (hR : R0 a b) (hcd : cd < tZ a 28 0) (h5 : pin = -1 → tI b 86 0 (10 * cd + 2) ≠ 5) : R0x (cuA a cd pin) (cuB b cd pin) := by
  obtain ⟨ha, wa, hb, wb⟩ := cu_eq a b cd pin
  have aI := cuA_I a cd pin
  have bI := cuB_I b cd pin
  generalize cuA a cd pin = a' at *
  generalize cuB b cd pin = b' at *
  obtain ⟨hFC, hFR, hB, hS, hM, hW, hV, hC, hD, hE, hP, hQ, hH, hK, hG, hO, hZ⟩ := hR
  have z28 : tZ a' 28 0 = tZ a 28 0 := dZ ha (S := [28]) (P := []) (s := 28) (by decide) (by simp) 0
  have z29 : tZ a' 29 0 = tZ a 29 0 := dZ ha (S := [29]) (P := []) (s := 29) (by decide) (by simp) 0
  have hD1 : RD1 a' b' := by
    obtain ⟨d1, d2⟩ := hD
    refine ⟨fun k hk => ?_, fun k hk => ?_⟩
    · rw [z28] at hk
      obtain ⟨q4, q6, q7, q8, q9, q10, q11, q12, n, n1, n2⟩ := d1 k hk
      rw [z29]
      by_cases e : k = cd
      · subst e
        have nI : ∀ f, tI a' 37 k f = if f = 6 then tI a 37 k 6 + 1 else if f = 8 then (if pin = -1 then tI a 37 k 8 + 1 else 0) else if f = 7 then (if pin = -1 then tI a 37 k 7 else 3) else tI a 37 k f := fun f => by rw [aI, if_pos rfl]
        have o : ∀ w, 3 ≤ w → tI b' 86 0 (10 * k + w) = tI b 86 0 (10 * k + w) := fun w h => by rw [bI, if_neg (by omega), if_neg (by omega), if_neg (by omega)]
        have o0 : tI b' 86 0 (10 * k) = tI b 86 0 (10 * k) + 1 := by rw [bI, if_pos rfl]
        have o2 : tI b' 86 0 (10 * k + 2) = if pin = -1 then tI b 86 0 (10 * k + 2) + 1 else 0 := by rw [bI, if_neg (by omega), if_pos rfl]
        have o1 : tI b' 86 0 (10 * k + 1) = if pin = -1 then tI b 86 0 (10 * k + 1) else 3 := by rw [bI, if_neg (by omega), if_neg (by omega), if_pos rfl]
        refine ⟨(nI 4).trans (q4.trans (o 6 (by omega)).symm), (nI 6).trans (by rw [o0, ← q6]; rfl), (nI 7).trans (by rw [o1, ← q7]; rfl), (nI 8).trans (by rw [o2, ← q8]; rfl), (nI 9).trans (q9.trans (o 3 (by omega)).symm), (nI 10).trans (q10.trans (o 4 (by omega)).symm), (nI 11).trans (q11.trans (o 5 (by omega)).symm), ⟨by rw [o 5 (by omega)]; exact q12.1, ?_, ?_⟩, n + 1, by omega, by rw [o0, n2, o_s]⟩
        · rw [o1]
          by_cases e : pin = -1
          · rw [if_pos e]
            exact q12.2.1
          · rw [if_neg e]
            exact Or.inr (Or.inr (Or.inr rfl))
        · rw [o2]
          by_cases e : pin = -1
          · rw [if_pos e]
            have h5' := h5 e
            rcases q12.2.2 with q | q | q | q | q | q
            · rw [q]; exact Or.inr (Or.inl rfl)
            · rw [q]; exact Or.inr (Or.inr (Or.inl rfl))
            · rw [q]; exact Or.inr (Or.inr (Or.inr (Or.inl rfl)))
            · rw [q]; exact Or.inr (Or.inr (Or.inr (Or.inr (Or.inl rfl))))
            · rw [q]; exact Or.inr (Or.inr (Or.inr (Or.inr (Or.inr rfl))))
            · exact absurd q h5'
          · rw [if_neg e]
            exact Or.inl rfl
      · have nI : ∀ f, tI a' 37 k f = tI a 37 k f := fun f => by rw [aI, if_neg e]
        have o : ∀ w, w < 10 → tI b' 86 0 (10 * k + w) = tI b 86 0 (10 * k + w) := fun w h => by rw [bI, if_neg (by omega), if_neg (by omega), if_neg (by omega)]
        have o0 : tI b' 86 0 (10 * k) = tI b 86 0 (10 * k) := o 0 (by omega)
        exact ⟨(nI 4).trans (q4.trans (o 6 (by omega)).symm), (nI 6).trans (q6.trans o0.symm), (nI 7).trans (q7.trans (o 1 (by omega)).symm), (nI 8).trans (q8.trans (o 2 (by omega)).symm), (nI 9).trans (q9.trans (o 3 (by omega)).symm), (nI 10).trans (q10.trans (o 4 (by omega)).symm), (nI 11).trans (q11.trans (o 5 (by omega)).symm), by rw [o 5 (by omega), o 1 (by omega), o 2 (by omega)]; exact q12, n, by omega, o0.trans n2⟩
    · rw [z28] at hk
      rw [bI, if_neg (by omega), if_neg (by omega), if_neg (by omega)]
      exact d2 k hk
  have ow : ∀ k w, 3 ≤ w → w < 10 → tI b' 86 0 (10 * k + w) = tI b 86 0 (10 * k + w) := fun k w h1 h2 => by rw [bI, if_neg (by omega), if_neg (by omega), if_neg (by omega)]
  have hC' : RC a' b' := by
    obtain ⟨c1, c2, c3, c4, c5⟩ := hC
    have ai : ∀ f, f ≠ 6 → f ≠ 7 → f ≠ 8 → ∀ i, tI a' 37 i f = tI a 37 i f := fun f h1 h2 h3 i => by
      rw [aI]
      by_cases e : i = cd
      · rw [if_pos e, if_neg h1, if_neg h3, if_neg h2]
      · rw [if_neg e]
    unfold RC capOK at *
    simp only [dRP ha (S := []) (P := [(37, 0)]) (s := 37) (k := 0) (by decide) (by simp), dR ha (S := [28]) (P := []) (s := 28) (by decide) (by simp), dZ ha (S := [1, 2, 26, 28]) (P := []) (s := 28) (by decide) (by simp), dZ ha (S := [1, 2, 26, 28]) (P := []) (s := 26) (by decide) (by simp), dZ ha (S := [1, 2, 28]) (P := []) (s := 1) (by decide) (by simp), dZ ha (S := [1, 2, 28]) (P := []) (s := 2) (by decide) (by simp), dC ha (S := [28]) (P := []) (s := 28) (by decide) (by simp), dNP ha (S := []) (P := [(37, 0)]) (s := 37) (k := 0) (by decide) (by simp), dN ha (S := [1, 2]) (P := []) (s := 1) (by decide) (by simp), dN ha (S := [1, 2]) (P := []) (s := 2) (by decide) (by simp), ai 0 (by decide) (by decide) (by decide), ai 2 (by decide) (by decide) (by decide), ai 3 (by decide) (by decide) (by decide), ai 5 (by decide) (by decide) (by decide), dIS hb (S := [93]) (P := []) (s := 93) (by decide) (by simp)]
    refine ⟨c1, c2, c3, c4, fun k hk => ?_⟩
    rw [ow k 9 (by omega) (by omega), ow k 7 (by omega) (by omega), ow k 8 (by omega) (by omega)]
    exact c5 k hk
  have hK' : RK a' b' := RK_g hK ha hb (by decide) (by decide) (Nat.le_of_eq (dZ ha (S := [26]) (P := []) (s := 26) (by decide) (by simp) 0).symm) (Nat.le_of_eq (dZ ha (S := [27]) (P := []) (s := 27) (by decide) (by simp) 0).symm) (Nat.le_of_eq z28.symm) (fun k _ => ow k 9 (by omega) (by omega))
  exact ⟨FxC_s hFC wa ha (by decide), FxR_s hFR wb hb (by decide), RB_c hB ha hb (by decide) (by decide), RS_c hS ha hb (by decide) (by decide), RM_c hM ha hb (by decide) (by decide), RW_c hW ha hb (by decide) (by decide), RV_c hV ha hb (by decide) (by decide), hC', hD1, RE_c hE ha hb (by decide) (by decide), RP_c hP ha hb (by decide) (by decide), RQ_c hQ ha hb (by decide) (by decide), RH_c hH ha hb (by decide) (by decide), hK', RG_c hG ha hb (by decide) (by decide), RO_c hO ha hb (by decide) (by decide), RZ_c hZ ha hb (by decide) (by decide)⟩
