/-! ===== a payment is registered: the cells ===== -/
def RD1 (a b : TS) : Prop := (∀ k, k < tZ a 28 0 → tI a 37 k 4 = tI b 86 0 (10 * k + 6) ∧ tI a 37 k 6 = tI b 86 0 (10 * k) ∧ tI a 37 k 7 = tI b 86 0 (10 * k + 1) ∧ tI a 37 k 8 = tI b 86 0 (10 * k + 2) ∧ tI a 37 k 9 = tI b 86 0 (10 * k + 3) ∧ tI a 37 k 10 = tI b 86 0 (10 * k + 4) ∧ tI a 37 k 11 = tI b 86 0 (10 * k + 5) ∧ bitOk (tI b 86 0 (10 * k + 5)) = true ∧ ∃ n, n ≤ tZ a 29 0 + 1 ∧ tI b 86 0 (10 * k) = Int32.ofNat n) ∧
  ∀ k, 10 * tZ a 28 0 ≤ k → tI b 86 0 k = 0
/-- all parts, while a card has counted and its payment isn't there yet -/
def R0x (a b : TS) : Prop := FxC a ∧ FxR b ∧ RB a b ∧ RS a b ∧ RM a b ∧ RW a b ∧ RV a b ∧ RC a b ∧ RD1 a b ∧ RE a b ∧ RP a b ∧ RQ a b ∧ RH a b ∧ RK a b ∧ RG a b ∧ RO a b ∧ RZ a b
def cuA (a : TS) (cd : Nat) (pin : Int32) : TS := if pin = -1 then sI (sI a 37 cd 8 (tI a 37 cd 8 + 1)) 37 cd 6 (tI a 37 cd 6 + 1) else sI (sI (sI a 37 cd 7 3) 37 cd 8 0) 37 cd 6 (tI a 37 cd 6 + 1)
def cuB (b : TS) (cd : Nat) (pin : Int32) : TS := if pin = -1 then sI (sI b 86 0 (10 * cd + 2) (tI b 86 0 (10 * cd + 2) + 1)) 86 0 (10 * cd + 0) (tI b 86 0 (10 * cd + 0) + 1) else sI (sI (sI b 86 0 (10 * cd + 1) 3) 86 0 (10 * cd + 2) 0) 86 0 (10 * cd + 0) (tI b 86 0 (10 * cd + 0) + 1)
theorem cu_eq (a b : TS) (cd : Nat) (pin : Int32) : chF [] [(37, 6), (37, 7), (37, 8)] a (cuA a cd pin) ∧ Wr a (cuA a cd pin) ∧ chF [86] [] b (cuB b cd pin) ∧ Wr b (cuB b cd pin) := by
  unfold cuA cuB
  by_cases e : pin = -1
  · rw [if_pos e, if_pos e]
    exact ⟨chF_I (by simp) (chF_I (by simp) (chF_r _ _ _)), ((Wr.rf _).cI _ _ _ _).cI _ _ _ _, chF_I (by simp) (chF_I (by simp) (chF_r _ _ _)), ((Wr.rf _).cI _ _ _ _).cI _ _ _ _⟩
  · rw [if_neg e, if_neg e]
    exact ⟨chF_I (by simp) (chF_I (by simp) (chF_I (by simp) (chF_r _ _ _))), (((Wr.rf _).cI _ _ _ _).cI _ _ _ _).cI _ _ _ _, chF_I (by simp) (chF_I (by simp) (chF_I (by simp) (chF_r _ _ _))), (((Wr.rf _).cI _ _ _ _).cI _ _ _ _).cI _ _ _ _⟩
theorem cuA_I (a : TS) (cd : Nat) (pin : Int32) (k f : Nat) : tI (cuA a cd pin) 37 k f = if k = cd then (if f = 6 then tI a 37 cd 6 + 1 else if f = 8 then (if pin = -1 then tI a 37 cd 8 + 1 else 0) else if f = 7 then (if pin = -1 then tI a 37 cd 7 else 3) else tI a 37 k f) else tI a 37 k f := by
  unfold cuA
  by_cases ek : k = cd
  · subst ek
    rw [if_pos rfl]
    by_cases e : pin = -1
    · simp only [e, if_true, tI_sI, true_and]
      by_cases e6 : f = 6
      · rw [if_pos e6, if_pos e6]
      · rw [if_neg e6, if_neg e6]
        by_cases e8 : f = 8
        · rw [if_pos e8, if_pos e8]
        · rw [if_neg e8, if_neg e8]
          by_cases e7 : f = 7
          · rw [if_pos e7, e7]
          · rw [if_neg e7]
    · simp only [e, if_false, tI_sI, true_and]
      by_cases e6 : f = 6
      · rw [if_pos e6, if_pos e6]
        simp (config := {decide := true}) only [if_false]
      · rw [if_neg e6, if_neg e6]
  · rw [if_neg ek]
    by_cases e : pin = -1
    · rw [if_pos e, tI_sI, if_neg (fun q => ek q.2.1), tI_sI, if_neg (fun q => ek q.2.1)]
    · rw [if_neg e, tI_sI, if_neg (fun q => ek q.2.1), tI_sI, if_neg (fun q => ek q.2.1), tI_sI, if_neg (fun q => ek q.2.1)]
theorem cuB_I (b : TS) (cd : Nat) (pin : Int32) (j : Nat) : tI (cuB b cd pin) 86 0 j = if j = 10 * cd then tI b 86 0 (10 * cd) + 1 else if j = 10 * cd + 2 then (if pin = -1 then tI b 86 0 (10 * cd + 2) + 1 else 0) else if j = 10 * cd + 1 then (if pin = -1 then tI b 86 0 (10 * cd + 1) else 3) else tI b 86 0 j := by
  have p01 : ¬ 10 * cd = 10 * cd + 1 := by omega
  have p02 : ¬ 10 * cd = 10 * cd + 2 := by omega
  unfold cuB
  by_cases e : pin = -1
  · simp only [e, if_true, tI_sI, true_and, Nat.add_zero, p02, if_false]
    by_cases e0 : j = 10 * cd
    · rw [if_pos e0, if_pos e0]
    · rw [if_neg e0, if_neg e0]
      by_cases e2 : j = 10 * cd + 2
      · rw [if_pos e2, if_pos e2]
      · rw [if_neg e2, if_neg e2]
        by_cases e1 : j = 10 * cd + 1
        · rw [if_pos e1, e1]
        · rw [if_neg e1]
  · simp only [e, if_false, tI_sI, true_and, Nat.add_zero, p01, p02]
theorem cu_R {a b : TS} {cd : Nat} (pin : Int32) (hR : R0 a b) (hcd : cd < tZ a 28 0) : R0x (cuA a cd pin) (cuB b cd pin) := by
  obtain ⟨ha, wa, hb, wb⟩ := cu_eq a b cd pin
  have aI := cuA_I a cd pin
  have bI := cuB_I b cd pin
  generalize cuA a cd pin = a' at *
  generalize cuB b cd pin = b' at *
  obtain ⟨hFC, hFR, hB, hS, hM, hW, hV, hC, hD, hE, hP, hQ, hH, hK, hG, hO, hZ⟩ := hR
  have z28 : tZ a' 28 0 = tZ a 28 0 := dZ ha (S := [28]) (P := []) (s := 28) (by decide) (by simp) 0
  have z29 : tZ a' 29 0 = tZ a 29 0 := dZ ha (S := [29]) (P := []) (s := 29) (by decide) (by simp) 0
  have hD1 : RD1 a' b' := by
    obtain ⟨d1, d2⟩ := hD
    refine ⟨fun k hk => ?_, fun k hk => ?_⟩
    · rw [z28] at hk
      obtain ⟨q4, q6, q7, q8, q9, q10, q11, q12, n, n1, n2⟩ := d1 k hk
      rw [aI, aI, aI, aI, aI, aI, aI, bI, bI, bI, bI, bI, bI, bI, z29]
      by_cases e : k = cd
      · subst e
        have s0 : ∀ w, 3 ≤ w → ¬ 10 * k + w = 10 * k := fun w h => by omega
        have s2 : ∀ w, 3 ≤ w → ¬ 10 * k + w = 10 * k + 2 := fun w h => by omega
        have s1 : ∀ w, 3 ≤ w → ¬ 10 * k + w = 10 * k + 1 := fun w h => by omega
        have s10 : ¬ 10 * k + 1 = 10 * k := by omega
        have s20 : ¬ 10 * k + 2 = 10 * k := by omega
        have s12 : ¬ 10 * k + 1 = 10 * k + 2 := by omega
        simp (config := {decide := true}) only [if_true, if_false, s0, s1, s2, s10, s20, s12, q4, q6, q7, q8, q9, q10, q11, q12, true_and, n2]
        exact ⟨n + 1, by omega, rfl⟩
      · have s : ∀ w v, w < 10 → v < 10 → ¬ 10 * k + w = 10 * cd + v := fun w v h1 h2 => by omega
        have s0 : ∀ w, w < 10 → ¬ 10 * k + w = 10 * cd := fun w h1 => by omega
        have s00 : ¬ 10 * k = 10 * cd := by omega
        have s01 : ∀ v, v < 10 → ¬ 10 * k = 10 * cd + v := fun v h1 => by omega
        simp (config := {decide := true}) only [if_true, if_false, e, s, s0, s00, s01, q4, q6, q7, q8, q9, q10, q11, q12, true_and, n2]
        exact ⟨n, by omega, rfl⟩
    · rw [z28] at hk
      rw [bI, if_neg (by omega), if_neg (by omega), if_neg (by omega)]
      exact d2 k hk
  exact ⟨FxC_s hFC wa ha (by decide), FxR_s hFR wb hb (by decide), RB_c hB ha hb (by decide) (by decide), RS_c hS ha hb (by decide) (by decide), RM_c hM ha hb (by decide) (by decide), RW_c hW ha hb (by decide) (by decide), RV_c hV ha hb (by decide) (by decide), RC_c hC ha hb (by decide) (by decide), hD1, RE_c hE ha hb (by decide) (by decide), RP_c hP ha hb (by decide) (by decide), RQ_c hQ ha hb (by decide) (by decide), RH_c hH ha hb (by decide) (by decide), RK_c hK ha hb (by decide) (by decide) (gro_c ha (by decide)) (gro_c ha (by decide)) (gro_c ha (by decide)) (gro_c ha (by decide)), RG_c hG ha hb (by decide) (by decide), RO_c hO ha hb (by decide) (by decide), RZ_c hZ ha hb (by decide) (by decide)⟩
