/-! ===== a payment that the card grants alone ===== -/
theorem paB_87 (b : TS) (p cd : Nat) (m st : Int32) (j : Nat) : tI (paB b p cd m st) 87 0 j = if j = 10 * p + 5 then st else if j = 10 * p then 0 else tI b 87 0 j := by
  unfold paB
  simp (config := {decide := true}) only [tI_sI, true_and, false_and, if_false, Nat.add_zero]
theorem askL_old {b b' : TS} {n s : Nat} (h : ∀ j, j < 10 * n → tI b' 87 0 j = tI b 87 0 j) : askL b' n s = askL b n s := askL_eq (fun p hp => h _ (by omega)) (fun p hp _ => by rw [h _ (by omega)])
theorem askN_old {b b' : TS} {n : Nat} (h : ∀ j, j < 10 * n → tI b' 87 0 j = tI b 87 0 j) : askN b' n = askN b n := by
  unfold askN
  refine List.countP_congr (fun p hp => ?_)
  have := List.mem_range.mp hp
  rw [h _ (by omega)]
theorem askN_succ (b : TS) (n : Nat) : askN b (n + 1) = askN b n + (if tI b 87 0 (10 * n) = 1 then 1 else 0) := by
  unfold askN
  rw [List.range_succ, List.countP_append]
  congr 1
  by_cases e : tI b 87 0 (10 * n) = 1 <;> simp [e]
theorem tick_3k {a b : TS} (hR : R0 a b) : ∃ n, n ≤ 3000 ∧ tI b 95 0 1 = Int32.ofNat n := by
  obtain ⟨⟨h1, h2, h3, n, h4, h5⟩, -⟩ := r_H hR
  exact ⟨n, h4, h3.trans h5⟩
/-- a new payment that the card granted alone: what is beside it -/
def AlnE (a b a' b' Y : TS) (p cd : Nat) : Prop := (∀ c, c < 2 * tZ a 27 0 → vQ b' c = vQ b c) ∧ tZ a' 29 0 = p + 1 ∧ tI b' 87 0 (10 * p) = 0 ∧ (∀ j, j ≠ 10 * p → j ≠ 10 * p + 5 → tI b' 87 0 j = tI Y 87 0 j) ∧ (∀ j, j ≠ 10 * cd + 3 → j ≠ 10 * cd + 4 → tI b' 86 0 j = tI Y 86 0 j) ∧
  chF [29, 38] [(37, 6), (37, 7), (37, 8), (37, 9), (37, 10), (36, 10)] a a' ∧ chF [86, 87, 90] [(93, 8)] b b'
set_option maxHeartbeats 2000000 in
theorem core_alone {a b X Y : TS} {C cd sh c : Nat} {m tch st : Int32} (h : Core a b C) (h200 : tZ a 29 0 < 200) (hcd : cd < tZ a 28 0) (hF : PyF a b X Y (tZ a 29 0) cd sh c m (tI b 95 0 1) tch st) :
    Core (paA X (tZ a 29 0) cd m (pst Y (tZ a 29 0) 1)) (paB Y (tZ a 29 0) cd m (pst Y (tZ a 29 0) 1)) C ∧ Wr a (paA X (tZ a 29 0) cd m (pst Y (tZ a 29 0) 1)) ∧ AlnE a b (paA X (tZ a 29 0) cd m (pst Y (tZ a 29 0) 1)) (paB Y (tZ a 29 0) cd m (pst Y (tZ a 29 0) 1)) Y (tZ a 29 0) cd := by
  obtain ⟨hA, ⟨T, hM⟩, ht⟩ := h
  obtain ⟨hRX, cX, cY, wX, wY, zX, o87, ⟨v0, v1, v2, v3, v4, v5, v6, v9⟩, nX, -, -, -, hPc⟩ := hF
  have z28 : tZ X 28 0 = tZ a 28 0 := dZ cX (S := [28]) (P := []) (s := 28) (by decide) (by simp) 0
  obtain ⟨hR2, -, -, -, -, -, wA, wB⟩ := paid_R0 (p := tZ a 29 0) (cd := cd) (m := m) hRX (by omega) (by omega) v0 rfl
  have cA : chF [] [(37, 9), (37, 10), (38, 7), (38, 5)] X (paA X (tZ a 29 0) cd m (pst Y (tZ a 29 0) 1)) := by
    unfold paA
    exact chF_I (by simp) (chF_I (by simp) (chF_I (by simp) (chF_I (by simp) (chF_r _ _ _))))
  have cB : chF [86, 87] [] Y (paB Y (tZ a 29 0) cd m (pst Y (tZ a 29 0) 1)) := by
    unfold paB
    exact chF_I (by simp) (chF_I (by simp) (chF_I (by simp) (chF_I (by simp) (chF_r _ _ _))))
  have b87 := paB_87 Y (tZ a 29 0) cd m (pst Y (tZ a 29 0) 1)
  have b86 : ∀ j, j ≠ 10 * cd + 3 → j ≠ 10 * cd + 4 → tI (paB Y (tZ a 29 0) cd m (pst Y (tZ a 29 0) 1)) 86 0 j = tI Y 86 0 j := fun j h3 h4 => by
    unfold paB
    rw [tI_sI, if_neg (fun q => absurd q.1 (by decide)), tI_sI, if_neg (fun q => absurd q.1 (by decide)), tI_sI, if_neg (fun q => h4 q.2.2), tI_sI, if_neg (fun q => h3 q.2.2)]
  have nA : ∀ s, tN (paA X (tZ a 29 0) cd m (pst Y (tZ a 29 0) 1)) s = tN X s := fun s => rfl
  have zA : tZ (paA X (tZ a 29 0) cd m (pst Y (tZ a 29 0) 1)) 29 0 = tZ X 29 0 := rfl
  generalize paA X (tZ a 29 0) cd m (pst Y (tZ a 29 0) 1) = a2 at *
  generalize paB Y (tZ a 29 0) cd m (pst Y (tZ a 29 0) 1) = b2 at *
  have ca : chF [29, 38] [(37, 6), (37, 7), (37, 8), (37, 9), (37, 10), (36, 10)] a a2 := chF_t (chF_m cX (by simp) (by simp)) (chF_m cA (by simp) (by simp))
  have cb : chF [86, 87, 90] [(93, 8)] b b2 := chF_t cY (chF_m cB (by simp) (by simp))
  have o2 : ∀ j, j < 10 * tZ a 29 0 → tI b2 87 0 j = tI b 87 0 j := fun j hj => by
    rw [b87, if_neg (by omega), if_neg (by omega)]
    exact o87 j hj
  have s0 : tI b2 87 0 (10 * tZ a 29 0) = 0 := by rw [b87, if_neg (by omega), if_pos rfl]
  have hz : tZ a2 29 0 = tZ a 29 0 + 1 := zA.trans zX
  have hAs := hA.2.2.2.1
  have i95 : tI b2 95 0 1 = tI b 95 0 1 := dIS cb (S := [95]) (P := []) (s := 95) (by decide) (by simp) 0 1
  have hAs2 : As a2 b2 := by
    refine ⟨fun s hs => ?_, fun p hp => ?_⟩
    · rw [dZ ca (S := [27]) (P := []) (s := 27) (by decide) (by simp)] at hs
      have h1 := hAs.1 s hs
      unfold As1 capOK at *
      rw [dZ ca (S := [18]) (P := []) (s := 18) (by decide) (by simp), dC ca (S := [18]) (P := []) (s := 18) (by decide) (by simp), hz, show tR a2 18 s = tR a 18 s from funext (fun k => dR ca (S := [18]) (P := []) (s := 18) (by decide) (by simp) s k), askL_succ, if_neg (fun q => by rw [s0] at q; exact absurd q.2 (by decide)), List.append_nil, askL_old o2]
      exact h1
    · rw [hz] at hp
      rw [i95]
      by_cases e : p = tZ a 29 0
      · subst e
        rw [b87, if_neg (by omega), if_neg (by omega), v6]
        exact ⟨tick_3k hA.1, Int32.le_refl _⟩
      · rw [o2 _ (by omega)]
        exact hAs.2 p (by omega)
  obtain ⟨hA2, -, -, hM2, -⟩ := pre_pay (κ := 0) hA hM hR2 hAs2 h200 ca cb (by decide) (by decide) (by decide) (by decide) (groQ_c cb (by decide +kernel)) hz o2 (by rw [askN_succ, s0, askN_old o2]; exact Nat.le_refl _) (Or.inl rfl) (by
    unfold Kc Kb
    rw [nA, nA, nA, nA, nX, nX, nX, nX, dN cb (S := [76]) (P := []) (s := 76) (by decide) (by simp), dN cb (S := [77]) (P := []) (s := 77) (by decide) (by simp), dN cb (S := [78]) (P := []) (s := 78) (by decide) (by simp)]
    exact ⟨rfl, rfl⟩)
  obtain ⟨-, hv⟩ := Ln0_o hA.2.2.1.1 ca cb (by decide) (by decide) (by decide) (groQ_c cb (by decide +kernel))
  exact ⟨⟨hA2, ⟨T, hM2 rfl⟩, Tx_s ht (sam0_c ca (by decide)) (sam0_c cb (by decide))⟩, wX.t wA, fun c hc => (hv c hc).2, hz, s0, fun j h1 h2 => by rw [b87, if_neg h2, if_neg h1], b86, ca, cb⟩
