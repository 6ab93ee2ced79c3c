/-! ===== a payment is registered: lines, lists and room ===== -/
theorem askL_succ (b : TS) (n s : Nat) : askL b (n + 1) s = askL b n s ++ (if tI b 87 0 (10 * n + 2) = Int32.ofNat s ∧ tI b 87 0 (10 * n) = 1 then [n] else []) := by
  unfold askL
  rw [List.range_succ, List.filter_append]
  congr 1
  by_cases e : tI b 87 0 (10 * n + 2) = Int32.ofNat s ∧ tI b 87 0 (10 * n) = 1
  · rw [if_pos e]
    simp only [List.filter_cons, List.filter_nil, e, and_self, decide_true, if_true]
  · rw [if_neg e]
    simp only [List.filter_cons, List.filter_nil, e, decide_false]
    rfl
theorem unsN_succ (b : TS) (n : Nat) : unsN b (n + 1) ≤ unsN b n + 1 := by
  unfold unsN
  rw [List.range_succ, List.countP_append]
  have := List.countP_le_length (p := fun p => decide (tI b 70 0 p = 0)) (l := [n])
  simp only [List.length_cons, List.length_nil] at this
  omega
theorem pre_pay {D D' : List Nat} {F F' : List (Nat × Nat)} {a a2 b b2 : TS} {C T κ : Nat} (hA : Al a b) (hM : Rm0 a b C T (fun _ => T + 1)) (hR2 : R0 a2 b2) (hAs2 : As a2 b2) (h200 : tZ a 29 0 < 200) (ca : chF D F a a2) (cb : chF D' F' b b2)
    (hd : dpk D F [5, 6, 8, 9, 10, 12, 15, 16, 17, 19, 21, 22, 23, 27, 28, 39] [(31, 2)] = true) (hdD : dpk D [] [15, 27, 28] [] = true) (hd25 : 25 ∉ D) (hd' : dpk D' F' [48, 49, 50, 51, 52, 65, 66, 67, 68, 69, 70, 71, 72, 73, 74, 75, 79, 80, 81] [(95, 1), (95, 4), (95, 5)] = true) (gq' : groQ b b2)
    (hz : tZ a2 29 0 = tZ a 29 0 + 1) (h87 : ∀ j, j < 10 * tZ a 29 0 → tI b2 87 0 j = tI b 87 0 j) (hask : askN b2 (tZ a 29 0 + 1) ≤ askN b (tZ a 29 0) + κ) (hκ : κ = 0 ∨ κ = 1) (hKcb : Kc a2 = Kc a + κ ∧ Kb b2 = Kb b + κ) :
    Al a2 b2 ∧ PS a a2 b b2 ∧ tZ a2 27 0 = tZ a 27 0 ∧ (κ = 0 → Rm0 a2 b2 C T (fun _ => T + 1)) ∧ (κ = 1 → RmO a2 b2 C T 1 2) := by
  obtain ⟨hR, hN, hL, hAs, hK⟩ := hA
  obtain ⟨hKc, hKb⟩ := hKcb
  obtain ⟨m1, m2, m3, m4, m5, m6, m7⟩ := hM
  have z27 : tZ a2 27 0 = tZ a 27 0 := dZ ca hd (s := 27) (by decide) 0
  have z28 : tZ a2 28 0 = tZ a 28 0 := dZ ca hd (s := 28) (by decide) 0
  have z9 : ∀ c, tZ a2 9 c = tZ a 9 c := dZ ca hd (s := 9) (by decide)
  have z19 : ∀ s, tZ a2 19 s = tZ a 19 s := dZ ca hd (s := 19) (by decide)
  have nA : ∀ s, s ∈ [5, 6, 16, 17] → tN a2 s = tN a s := fun s hs => dN ca hd (by simp only [List.mem_cons, List.not_mem_nil, or_false] at hs ⊢; omega)
  have nB : ∀ s, s ∈ [79, 80, 81] → tN b2 s = tN b s := fun s hs => dN cb hd' (by simp only [List.mem_cons, List.not_mem_nil, or_false] at hs ⊢; omega)
  have iB : ∀ s, s ∈ [48, 67, 69, 70] → ∀ i k, tI b2 s i k = tI b s i k := fun s hs => dIS cb hd' (by simp only [List.mem_cons, List.not_mem_nil, or_false] at hs ⊢; omega)
  have hP : PS a a2 b b2 := by
    refine ⟨⟨by omega, Nat.le_of_eq z28.symm, Nat.le_of_eq z27.symm, fun p hp => ⟨h87 _ (by omega), h87 _ (by omega), h87 _ (by omega), h87 _ (by omega)⟩⟩, fun p hp _ => ⟨h87 _ (by omega), h87 _ (by omega), h87 _ (by omega)⟩⟩
  obtain ⟨hL1, hv⟩ := Ln0_o hL.1 ca cb (dpk_sub hd (by decide) (by simp)) hd25 (dpk_sub hd' (by decide) (by simp)) gq'
  have hKT : ∀ s, KTs a2 b2 s = KTs a b s := fun s => KTs_eq (z19 s) (fun k _ => iB 67 (by simp) 0 _)
  have hNt : Nt a2 b2 := Nt_c hN ca cb (by rw [Bool.and_eq_true]; exact ⟨dpk_sub hdD (by decide) (by simp), dpk_sub hd (by simp) (by simp)⟩) (dpk_sub hd' (by decide) (by decide)) hP.1 (gro_c ca (dpk_sub hd (by decide) (by simp))) gq'
  have hK2 : Kp a2 b2 := Kp_c hK ca cb (dpk_sub hd (by decide) (by simp)) (dpk_sub hd' (by decide) (by simp)) hP gq' (fun p hp h => by rw [h87 _ (by omega)]; exact h)
  have hbk : bkN b2 = bkN b := bkN_eq (fun p => iB 69 (by simp) 0 p)
  have hun : unsN b2 (tZ a 29 0 + 1) ≤ unsN b (tZ a 29 0) + 1 := by
    have := unsN_succ b2 (tZ a 29 0)
    rw [unsN_eq (b := b) (b' := b2) (n := tZ a 29 0) (fun p => iB 70 (by simp) 0 p)] at this
    exact this
  have hGK : GK a2 b2 + 1 ≤ GK a b + κ := by
    unfold GK
    rw [hz, hbk]
    omega
  have e1 : sumS (tZ a 27 0) (phi a2 b2) = sumS (tZ a 27 0) (phi a b) := sumS_eq _ (fun s hs => by
    unfold phi
    rw [(hv (2 * s) (by omega)).2, hKT, iB 48 (by simp)])
  have e2 : Mt b2 = Mt b := by unfold Mt; rw [nB 79 (by simp), nB 80 (by simp), nB 81 (by simp)]
  have e3 : sumS (tZ a 27 0) (fun s' => ask0 (vQ b2 (2 * s'))) = sumS (tZ a 27 0) (fun s' => ask0 (vQ b (2 * s'))) := sumS_eq _ (fun s hs => by rw [(hv (2 * s) (by omega)).2])
  have t95 : tI b2 95 0 1 = Int32.ofNat T := by
    rw [dI cb hd' (s := 95) (k := 1) (by decide)]
    exact m3
  refine ⟨⟨hR2, hNt, Ln_c hL hL1 hP z27 hv, hAs2, hK2⟩, hP, z27, fun k0 => ⟨m1, m2, t95, by rw [hz]; omega, by rw [z27, hz, e1, e2]; omega, fun s hs => ?_, fun s hs => ?_⟩, fun k1 => ⟨m1, m2, t95, by rw [hz]; omega, by rw [z27, hz, e1, e2]; omega, fun s hs => ?_, Kc a, by omega, fun s hs => ?_⟩⟩
  · have := m6 s hs
    rw [z27, hz, nA s hs, e3]
    omega
  · rw [z27] at hs
    rw [hKT, (hv (2 * s) (by omega)).2, (hv (2 * s + 1) (by omega)).2, z9, z9, hKc, k0]
    exact m7 s hs
  · have := m6 s hs
    rw [z27, hz, nA s hs, e3]
    omega
  · rw [z27] at hs
    rw [hKT, (hv (2 * s) (by omega)).2, (hv (2 * s + 1) (by omega)).2, z9, z9]
    exact m7 s hs
