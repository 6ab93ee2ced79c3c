/-! ===== a shop comes: the class's cells, read ===== -/
theorem shJ_N (a : TS) (n : Nat) (p0 p1 : Int32) (s : Nat) : tN (shJ a n p0 p1) s = if s = 8 ∨ s = 9 then tN a s + 2 else if s = 36 ∨ s = 18 ∨ s = 19 ∨ s = 20 ∨ s = 21 ∨ s = 22 then tN a s + 1 else tN a s := by
  unfold shJ
  simp only [tN_sR, liA_N, tN_mk, shI_N]
  by_cases e : s = 8
  · subst e; simp (config := {decide := true}) only [if_true, if_false]
  by_cases e1 : s = 9
  · subst e1; simp (config := {decide := true}) only [if_true, if_false]
  by_cases e2 : s = 21
  · subst e2; simp (config := {decide := true}) only [if_true, if_false]
  by_cases e3 : s = 22
  · subst e3; simp (config := {decide := true}) only [if_true, if_false]
  simp only [e, e1, e2, e3, or_self, if_false, or_false]
theorem shA_N (a : TS) (n : Nat) (p0 p1 : Int32) (s : Nat) : tN (shA a n p0 p1) s = if s = 8 ∨ s = 9 then tN a s + 2 else if s = 36 ∨ s = 18 ∨ s = 19 ∨ s = 20 ∨ s = 21 ∨ s = 22 then tN a s + 1 else tN a s := by
  unfold shA
  rw [tN_pushL]
  exact shJ_N a n p0 p1 s
/-- what a new line leaves and what it holds -/
theorem liA_I (m : TS) (sl j f c s i k : Nat) (hs : s = 8 → i ≠ tN m 8) (h9 : s = 9 → i ≠ tN m 9) (hl : ¬ (s = sl ∧ i = j)) : tI (liA m sl j f c) s i k = tI m s i k := by
  unfold liA
  simp only [tI_sR, tI_sI, tI_mk, tN_sR, tN_mk]
  rw [if_neg (fun q => hl ⟨q.1, q.2.1⟩), if_neg (fun q => h9 q.1 (by rw [if_neg (by decide)] at q; exact q.2)), if_neg (fun q => hs q.1 q.2)]
theorem liA_R (m : TS) (sl j f c s i k : Nat) (hs : s = 8 → i ≠ tN m 8) (h9 : s = 9 → i ≠ tN m 9) (hl : ¬ (s = sl ∧ i = j)) : tR (liA m sl j f c) s i k = tR m s i k := by
  unfold liA
  simp only [tR_sR, tR_sI, tR_mk, tN_sR, tN_mk]
  rw [if_neg (fun q => hl ⟨q.1, q.2.1⟩), if_neg (fun q => hl ⟨q.1, q.2.1⟩), if_neg (fun q => h9 q.1 (by rw [if_neg (by decide)] at q; exact q.2)), if_neg (fun q => hl ⟨q.1, q.2.1⟩), if_neg (fun q => hs q.1 q.2)]
theorem liA_L (m : TS) (sl j f c s i k : Nat) (hs : s ≠ 8) (h9 : s ≠ 9) : tL (liA m sl j f c) s i k = tL m s i k := by
  unfold liA
  simp only [tL_sR, tL_sI, tL_mk, tN_sR, tN_mk]
  rw [if_neg (fun q => h9 q.1), if_neg (fun q => hs q.1)]
theorem liA_Z (m : TS) (sl j f c s i : Nat) : tZ (liA m sl j f c) s i = if s = 9 ∧ i = tN m 9 then 0 else if s = 8 ∧ i = tN m 8 then 3 else tZ m s i := by
  unfold liA
  simp (config := {decide := true}) only [tZ_sR, tZ_sI, tZ_mk, tN_sR, tN_mk, if_false]
theorem liA_C (m : TS) (sl j f c s i : Nat) : tC (liA m sl j f c) s i = if s = 9 ∧ i = tN m 9 then 0 else if s = 8 ∧ i = tN m 8 then 0 else tC m s i := by
  unfold liA
  simp (config := {decide := true}) only [tC_sR, tC_sI, tC_mk, tN_sR, tN_mk, if_false]
theorem liA_at (m : TS) (sl j f c : Nat) (h8 : sl ≠ 8) (h9 : sl ≠ 9) : tR (liA m sl j f c) sl j 0 = some (25, 0) ∧ tR (liA m sl j f c) sl j 1 = some (8, f) ∧ tR (liA m sl j f c) sl j 2 = some (9, c) ∧ tI (liA m sl j f c) sl j 3 = 0 ∧ ∀ k, tI (liA m sl j f c) 8 (tN m 8) k = 0 := by
  unfold liA
  refine ⟨?_, ?_, ?_, ?_, fun k => ?_⟩
  · simp (config := {decide := true}) only [tR_sR, tR_sI, tR_mk, true_and, and_self, if_true]
  · simp (config := {decide := true}) only [tR_sR, tR_sI, tR_mk, true_and, false_and, and_false, and_self, if_true, if_false, h8, h9]
  · simp (config := {decide := true}) only [tR_sR, tR_sI, tR_mk, true_and, false_and, and_false, and_self, if_true, if_false, h8, h9]
  · simp (config := {decide := true}) only [tI_sR, tI_sI, tI_mk, true_and, and_self, if_true]
  · have n8 : ¬ 8 = sl := fun q => h8 q.symm
    simp (config := {decide := true}) only [tI_sR, tI_sI, tI_mk, true_and, false_and, and_false, and_self, if_true, if_false, n8]
/-- the shop's own cells -/
theorem shI_old (a : TS) (n : Nat) (p0 p1 : Int32) (s i k : Nat) (h : (s = 36 ∨ s = 18 ∨ s = 19 ∨ s = 20) → i ≠ n) (h36 : tN a 36 = n) (h18 : tN a 18 = n) (h19 : tN a 19 = n) (h20 : tN a 20 = n) : tI (shI a n p0 p1) s i k = tI a s i k ∧ tL (shI a n p0 p1) s i k = tL a s i k ∧ tR (shI a n p0 p1) s i k = tR a s i k ∧ tZ (shI a n p0 p1) s i = tZ a s i ∧ tC (shI a n p0 p1) s i = tC a s i := by
  have a36 : ¬ (s = 36 ∧ i = n) := fun q => h (Or.inl q.1) q.2
  have a18 : ¬ (s = 18 ∧ i = n) := fun q => h (Or.inr (Or.inl q.1)) q.2
  have a19 : ¬ (s = 19 ∧ i = n) := fun q => h (Or.inr (Or.inr (Or.inl q.1))) q.2
  have a20 : ¬ (s = 20 ∧ i = n) := fun q => h (Or.inr (Or.inr (Or.inr q.1))) q.2
  have b36 : ∀ k', ¬ (s = 36 ∧ i = n ∧ k = k') := fun k' q => a36 ⟨q.1, q.2.1⟩
  unfold shI
  refine ⟨?_, ?_, ?_, ?_, ?_⟩
  · simp (config := {decide := true}) only [tI_sR, tI_sI, tI_sL, tI_mk, tN_sR, tN_mk, if_false, h36, h18, h19, h20, a36, a18, a19, a20, b36]
  · simp (config := {decide := true}) only [tL_sR, tL_sI, tL_sL, tL_mk, tN_sR, tN_mk, if_false, h36, h18, h19, h20, a36, a18, a19, a20, b36]
  · simp (config := {decide := true}) only [tR_sR, tR_sI, tR_sL, tR_mk, tN_sR, tN_mk, if_false, h36, h18, h19, h20, a36, a18, a19, a20, b36]
  · simp (config := {decide := true}) only [tZ_sR, tZ_sI, tZ_sL, tZ_mk, tN_sR, tN_mk, if_false, h36, h18, h19, h20, a36, a18, a19, a20, b36]
  · simp (config := {decide := true}) only [tC_sR, tC_sI, tC_sL, tC_mk, tN_sR, tN_mk, if_false, h36, h18, h19, h20, a36, a18, a19, a20, b36]
theorem shI_new (a : TS) (n : Nat) (p0 p1 : Int32) (h36 : tN a 36 = n) (h18 : tN a 18 = n) (h19 : tN a 19 = n) (h20 : tN a 20 = n) :
    (tI (shI a n p0 p1) 36 n 0 = Int32.ofNat n ∧ tI (shI a n p0 p1) 36 n 1 = p0 ∧ tI (shI a n p0 p1) 36 n 2 = p1 ∧ tI (shI a n p0 p1) 36 n 9 = 0 ∧ tI (shI a n p0 p1) 36 n 10 = 0) ∧ (tL (shI a n p0 p1) 36 n 11 = 0 ∧ tL (shI a n p0 p1) 36 n 12 = 0) ∧
    (tR (shI a n p0 p1) 36 n 3 = some (25, 0) ∧ tR (shI a n p0 p1) 36 n 6 = some (18, n) ∧ tR (shI a n p0 p1) 36 n 7 = some (19, n) ∧ tR (shI a n p0 p1) 36 n 8 = some (20, n)) ∧
    (tZ (shI a n p0 p1) 18 n = 0 ∧ tC (shI a n p0 p1) 18 n = 0 ∧ tZ (shI a n p0 p1) 19 n = 0 ∧ tC (shI a n p0 p1) 19 n = 0 ∧ tZ (shI a n p0 p1) 20 n = 100 ∧ ∀ k, tI (shI a n p0 p1) 20 n k = 0) := by
  unfold shI
  refine ⟨⟨?_, ?_, ?_, ?_, ?_⟩, ⟨?_, ?_⟩, ⟨?_, ?_, ?_, ?_⟩, ?_, ?_, ?_, ?_, ?_, fun k => ?_⟩
  · simp (config := {decide := true}) only [tI_sR, tI_sI, true_and, false_and, and_false, and_self, if_true, if_false]
  · simp (config := {decide := true}) only [tI_sR, tI_sI, true_and, false_and, and_false, and_self, if_true, if_false]
  · simp (config := {decide := true}) only [tI_sR, tI_sI, true_and, false_and, and_false, and_self, if_true, if_false]
  · simp (config := {decide := true}) only [tI_sR, tI_sI, tI_sL, true_and, false_and, and_false, and_self, if_true, if_false]
  · simp (config := {decide := true}) only [tI_sR, tI_sI, tI_sL, true_and, false_and, and_false, and_self, if_true, if_false]
  · simp (config := {decide := true}) only [tL_sR, tL_sI, tL_sL, true_and, false_and, and_false, and_self, if_true, if_false]
  · simp (config := {decide := true}) only [tL_sR, tL_sI, tL_sL, true_and, false_and, and_false, and_self, if_true, if_false]
  · simp (config := {decide := true}) only [tR_sR, tR_sI, tR_sL, true_and, false_and, and_false, and_self, if_true, if_false]
  · simp (config := {decide := true}) only [tR_sR, tR_sI, tR_sL, tR_mk, tN_sR, tN_mk, h36, h18, h19, h20, true_and, false_and, and_false, and_self, if_true, if_false]
  · simp (config := {decide := true}) only [tR_sR, tR_sI, tR_sL, tR_mk, tN_sR, tN_mk, h36, h18, h19, h20, true_and, false_and, and_false, and_self, if_true, if_false]
  · simp (config := {decide := true}) only [tR_sR, tR_sI, tR_sL, tR_mk, tN_sR, tN_mk, h36, h18, h19, h20, true_and, false_and, and_false, and_self, if_true, if_false]
  · simp (config := {decide := true}) only [tZ_sR, tZ_sI, tZ_sL, tZ_mk, tN_sR, tN_mk, h36, h18, h19, h20, true_and, false_and, and_false, and_self, if_true, if_false]
  · simp (config := {decide := true}) only [tC_sR, tC_sI, tC_sL, tC_mk, tN_sR, tN_mk, h36, h18, h19, h20, true_and, false_and, and_false, and_self, if_true, if_false]
  · simp (config := {decide := true}) only [tZ_sR, tZ_sI, tZ_sL, tZ_mk, tN_sR, tN_mk, h36, h18, h19, h20, true_and, false_and, and_false, and_self, if_true, if_false]
  · simp (config := {decide := true}) only [tC_sR, tC_sI, tC_sL, tC_mk, tN_sR, tN_mk, h36, h18, h19, h20, true_and, false_and, and_false, and_self, if_true, if_false]
  · simp (config := {decide := true}) only [tZ_sR, tZ_sI, tZ_sL, tZ_mk, tN_sR, tN_mk, h36, h18, h19, h20, true_and, false_and, and_false, and_self, if_true, if_false]
  · simp (config := {decide := true}) only [tI_sR, tI_sI, tI_sL, tI_mk, tN_sR, tN_mk, h36, h18, h19, h20, true_and, false_and, and_false, and_self, if_true, if_false]
