/-! ===== a payment: the reference's row ===== -/
theorem paA_ov (P : TS) (p cd : Nat) (m st u v : Int32) : paA (sI (sI P 38 p 7 u) 38 p 5 v) p cd m st = paA P p cd m st := by
  have e9 : tI (sI (sI P 38 p 7 u) 38 p 5 v) 37 cd 9 = tI P 37 cd 9 := by rw [tI_sI, if_neg (fun q => absurd q.1 (by decide)), tI_sI, if_neg (fun q => absurd q.1 (by decide))]
  have e10 : tI (sI (sI P 38 p 7 u) 38 p 5 v) 37 cd 10 = tI P 37 cd 10 := by rw [tI_sI, if_neg (fun q => absurd q.1 (by decide)), tI_sI, if_neg (fun q => absurd q.1 (by decide))]
  unfold paA
  rw [e9, e10]
  refine Prod.ext ?_ rfl
  funext s' i' k'
  show tI (sI (sI (sI (sI (sI (sI P 38 p 7 u) 38 p 5 v) 37 cd 9 (tI P 37 cd 9 + 1)) 37 cd 10 (tI P 37 cd 10 + m)) 38 p 7 0) 38 p 5 st) s' i' k' = tI (sI (sI (sI (sI P 37 cd 9 (tI P 37 cd 9 + 1)) 37 cd 10 (tI P 37 cd 10 + m)) 38 p 7 0) 38 p 5 st) s' i' k'
  simp only [tI_sI]
  by_cases c5 : s' = 38 ∧ i' = p ∧ k' = 5
  · rw [if_pos c5, if_pos c5]
  · rw [if_neg c5, if_neg c5, if_neg c5]
    by_cases c7 : s' = 38 ∧ i' = p ∧ k' = 7
    · rw [if_pos c7, if_pos c7]
    · rw [if_neg c7, if_neg c7, if_neg c7]
theorem paB_ov (P : TS) (p cd : Nat) (m st u v : Int32) : paB (sI (sI P 87 0 (10 * p + 0) u) 87 0 (10 * p + 5) v) p cd m st = paB P p cd m st := by
  have e86 : ∀ j, tI (sI (sI P 87 0 (10 * p + 0) u) 87 0 (10 * p + 5) v) 86 0 j = tI P 86 0 j := fun j => by rw [tI_sI, if_neg (fun q => absurd q.1 (by decide)), tI_sI, if_neg (fun q => absurd q.1 (by decide))]
  unfold paB
  rw [e86, e86]
  refine Prod.ext ?_ rfl
  funext s' i' k'
  show tI (sI (sI (sI (sI (sI (sI P 87 0 (10 * p + 0) u) 87 0 (10 * p + 5) v) 86 0 (10 * cd + 3) (tI P 86 0 (10 * cd + 3) + 1)) 86 0 (10 * cd + 4) (tI P 86 0 (10 * cd + 4) + m)) 87 0 (10 * p + 0) 0) 87 0 (10 * p + 5) st) s' i' k' = tI (sI (sI (sI (sI P 86 0 (10 * cd + 3) (tI P 86 0 (10 * cd + 3) + 1)) 86 0 (10 * cd + 4) (tI P 86 0 (10 * cd + 4) + m)) 87 0 (10 * p + 0) 0) 87 0 (10 * p + 5) st) s' i' k'
  simp only [tI_sI]
  by_cases c5 : s' = 87 ∧ i' = 0 ∧ k' = 10 * p + 5
  · rw [if_pos c5, if_pos c5]
  · rw [if_neg c5, if_neg c5, if_neg c5]
    by_cases c7 : s' = 87 ∧ i' = 0 ∧ k' = 10 * p + 0
    · rw [if_pos c7, if_pos c7]
    · rw [if_neg c7, if_neg c7, if_neg c7]
theorem pst_ov (P : TS) (p : Nat) (u v t : Int32) : pst (sI (sI P 87 0 (10 * p + 0) u) 87 0 (10 * p + 5) v) p t = pst P p t := by
  unfold pst
  have e : ∀ w, w = 1 ∨ w = 2 ∨ w = 3 ∨ w = 4 → tI (sI (sI P 87 0 (10 * p + 0) u) 87 0 (10 * p + 5) v) 87 0 (10 * p + w) = tI P 87 0 (10 * p + w) := fun w hw => by rw [tI_sI, if_neg (fun q => by omega), tI_sI, if_neg (fun q => by omega)]
  rw [e 1 (by simp), e 2 (by simp), e 3 (by simp), e 4 (by simp)]
