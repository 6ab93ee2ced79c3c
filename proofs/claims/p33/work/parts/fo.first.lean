/-! ===== the start: what holds between calls holds before the first ===== -/
/-- outside the sites D nothing was written; no longs at all -/
def ZZ (D : List Nat) (m : TS) : Prop := (∀ s, s ∉ D → (∀ i k, tI m s i k = 0) ∧ ∀ i k, tR m s i k = none) ∧ ∀ s i k, tL m s i k = 0
theorem ZZ_I {D : List Nat} {m : TS} {s i k : Nat} {v : Int32} (hs : s ∈ D ∨ v = 0) (h : ZZ D m) : ZZ D (sI m s i k v) := ⟨fun t ht => ⟨fun i' k' => by
  rw [tI_sI]
  split
  · rename_i e
    rcases hs with q | q
    · exact absurd (e.1 ▸ q) ht
    · exact q
  · exact (h.1 t ht).1 i' k', (h.1 t ht).2⟩, h.2⟩
theorem ZZ_R {D : List Nat} {m : TS} {s i k : Nat} {v : Option (Nat × Nat)} (hs : s ∈ D) (h : ZZ D m) : ZZ D (sR m s i k v) := ⟨fun t ht => ⟨(h.1 t ht).1, fun i' k' => by
  rw [tR_sR, if_neg (fun e : t = s ∧ i' = i ∧ k' = k => ht (e.1 ▸ hs))]
  exact (h.1 t ht).2 i' k'⟩, h.2⟩
theorem ZZ_L {D : List Nat} {m : TS} {s i k : Nat} (h : ZZ D m) : ZZ D (sL m s i k 0) := ⟨h.1, fun t i' k' => by
  rw [tL_sL]
  split
  · rfl
  · exact h.2 t i' k'⟩
theorem ZZ_A {D : List Nat} {m : TS} {c n : Nat} (h : ZZ D m) : ZZ D (aC m c n) := h
theorem ZZ_M {D : List Nat} {m : TS} {s z c n : Nat} (h : ZZ D m) : ZZ D (mk m s z c n) := ⟨fun t ht => ⟨fun i' k' => by
  rw [tI_mk]
  split
  · rfl
  · exact (h.1 t ht).1 i' k', fun i' k' => by
  rw [tR_mk]
  split
  · rfl
  · exact (h.1 t ht).2 i' k'⟩, fun t i' k' => by
  rw [tL_mk]
  split
  · rfl
  · exact h.2 t i' k'⟩
theorem ZZ_a : ZZ [24, 25, 30, 31, 96] aS0 := by
  unfold aS0 kk76 kk63 kk13 kk12 kk51
  repeat (first | refine ZZ_I (by decide) ?_ | refine ZZ_R (by decide) ?_ | refine ZZ_L ?_ | refine ZZ_A ?_ | refine ZZ_M ?_)
  exact ⟨fun _ _ => ⟨fun _ _ => rfl, fun _ _ => rfl⟩, fun _ _ _ => rfl⟩
theorem ZZ_b : ZZ [59, 82, 83, 91, 92, 93, 94, 95, 97] bS0 := by
  unfold bS0 kk248 kk188 kk157 muB kk223 kk215b kk215a kk143
  repeat (first | refine ZZ_I (by decide) ?_ | refine ZZ_R (by decide) ?_ | refine ZZ_L ?_ | refine ZZ_A ?_ | refine ZZ_M ?_)
  exact ⟨fun _ _ => ⟨fun _ _ => rfl, fun _ _ => rfl⟩, fun _ _ _ => rfl⟩
theorem s_FC : FxC aS0 := by
  unfold FxC
  refine ⟨?_, by decide +kernel⟩
  show ∀ s ∈ sB, tN aS0 s = 0
  decide +kernel
theorem s_FR : FxR bS0 := by
  unfold FxR
  refine ⟨by show ∀ s ∈ sA, tN bS0 s = 0; decide +kernel, ?_⟩
  repeat (first | exact (fun s hs => by have : s = 0 ∨ s = 1 ∨ s = 2 ∨ s = 3 := by omega
                                        rcases this with e | e | e | e <;> subst e <;> decide +kernel) | refine ⟨by decide +kernel, ?_⟩ | decide +kernel)
theorem s_z : tZ aS0 26 0 = 0 ∧ tZ aS0 27 0 = 0 ∧ tZ aS0 28 0 = 0 ∧ tZ aS0 29 0 = 0 ∧ tZ aS0 15 0 = 0 ∧ tZ aS0 13 0 = 0 ∧ tN aS0 4 = 0 ∧ tN bS0 61 = 0 ∧ tN aS0 7 = 0 ∧ tN aS0 9 = 0 := by decide +kernel
theorem s_cap : ∀ s, s ∈ [15, 26, 27, 28, 29] → capOK aS0 s 0 := by
  unfold capOK
  decide +kernel
theorem v0 {n k : Nat} {P : Prop} (e : n = 0) (h : k < n) : P := absurd (e ▸ h) (Nat.not_lt_zero _)
theorem s_R0 : R0 aS0 bS0 := by
  obtain ⟨z26, z27, z28, z29, z15, z13, n4, n61, n7, n9⟩ := s_z
  have iB : ∀ s, s ∉ [59, 82, 83, 91, 92, 93, 94, 95, 97] → ∀ i k, tI bS0 s i k = 0 := fun s h => (ZZ_b.1 s h).1
  have rB : ∀ i k, tR bS0 53 i k = none := (ZZ_b.1 53 (by decide)).2
  have rA : ∀ i k, tR aS0 3 i k = none := (ZZ_a.1 3 (by decide)).2
  have lA := ZZ_a.2
  have lB := ZZ_b.2
  have kI0 : ∀ n f, kI aS0 n f = if f = 12 then -1 else 0 := fun n f => by
    unfold kI
    rw [rA]
  have kR0 : ∀ n f, kR aS0 n f = none := fun n f => by
    unfold kR
    rw [rA]
  have hI0 : ∀ n f, hI bS0 n f = if f = 15 then -1 else 0 := fun n f => by
    unfold hI
    rw [rB]
  have hA0 : ∀ n t f, hA bS0 n t f = if f = 0 then -1 else 0 := fun n t f => by
    unfold hA
    rw [rB]
  have h8 : ∀ n, hI bS0 n 8 = 0 := fun n => (hI0 n 8).trans (if_neg (by decide))
  have kn : ∀ n, KnR aS0 bS0 n := fun n => by
    unfold KnR
    refine ⟨⟨?_, ?_, ?_, ?_⟩, ⟨?_, ?_, ?_, ?_, ?_, ?_, ?_, ?_, ?_⟩, ⟨?_, ?_⟩, ⟨?_, ?_, ?_⟩, ⟨?_, ?_, ?_⟩⟩ <;> simp (config := {decide := true}) [kI0, kR0, hI0, hA0, bitOk]
  refine ⟨s_FC, s_FR, ?_, ?_, ?_, ?_, ?_, ?_, ?_, ?_, ?_, ?_, ?_, ?_, ?_, ?_, ?_⟩
  · exact ⟨by rw [z26]; decide, s_cap 26 (by decide), by decide +kernel, by decide +kernel, fun k h => v0 z26 h, fun k _ => ⟨lB _ _ _, iB 47 (by decide) _ _⟩, (lA _ _ _).trans (lB _ _ _).symm, (lA _ _ _).trans (lB _ _ _).symm⟩
  · exact ⟨by rw [z27]; decide, s_cap 27 (by decide), by decide +kernel, by decide +kernel, fun k h => v0 z27 h⟩
  · exact ⟨fun k h => v0 z27 h, fun s _ => ⟨iB 69 (by decide) _ _, iB 90 (by decide) _ _⟩⟩
  · exact ⟨fun k h => v0 z27 h, fun s _ => ⟨lB _ _ _, lB _ _ _⟩⟩
  · exact ⟨fun k h => v0 z27 h, fun s _ n => iB 60 (by decide) _ _⟩
  · exact ⟨by rw [z28]; decide, s_cap 28 (by decide), by decide +kernel, by decide +kernel, fun k h => v0 z28 h⟩
  · exact ⟨fun k h => v0 z28 h, fun k _ => iB 86 (by decide) _ _⟩
  · exact ⟨fun k h => v0 z28 h, fun k _ => ⟨iB 58 (by decide) _ _, iB 57 (by decide) _ _⟩⟩
  · exact ⟨by rw [z29]; decide, s_cap 29 (by decide), by decide +kernel, by decide +kernel, fun k h => v0 z29 h, fun p p' _ h => v0 z29 h, fun k _ => iB 87 (by decide) _ _⟩
  · exact ⟨fun k h => v0 z29 h, fun k _ => iB 70 (by decide) _ _⟩
  · exact ⟨⟨by decide +kernel, by decide +kernel, by decide +kernel, 0, by decide, by decide +kernel⟩, by decide +kernel, ⟨by decide +kernel, 1, by decide, by decide, by decide +kernel⟩, by decide +kernel⟩
  · exact ⟨⟨fun n _ => Or.inl (rA _ _), fun n n' _ _ _ h => absurd (rA _ _) h, fun j h => v0 n4 h⟩, ⟨fun n _ => Or.inl (rB _ _), fun n n' _ _ _ h => absurd (rB _ _) h, by decide +kernel, fun j h => v0 n61 h, fun j h => v0 n61 h⟩, fun n _ => kn n⟩
  · exact ⟨0, by decide, by decide +kernel, fun k h => absurd h (Nat.not_lt_zero _), fun cd c h => v0 z28 h, fun k k' _ h => absurd h (Nat.not_lt_zero _), fun cd h => v0 z28 h⟩
  · exact ⟨fun cd c h => v0 z28 h, fun n _ h => absurd (h8 n) h, by decide +kernel⟩
  · exact ⟨fun i h => v0 n7 h, fun n _ h => absurd (h8 n) h⟩
theorem s_Al : Al aS0 bS0 := by
  obtain ⟨z26, z27, z28, z29, z15, z13, n4, n61, n7, n9⟩ := s_z
  have iB : ∀ s, s ∉ [59, 82, 83, 91, 92, 93, 94, 95, 97] → ∀ i k, tI bS0 s i k = 0 := fun s h => (ZZ_b.1 s h).1
  refine ⟨s_R0, ?_, ?_, ?_, ?_⟩
  · exact ⟨s_cap 15 (by decide), by decide +kernel, fun k h => v0 z15 h, fun k k' _ h => v0 z15 h, fun cd _ => by rw [iB 73 (by decide), z15]; rfl, fun _ => z15, by decide +kernel⟩
  · refine ⟨⟨?_, ?_, fun s h => v0 z27 h, fun c h => v0 (by rw [z27]) h, ?_⟩, fun s h => v0 z27 h⟩
    · rw [z27]
      exact ⟨⟨fun c h => v0 n9 h, fun c c' k k' h => v0 n9 h, fun c h => v0 n9 h⟩, n9, fun c h => v0 rfl h⟩
    · rw [z27]
      exact ⟨fun c h => v0 rfl h, fun c c' h => v0 rfl h⟩
    · refine ⟨fun c h => v0 (by rw [z27]) h, ?_⟩
      unfold S5 s5 sumC
      decide +kernel
  · exact ⟨fun s h => v0 z27 h, fun p h => v0 z29 h⟩
  · exact ⟨fun s h => v0 z27 h, fun s _ => iB 68 (by decide) _ _⟩
theorem s_Rm : Rm0 aS0 bS0 0 0 (fun _ => 0 + 1) := by
  obtain ⟨z26, z27, z28, z29, z15, z13, n4, n61, n7, n9⟩ := s_z
  have g : GK aS0 bS0 = 800 := by
    unfold GK askN unsN bkN sumS
    decide +kernel
  have k0 : Kc aS0 = 0 := by decide +kernel
  have m0 : Mt bS0 = 0 := by decide +kernel
  have k1 : Kb bS0 = 0 := by decide +kernel
  have t0 : ∀ s, s ∈ [5, 6, 16, 17] → tN aS0 s = 0 := by decide +kernel
  refine ⟨by decide, by decide, by decide +kernel, ?_, ?_, fun s hs => ?_, fun s h => v0 z27 h⟩
  · rw [g, k0, k1, z29]
    decide
  · rw [g, m0, z27, z29]
    decide
  · rw [t0 s hs, z27, z29]
    decide
