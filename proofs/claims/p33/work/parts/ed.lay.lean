/-! ===== those that are laid together ===== -/
theorem nz_bit {v : Nat} (h : v < 1099511627776) : nbt 1 40 (Nat.add v 1099511627775) = ib (!Nat.beq v 0) := by
  rw [nbt_ib]
  have e : Nat.add v 1099511627775 / 2 ^ 40 = if v = 0 then 0 else 1 := by
    show (v + 1099511627775) / 1099511627776 = _
    split <;> omega
  rw [e]
  cases v with
  | zero => rfl
  | succ v => rfl
theorem msk40 {v : Nat} (h : v < 1099511627776) (b : Bool) : Nat.land v (Nat.mul (ib b) 1099511627775) = cond b v 0 := by
  cases b
  · exact Nat.and_zero v
  · exact (and_m v 40).trans (Nat.mod_eq_of_lt h)
theorem insY_c (n o f Y U L : Nat) (k : Nat → Nat → Bool) : insY n o (f + 1) Y U L k =
  (fun t => (fun pt => bif Nat.beq (Nat.sub L pt) 0 then k (Nat.add Y pt) (Nat.add U t) else insY n o f (Nat.add Y pt) (Nat.add U t) (rotY n (Nat.sub L pt)) k)
    (Nat.land L (Nat.mul t 1099511627775))) (Nat.land (nbt o 40 (Nat.add L (Nat.mul 1099511627775 o))) (Nat.sub o U)) := rfl
theorem insY_0 (n o Y U L : Nat) (k : Nat → Nat → Bool) : insY n o 0 Y U L k = false := rfl
theorem insY_ok {n B : Nat} (hn : 1759 ≤ n) (hB : B ≤ 1099511627776) (k : Nat → Nat → Bool) : ∀ (f : Nat) (y : Nat → Nat) (u : Nat → Bool) (l : Nat → Nat), (∀ i, y i < B) → (∀ i, l i < B) → (∀ i, u i = false → y i = 0) →
    insY n (lO n) f (lz n y) (lz n (fun i => ib (u i))) (lz n l) k = true →
    ∃ (y' : Nat → Nat) (u' : Nat → Bool), (∀ i, y' i < B) ∧ (∀ i, u' i = false → y' i = 0) ∧ (∀ v, v ≠ 0 → occ n y v ∨ occ n l v → occ n y' v) ∧ k (lz n y') (lz n (fun i => ib (u' i))) = true := by
  intro f
  induction f with
  | zero => intro y u l _ _ _ h; rw [insY_0] at h; cases h
  | succ f ih =>
    intro y u l hy hlB hu h
    have hl : ∀ i, l i < 1099511627776 := fun i => Nat.lt_of_lt_of_le (hlB i) hB
    have l64 : ∀ i, l i < 2 ^ 64 := fun i => Nat.lt_trans (hl i) (by decide)
    have b64 : ∀ i, Nat.add (l i) 1099511627775 < 2 ^ 64 := fun i => by
      have := hl i
      show l i + 1099511627775 < 2 ^ 64
      omega
    rw [insY_c] at h
    dsimp only at h
    rw [lz_c, lz_add, lz_nb1 40 (by decide) b64 (fun i => nz_bit (hl i)), iv_not, iv_and, lz_mul, lz_and n _ _ l64 (fun i => by have := ib_le (!Nat.beq (l i) 0 && !u i); show _ * 1099511627775 < 2 ^ 64; omega), lz_congr (fun i _ => msk40 (hl i) (!Nat.beq (l i) 0 && !u i)),
      lz_add, lz_sb n l _ (fun i => by cases (!Nat.beq (l i) 0 && !u i); exact Nat.zero_le _; exact Nat.le_refl _), iv_add u _ (fun i h1 h2 => by rw [h1] at h2; simp only [Bool.not_true, Bool.and_false] at h2; cases h2)] at h
    have y0 : ∀ i, (!Nat.beq (l i) 0 && !u i) = true → y i = 0 := fun i h1 => hu i (by
      rw [Bool.and_eq_true] at h1
      have := h1.2
      cases hh : u i
      · rfl
      · rw [hh] at this; cases this)
    have hy' : ∀ i, Nat.add (y i) (cond (!Nat.beq (l i) 0 && !u i) (l i) 0) < B := fun i => by
      have h1 := y0 i
      have h2 := hy i
      have h3 := hlB i
      cases e : (!Nat.beq (l i) 0 && !u i)
      · exact h2
      · rw [h1 e]
        show 0 + l i < _
        omega
    have hl' : ∀ i, Nat.sub (l i) (cond (!Nat.beq (l i) 0 && !u i) (l i) 0) < B := fun i => Nat.lt_of_le_of_lt (Nat.sub_le _ _) (hlB i)
    have hu' : ∀ i, (u i || (!Nat.beq (l i) 0 && !u i)) = false → Nat.add (y i) (cond (!Nat.beq (l i) 0 && !u i) (l i) 0) = 0 := fun i h1 => by
      rw [Bool.or_eq_false_iff] at h1
      rw [h1.2, hu i h1.1]
      rfl
    have hv : ∀ v, v ≠ 0 → occ n y v ∨ occ n l v → occ n (fun i => Nat.add (y i) (cond (!Nat.beq (l i) 0 && !u i) (l i) 0)) v ∨ occ n (fun i => Nat.sub (l i) (cond (!Nat.beq (l i) 0 && !u i) (l i) 0)) v := by
      intro v hv h
      rcases h with ⟨i, h1, h2⟩ | ⟨i, h1, h2⟩
      · refine Or.inl ⟨i, h1, ?_⟩
        cases e : (!Nat.beq (l i) 0 && !u i)
        · dsimp only
          rw [e]
          exact h2
        · exact absurd (h2.symm.trans (y0 i e)) hv
      · cases e : (!Nat.beq (l i) 0 && !u i)
        · refine Or.inr ⟨i, h1, ?_⟩
          dsimp only
          rw [e]
          exact h2
        · refine Or.inl ⟨i, h1, ?_⟩
          dsimp only
          rw [e, y0 i e, h2]
          exact Nat.zero_add v
    cases e2 : Nat.beq (lz n (fun i => Nat.sub (l i) (cond (!Nat.beq (l i) 0 && !u i) (l i) 0))) 0 with
    | true =>
      rw [e2] at h
      refine ⟨_, _, hy', hu', fun v h1 h2 => ?_, h⟩
      rcases hv v h1 h2 with h3 | ⟨i, h3, h4⟩
      · exact h3
      · exact absurd (h4.symm.trans (lz_zero (Nat.eq_of_beq_eq_true e2) i h3)) h1
    | false =>
      rw [e2] at h
      have h : insY n (lO n) f (lz n (fun i => Nat.add (y i) (cond (!Nat.beq (l i) 0 && !u i) (l i) 0))) (lz n (fun i => ib (u i || (!Nat.beq (l i) 0 && !u i)))) (rotY n (lz n (fun i => Nat.sub (l i) (cond (!Nat.beq (l i) 0 && !u i) (l i) 0)))) k = true := h
      rw [lz_rot hn _ (fun i => Nat.lt_trans (Nat.lt_of_lt_of_le (hl' i) hB) (by decide))] at h
      obtain ⟨y', u', g1, g2, g3, g4⟩ := ih _ _ _ hy' (fun i => by split <;> exact hl' _) hu' h
      refine ⟨y', u', g1, g2, fun v h1 h2 => g3 v h1 ?_, g4⟩
      rcases hv v h1 h2 with q | q
      · exact Or.inl q
      · have q2 := occ_rot hn q
        exact Or.inr q2
