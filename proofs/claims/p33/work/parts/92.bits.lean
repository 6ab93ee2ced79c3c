/-! ===== bits of what is told ===== -/
theorem bv_bit (x : BitVec 32) (k : Nat) (hk : k < 31) : (x.sshiftRight k &&& 1#32 = 1#32) ↔ ¬ (x &&& (1#32 <<< k) = 0#32) := by
  have h1 : (x.sshiftRight k &&& 1#32 = 1#32) ↔ x.getLsbD k = true := by
    constructor
    · intro h
      have h0 : (x.sshiftRight k &&& 1#32).getLsbD 0 = true := by rw [h]; rfl
      rw [BitVec.getLsbD_and, BitVec.getLsbD_sshiftRight] at h0
      have := (Bool.and_eq_true _ _ ▸ h0 : _ ∧ _).1
      rw [if_pos (by omega), Nat.add_zero] at this
      simpa using this
    · intro h
      apply BitVec.eq_of_getLsbD_eq
      intro i hi
      by_cases e : i = 0
      · subst e
        simp [BitVec.getLsbD_and, BitVec.getLsbD_sshiftRight, show k < 32 by omega, h]
      · simp [BitVec.getLsbD_and, BitVec.getLsbD_one, e]
  have h2 : (x &&& (1#32 <<< k) = 0#32) ↔ x.getLsbD k = false := by
    constructor
    · intro h
      have := congrArg (fun y => BitVec.getLsbD y k) h
      simpa [BitVec.getLsbD_and, BitVec.getLsbD_shiftLeft, show k < 32 by omega] using this
    · intro h
      apply BitVec.eq_of_getLsbD_eq
      intro i hi
      by_cases e : i = k
      · subst e
        simp [BitVec.getLsbD_and, h]
      · have : ¬ (k ≤ i ∧ i - k = 0) := by omega
        simp [BitVec.getLsbD_and, BitVec.getLsbD_shiftLeft, BitVec.getLsbD_one]
        intros
        omega
  rw [h1, h2]
  cases x.getLsbD k <;> simp
theorem i32_bit (t : Int32) (k c : Int32) (n : Nat) (hn : n < 31) (hk : (k.toBitVec.smod 32) = BitVec.ofNat 32 n) (hc : c.toBitVec = 1#32 <<< n) : (t >>> k) &&& 1 = 1 ↔ ¬ (t &&& c = 0) := by
  have e1 : ((t >>> k) &&& 1 = 1) ↔ (t.toBitVec.sshiftRight n &&& 1#32 = 1#32) := by
    rw [← Int32.toBitVec_inj, Int32.toBitVec_and, Int32.toBitVec_shiftRight, hk, BitVec.sshiftRight_eq']
    have : (BitVec.ofNat 32 n).toNat = n := by
      rw [BitVec.toNat_ofNat]
      exact Nat.mod_eq_of_lt (by omega)
    rw [this]
    rfl
  have e2 : (t &&& c = 0) ↔ (t.toBitVec &&& (1#32 <<< n) = 0#32) := by
    rw [← Int32.toBitVec_inj, Int32.toBitVec_and, hc]
    rfl
  rw [e1, e2]
  exact bv_bit _ n hn
theorem told1 (t : Int32) : ((t >>> ((1 : Int32) &&& 31)) &&& 1 = 1) ↔ ¬ (t &&& 2 = 0) := i32_bit t _ 2 1 (by decide) (by decide) (by decide)
theorem told2 (t : Int32) : ((t >>> ((2 : Int32) &&& 31)) &&& 1 = 1) ↔ ¬ (t &&& 4 = 0) := i32_bit t _ 4 2 (by decide) (by decide) (by decide)
theorem told3 (t : Int32) : ((t >>> ((3 : Int32) &&& 31)) &&& 1 = 1) ↔ ¬ (t &&& 8 = 0) := i32_bit t _ 8 3 (by decide) (by decide) (by decide)
