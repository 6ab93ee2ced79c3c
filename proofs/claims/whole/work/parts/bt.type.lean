/-! ===== typing ===== -/
/-- sign j of a long -/
def B8 (p : Int64) (j : Nat) : Int32 := ((p.toUInt64 >>> ((Int32.ofNat (8 * j)).toInt64.toUInt64 &&& Int64.toUInt64 63)).toInt64 &&& (255 : Int64)).toInt32
theorem B8_f (p : Int64) (j : Nat) : ((p.toUInt64 >>> ((Int32.ofNat (8 * j)).toInt64.toUInt64 &&& Int64.toUInt64 63)).toInt64 &&& (255 : Int64)).toInt32 = B8 p j := rfl
theorem o_80 (n : Nat) : (8 : Int32) * Int32.ofNat n = Int32.ofNat (8 * n) := (Int32.ofNat_mul 8 n).symm
theorem pos_s (j : Nat) : Int32.ofNat (8 * (j + 1)) + (-8) = Int32.ofNat (8 * j) := by
  rw [show 8 * (j + 1) = 8 * j + 8 from rfl, Int32.ofNat_add, Int32.add_assoc]
  exact Int32.add_zero _
theorem pos1_s (j : Nat) : Int32.ofNat (j + 1) + (-1) = Int32.ofNat j := by
  rw [Int32.ofNat_add, Int32.add_assoc]
  exact Int32.add_zero _
/-- how many of the first k are signs -/
def cu (p : Int64) : Nat → Nat
  | 0 => 0
  | k + 1 => cu p k + (if B8 p k = 0 then 0 else 1)
theorem cu_s (p : Int64) (k : Nat) : cu p (k + 1) = cu p k + (if B8 p k = 0 then 0 else 1) := rfl
theorem cu_le (p : Int64) : ∀ k, cu p k ≤ k := by
  intro k
  induction k with
  | zero => exact Nat.le_refl _
  | succ k ih =>
    rw [cu_s]
    split <;> omega
def ok8 (p : Int64) (j : Nat) : Prop := B8 p j = 0 ∨ inR (B8 p j) 32 126
def okT8 (p : Int64) (k : Nat) : Prop := ∀ j, j < k → ok8 p j
theorem x77_sum {a : TS} {p : Int64} (hF : FxC a) : ∀ k v, k ≤ 8 →
    (okT8 p k → ∀ z, Ru 77 6 [(0, aR (some (96, 0))), (1, aL p), (3, aI (Int32.ofNat v)), (4, aI (Int32.ofNat (8 * k) + (-8)))] [] (enc 1 a z) = Ru 77 6 [(0, aR (some (96, 0))), (1, aL p), (3, aI (Int32.ofNat (v + cu p k))), (4, aI (Int32.ofNat (8 * 0) + (-8)))] [] (enc 1 a z)) ∧
    (¬ okT8 p k → ∀ z, Ru 77 6 [(0, aR (some (96, 0))), (1, aL p), (3, aI (Int32.ofNat v)), (4, aI (Int32.ofNat (8 * k) + (-8)))] [] (enc 1 a z) = some (.inr 30, enc 1 (aC a 1 6) z)) := by
  intro k
  induction k with
  | zero =>
    intro v _
    exact ⟨fun _ z => rfl, fun h => absurd (show okT8 p 0 from fun j hj => absurd hj (Nat.not_lt_zero j)) h⟩
  | succ k ih =>
    intro v k8
    have z0 : ∀ w : Nat, Int32.ofNat w + 0 = Int32.ofNat w := fun w => Int32.add_zero _
    have n10 : ¬ (1 : Int32) = 0 := by decide
    refine ⟨fun hk z => ?_, fun hk z => ?_⟩
    · have nl : ¬ Int32.ofNat (8 * k) < 0 := o_lt0 (by omega)
      have hk' : okT8 p k := fun j hj => hk j (by omega)
      rw [pos_s]
      conv => lhs; rw [lf_77_6, if_neg nl, B8_f]
      rw [cu_s]
      rcases hk k (by omega) with e | e
      · rw [if_pos e, if_pos e, if_pos e, z0, Nat.add_zero]
        exact (ih v (by omega)).1 hk' z
      · by_cases e0 : B8 p k = 0
        · rw [if_pos e0, if_pos e0, if_pos e0, z0, Nat.add_zero]
          exact (ih v (by omega)).1 hk' z
        · rw [if_neg e0, if_neg e0, x139_1 e, cI_v, if_neg n10, if_neg e0, o_s]
          have := (ih (v + 1) (by omega)).1 hk' z
          rw [show v + 1 + cu p k = v + (cu p k + 1) by omega] at this
          exact this
    · have nl : ¬ Int32.ofNat (8 * k) < 0 := o_lt0 (by omega)
      rw [pos_s]
      rw [lf_77_6, if_neg nl, B8_f]
      by_cases e0 : B8 p k = 0
      · have hk' : ¬ okT8 p k := fun q => hk (fun j hj => by
          by_cases e : j = k
          · rw [e]; exact Or.inl e0
          · exact q j (by omega))
        rw [if_pos e0, if_pos e0, z0]
        exact (ih v (by omega)).2 hk' z
      · by_cases e : inR (B8 p k) 32 126
        · have hk' : ¬ okT8 p k := fun q => hk (fun j hj => by
            by_cases e' : j = k
            · rw [e']; exact Or.inr e
            · exact q j (by omega))
          rw [if_neg e0, x139_1 e, cI_v, if_neg n10, if_neg e0, o_s]
          exact (ih (v + 1) (by omega)).2 hk' z
        · rw [if_neg e0, x139_0 e, cI_v, if_pos rfl, hC_enc]
