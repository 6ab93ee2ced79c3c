/-! ===== an act of many at once is an act of each ===== -/
def ib (b : Bool) : Nat := cond b 1 0
theorem ib_le (b : Bool) : ib b ≤ 1 := by cases b <;> decide
theorem ib_lt (b : Bool) : ib b < 2 ^ 64 := by cases b <;> decide
abbrev lO (n : Nat) : Nat := lz n (fun _ => 1)
section
variable {n : Nat}
theorem iv_and (p q : Nat → Bool) : Nat.land (lz n (fun i => ib (p i))) (lz n (fun i => ib (q i))) = lz n (fun i => ib (p i && q i)) := by
  rw [lz_and n _ _ (fun i => ib_lt _) (fun i => ib_lt _)]
  exact lz_congr (fun i _ => by cases p i <;> cases q i <;> rfl)
theorem iv_or (p q : Nat → Bool) : Nat.lor (lz n (fun i => ib (p i))) (lz n (fun i => ib (q i))) = lz n (fun i => ib (p i || q i)) := by
  rw [lz_or n _ _ (fun i => ib_lt _) (fun i => ib_lt _)]
  exact lz_congr (fun i _ => by cases p i <;> cases q i <;> rfl)
theorem iv_sub (p q : Nat → Bool) (h : ∀ i, q i = true → p i = true) : Nat.sub (lz n (fun i => ib (p i))) (lz n (fun i => ib (q i))) = lz n (fun i => ib (p i && !q i)) := by
  rw [lz_sb n _ _ (fun i => by have := h i; cases hq : q i; exact Nat.zero_le _; rw [this hq]; exact Nat.le_refl _)]
  exact lz_congr (fun i _ => by have := h i; cases hq : q i <;> cases hp : p i <;> first | rfl | (rw [this hq] at hp; cases hp))
theorem iv_not (q : Nat → Bool) : Nat.sub (lO n) (lz n (fun i => ib (q i))) = lz n (fun i => ib (!q i)) := iv_sub (fun _ => true) q (fun _ _ => rfl)
theorem iv_add (p q : Nat → Bool) (h : ∀ i, p i = true → q i = true → False) : Nat.add (lz n (fun i => ib (p i))) (lz n (fun i => ib (q i))) = lz n (fun i => ib (p i || q i)) := by
  rw [lz_add]
  exact lz_congr (fun i _ => by have := h i; cases hq : q i <;> cases hp : p i <;> first | rfl | exact (this hp hq).elim)
theorem iv_nsl (a : Nat → Nat) (p : Nat → Bool) (h : ∀ i, a i < 4294967296) : nsl (lz n a) (lz n (fun i => ib (p i))) = lz n (fun i => cond (p i) (a i) 0) := by
  rw [lz_nsl (fun i => Nat.lt_trans (h i) (by decide)) (fun i => ib_le _)]
  exact lz_congr (fun i _ => by
    rw [nsl_01 (h i) (ib_le _)]
    cases p i <;> rfl)
theorem iv_0 : (0 : Nat) = lz n (fun _ => ib false) := by
  induction n with
  | zero => rfl
  | succ n ih =>
    show 0 = 2 ^ 64 * lz n (fun _ => ib false) + 0
    rw [← ih]
end
/-! bits -/
theorem nbt_d (k X : Nat) : nbt 1 k X = X / 2 ^ k % 2 := by
  unfold nbt
  rw [shr_d]
  exact and_m _ 1
theorem nbt_ib (k X : Nat) : nbt 1 k X = ib (X / 2 ^ k % 2 == 1) := by
  rw [nbt_d]
  have : X / 2 ^ k % 2 = 0 ∨ X / 2 ^ k % 2 = 1 := by omega
  rcases this with e | e <;> rw [e] <;> rfl
theorem tabT : ∀ m, m < 22 → nbt 1 5 (nT 1 m) = ib (Nat.ble 7 m) ∧ nbt 1 11 (nH 1 (nT 1 m)) = ib (Nat.ble 10 m && Nat.ble m 14) ∧ nbt 1 17 (nH 1 (nT 1 m)) = ib (Nat.beq m 15) ∧ nbt 1 23 (nH 1 (nT 1 m)) = ib (Nat.beq m 16) ∧ nbt 1 29 (nH 1 (nT 1 m)) = ib (Nat.beq m 17) ∧ nbt 1 35 (nH 1 (nT 1 m)) = ib (Nat.beq m 18) ∧ nbt 1 47 (nH 1 (nT 1 m)) = ib (Nat.beq m 20) ∧ nbt 1 53 (nH 1 (nT 1 m)) = ib (Nat.beq m 21) := by decide +kernel
/-- the act, from what is known of its draws -/
def selB (th any : Bool) (m : Nat) (z3 z4 e2 : Bool) (a2 a3 a4 a5 a6 a7 a8 : Nat) : Nat :=
  if m < 7 then (if e2 = true then a8 else a7) else if m < 10 then a2 else if m < 15 then a4 else if m = 15 then a5 else if m = 16 then a3 else if m = 17 then a5
  else if m = 18 then (if z3 = true then (if z4 = true then a5 else a6) else a3) else if m = 19 then a2 else if any = true then (if m = 20 then (if th = true then a6 else a4) else a3) else a2
def sumB (b3 b4 b5 b6 l b8 : Bool) (a2 a3 a4 a5 a6 a7 a8 : Nat) : Nat := Nat.add (cond (!(b3 || b4 || (b5 || b6 || l))) a2 0) (Nat.add (cond b3 a3 0) (Nat.add (cond b4 a4 0) (Nat.add (cond b5 a5 0) (Nat.add (cond b6 a6 0) (Nat.add (cond (l && !b8) a7 0) (cond b8 a8 0))))))
theorem sm2 (a2 a3 a4 a5 a6 a7 a8 : Nat) : sumB false false false false false false a2 a3 a4 a5 a6 a7 a8 = a2 := rfl
theorem sm3 (a2 a3 a4 a5 a6 a7 a8 : Nat) : sumB true false false false false false a2 a3 a4 a5 a6 a7 a8 = a3 := Nat.zero_add a3
theorem sm4 (a2 a3 a4 a5 a6 a7 a8 : Nat) : sumB false true false false false false a2 a3 a4 a5 a6 a7 a8 = a4 := (Nat.zero_add (0 + a4)).trans (Nat.zero_add a4)
theorem sm5 (a2 a3 a4 a5 a6 a7 a8 : Nat) : sumB false false true false false false a2 a3 a4 a5 a6 a7 a8 = a5 := (Nat.zero_add (0 + (0 + a5))).trans ((Nat.zero_add (0 + a5)).trans (Nat.zero_add a5))
theorem sm6 (a2 a3 a4 a5 a6 a7 a8 : Nat) : sumB false false false true false false a2 a3 a4 a5 a6 a7 a8 = a6 := by
  show 0 + (0 + (0 + (0 + a6))) = a6
  omega
theorem sm7 (a2 a3 a4 a5 a6 a7 a8 : Nat) : sumB false false false false true false a2 a3 a4 a5 a6 a7 a8 = a7 := by
  show 0 + (0 + (0 + (0 + (0 + a7)))) = a7
  omega
theorem sm8 (a2 a3 a4 a5 a6 a7 a8 : Nat) : sumB false false false false true true a2 a3 a4 a5 a6 a7 a8 = a8 := by
  show 0 + (0 + (0 + (0 + (0 + (0 + a8))))) = a8
  omega
theorem selB_eq : ∀ (th any z3 z4 e2 : Bool) (m : Nat), m < 22 → ∀ a2 a3 a4 a5 a6 a7 a8 : Nat,
    sumB ((Nat.beq m 16 || (Nat.beq m 18 && !z3)) || (any && Nat.beq m 21)) ((Nat.ble 10 m && Nat.ble m 14) || (any && (!th && Nat.beq m 20))) ((Nat.beq m 15 || Nat.beq m 17) || ((Nat.beq m 18 && !(Nat.beq m 18 && !z3)) && !((Nat.beq m 18 && !(Nat.beq m 18 && !z3)) && !z4))) (((Nat.beq m 18 && !(Nat.beq m 18 && !z3)) && !z4) || (any && (th && Nat.beq m 20))) (!Nat.ble 7 m) (!Nat.ble 7 m && e2) a2 a3 a4 a5 a6 a7 a8
      = selB th any m z3 z4 e2 a2 a3 a4 a5 a6 a7 a8 := by
  intro th any z3 z4 e2 m hm a2 a3 a4 a5 a6 a7 a8
  have h : m = 0 ∨ m = 1 ∨ m = 2 ∨ m = 3 ∨ m = 4 ∨ m = 5 ∨ m = 6 ∨ m = 7 ∨ m = 8 ∨ m = 9 ∨ m = 10 ∨ m = 11 ∨ m = 12 ∨ m = 13 ∨ m = 14 ∨ m = 15 ∨ m = 16 ∨ m = 17 ∨ m = 18 ∨ m = 19 ∨ m = 20 ∨ m = 21 := by omega
  rcases h with h | h | h | h | h | h | h | h | h | h | h | h | h | h | h | h | h | h | h | h | h | h <;> subst h <;> cases any <;> cases th
  · cases e2
    · exact sm7 a2 a3 a4 a5 a6 a7 a8
    · exact sm8 a2 a3 a4 a5 a6 a7 a8
  · cases e2
    · exact sm7 a2 a3 a4 a5 a6 a7 a8
    · exact sm8 a2 a3 a4 a5 a6 a7 a8
  · cases e2
    · exact sm7 a2 a3 a4 a5 a6 a7 a8
    · exact sm8 a2 a3 a4 a5 a6 a7 a8
  · cases e2
    · exact sm7 a2 a3 a4 a5 a6 a7 a8
    · exact sm8 a2 a3 a4 a5 a6 a7 a8
  · cases e2
    · exact sm7 a2 a3 a4 a5 a6 a7 a8
    · exact sm8 a2 a3 a4 a5 a6 a7 a8
  · cases e2
    · exact sm7 a2 a3 a4 a5 a6 a7 a8
    · exact sm8 a2 a3 a4 a5 a6 a7 a8
  · cases e2
    · exact sm7 a2 a3 a4 a5 a6 a7 a8
    · exact sm8 a2 a3 a4 a5 a6 a7 a8
  · cases e2
    · exact sm7 a2 a3 a4 a5 a6 a7 a8
    · exact sm8 a2 a3 a4 a5 a6 a7 a8
  · cases e2
    · exact sm7 a2 a3 a4 a5 a6 a7 a8
    · exact sm8 a2 a3 a4 a5 a6 a7 a8
  · cases e2
    · exact sm7 a2 a3 a4 a5 a6 a7 a8
    · exact sm8 a2 a3 a4 a5 a6 a7 a8
  · cases e2
    · exact sm7 a2 a3 a4 a5 a6 a7 a8
    · exact sm8 a2 a3 a4 a5 a6 a7 a8
  · cases e2
    · exact sm7 a2 a3 a4 a5 a6 a7 a8
    · exact sm8 a2 a3 a4 a5 a6 a7 a8
  · cases e2
    · exact sm7 a2 a3 a4 a5 a6 a7 a8
    · exact sm8 a2 a3 a4 a5 a6 a7 a8
  · cases e2
    · exact sm7 a2 a3 a4 a5 a6 a7 a8
    · exact sm8 a2 a3 a4 a5 a6 a7 a8
  · cases e2
    · exact sm7 a2 a3 a4 a5 a6 a7 a8
    · exact sm8 a2 a3 a4 a5 a6 a7 a8
  · cases e2
    · exact sm7 a2 a3 a4 a5 a6 a7 a8
    · exact sm8 a2 a3 a4 a5 a6 a7 a8
  · cases e2
    · exact sm7 a2 a3 a4 a5 a6 a7 a8
    · exact sm8 a2 a3 a4 a5 a6 a7 a8
  · cases e2
    · exact sm7 a2 a3 a4 a5 a6 a7 a8
    · exact sm8 a2 a3 a4 a5 a6 a7 a8
  · cases e2
    · exact sm7 a2 a3 a4 a5 a6 a7 a8
    · exact sm8 a2 a3 a4 a5 a6 a7 a8
  · cases e2
    · exact sm7 a2 a3 a4 a5 a6 a7 a8
    · exact sm8 a2 a3 a4 a5 a6 a7 a8
  · cases e2
    · exact sm7 a2 a3 a4 a5 a6 a7 a8
    · exact sm8 a2 a3 a4 a5 a6 a7 a8
  · cases e2
    · exact sm7 a2 a3 a4 a5 a6 a7 a8
    · exact sm8 a2 a3 a4 a5 a6 a7 a8
  · cases e2
    · exact sm7 a2 a3 a4 a5 a6 a7 a8
    · exact sm8 a2 a3 a4 a5 a6 a7 a8
  · cases e2
    · exact sm7 a2 a3 a4 a5 a6 a7 a8
    · exact sm8 a2 a3 a4 a5 a6 a7 a8
  · cases e2
    · exact sm7 a2 a3 a4 a5 a6 a7 a8
    · exact sm8 a2 a3 a4 a5 a6 a7 a8
  · cases e2
    · exact sm7 a2 a3 a4 a5 a6 a7 a8
    · exact sm8 a2 a3 a4 a5 a6 a7 a8
  · cases e2
    · exact sm7 a2 a3 a4 a5 a6 a7 a8
    · exact sm8 a2 a3 a4 a5 a6 a7 a8
  · cases e2
    · exact sm7 a2 a3 a4 a5 a6 a7 a8
    · exact sm8 a2 a3 a4 a5 a6 a7 a8
  · exact sm2 a2 a3 a4 a5 a6 a7 a8
  · exact sm2 a2 a3 a4 a5 a6 a7 a8
  · exact sm2 a2 a3 a4 a5 a6 a7 a8
  · exact sm2 a2 a3 a4 a5 a6 a7 a8
  · exact sm2 a2 a3 a4 a5 a6 a7 a8
  · exact sm2 a2 a3 a4 a5 a6 a7 a8
  · exact sm2 a2 a3 a4 a5 a6 a7 a8
  · exact sm2 a2 a3 a4 a5 a6 a7 a8
  · exact sm2 a2 a3 a4 a5 a6 a7 a8
  · exact sm2 a2 a3 a4 a5 a6 a7 a8
  · exact sm2 a2 a3 a4 a5 a6 a7 a8
  · exact sm2 a2 a3 a4 a5 a6 a7 a8
  · exact sm4 a2 a3 a4 a5 a6 a7 a8
  · exact sm4 a2 a3 a4 a5 a6 a7 a8
  · exact sm4 a2 a3 a4 a5 a6 a7 a8
  · exact sm4 a2 a3 a4 a5 a6 a7 a8
  · exact sm4 a2 a3 a4 a5 a6 a7 a8
  · exact sm4 a2 a3 a4 a5 a6 a7 a8
  · exact sm4 a2 a3 a4 a5 a6 a7 a8
  · exact sm4 a2 a3 a4 a5 a6 a7 a8
  · exact sm4 a2 a3 a4 a5 a6 a7 a8
  · exact sm4 a2 a3 a4 a5 a6 a7 a8
  · exact sm4 a2 a3 a4 a5 a6 a7 a8
  · exact sm4 a2 a3 a4 a5 a6 a7 a8
  · exact sm4 a2 a3 a4 a5 a6 a7 a8
  · exact sm4 a2 a3 a4 a5 a6 a7 a8
  · exact sm4 a2 a3 a4 a5 a6 a7 a8
  · exact sm4 a2 a3 a4 a5 a6 a7 a8
  · exact sm4 a2 a3 a4 a5 a6 a7 a8
  · exact sm4 a2 a3 a4 a5 a6 a7 a8
  · exact sm4 a2 a3 a4 a5 a6 a7 a8
  · exact sm4 a2 a3 a4 a5 a6 a7 a8
  · exact sm5 a2 a3 a4 a5 a6 a7 a8
  · exact sm5 a2 a3 a4 a5 a6 a7 a8
  · exact sm5 a2 a3 a4 a5 a6 a7 a8
  · exact sm5 a2 a3 a4 a5 a6 a7 a8
  · exact sm3 a2 a3 a4 a5 a6 a7 a8
  · exact sm3 a2 a3 a4 a5 a6 a7 a8
  · exact sm3 a2 a3 a4 a5 a6 a7 a8
  · exact sm3 a2 a3 a4 a5 a6 a7 a8
  · exact sm5 a2 a3 a4 a5 a6 a7 a8
  · exact sm5 a2 a3 a4 a5 a6 a7 a8
  · exact sm5 a2 a3 a4 a5 a6 a7 a8
  · exact sm5 a2 a3 a4 a5 a6 a7 a8
  · cases z3
    · exact sm3 a2 a3 a4 a5 a6 a7 a8
    · cases z4
      · exact sm6 a2 a3 a4 a5 a6 a7 a8
      · exact sm5 a2 a3 a4 a5 a6 a7 a8
  · cases z3
    · exact sm3 a2 a3 a4 a5 a6 a7 a8
    · cases z4
      · exact sm6 a2 a3 a4 a5 a6 a7 a8
      · exact sm5 a2 a3 a4 a5 a6 a7 a8
  · cases z3
    · exact sm3 a2 a3 a4 a5 a6 a7 a8
    · cases z4
      · exact sm6 a2 a3 a4 a5 a6 a7 a8
      · exact sm5 a2 a3 a4 a5 a6 a7 a8
  · cases z3
    · exact sm3 a2 a3 a4 a5 a6 a7 a8
    · cases z4
      · exact sm6 a2 a3 a4 a5 a6 a7 a8
      · exact sm5 a2 a3 a4 a5 a6 a7 a8
  · exact sm2 a2 a3 a4 a5 a6 a7 a8
  · exact sm2 a2 a3 a4 a5 a6 a7 a8
  · exact sm2 a2 a3 a4 a5 a6 a7 a8
  · exact sm2 a2 a3 a4 a5 a6 a7 a8
  · exact sm2 a2 a3 a4 a5 a6 a7 a8
  · exact sm2 a2 a3 a4 a5 a6 a7 a8
  · exact sm4 a2 a3 a4 a5 a6 a7 a8
  · exact sm6 a2 a3 a4 a5 a6 a7 a8
  · exact sm2 a2 a3 a4 a5 a6 a7 a8
  · exact sm2 a2 a3 a4 a5 a6 a7 a8
  · exact sm3 a2 a3 a4 a5 a6 a7 a8
  · exact sm3 a2 a3 a4 a5 a6 a7 a8
