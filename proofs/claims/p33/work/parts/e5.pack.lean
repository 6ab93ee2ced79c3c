/-! ===== many numbers in one: 64 bits each ===== -/
def lz : Nat → (Nat → Nat) → Nat
  | 0, _ => 0
  | n + 1, x => 2 ^ 64 * lz n (fun i => x (i + 1)) + x 0
theorem lz_congr : ∀ {n : Nat} {x y : Nat → Nat}, (∀ i, i < n → x i = y i) → lz n x = lz n y
  | 0, _, _, _ => rfl
  | n + 1, x, y, h => by
    unfold lz
    rw [h 0 (Nat.zero_lt_succ n), lz_congr (fun i hi => h (i + 1) (Nat.succ_lt_succ hi))]
theorem lz_add : ∀ (n : Nat) (x y : Nat → Nat), Nat.add (lz n x) (lz n y) = lz n (fun i => Nat.add (x i) (y i))
  | 0, _, _ => rfl
  | n + 1, x, y => by
    have := lz_add n (fun i => x (i + 1)) (fun i => y (i + 1))
    unfold lz
    rw [← this]
    show (2 ^ 64 * lz n (fun i => x (i + 1)) + x 0) + (2 ^ 64 * lz n (fun i => y (i + 1)) + y 0) = 2 ^ 64 * (lz n (fun i => x (i + 1)) + lz n (fun i => y (i + 1))) + (x 0 + y 0)
    omega
theorem lz_mul (c : Nat) : ∀ (n : Nat) (x : Nat → Nat), Nat.mul (lz n x) c = lz n (fun i => Nat.mul (x i) c)
  | 0, _ => Nat.zero_mul c
  | n + 1, x => by
    have := lz_mul c n (fun i => x (i + 1))
    unfold lz
    rw [← this]
    show (2 ^ 64 * lz n (fun i => x (i + 1)) + x 0) * c = 2 ^ 64 * (lz n (fun i => x (i + 1)) * c) + x 0 * c
    rw [Nat.add_mul, Nat.mul_assoc]
theorem lz_mulr (c : Nat) (n : Nat) (x : Nat → Nat) : Nat.mul c (lz n x) = lz n (fun i => Nat.mul c (x i)) := by
  rw [show Nat.mul c (lz n x) = Nat.mul (lz n x) c from Nat.mul_comm .., lz_mul]
  exact lz_congr (fun i _ => Nat.mul_comm ..)
theorem lz_sub : ∀ (n : Nat) (x y : Nat → Nat), (∀ i, y i ≤ x i) → lz n y ≤ lz n x ∧ Nat.sub (lz n x) (lz n y) = lz n (fun i => Nat.sub (x i) (y i))
  | 0, _, _, _ => ⟨Nat.le_refl _, rfl⟩
  | n + 1, x, y, h => by
    obtain ⟨h1, h2⟩ := lz_sub n (fun i => x (i + 1)) (fun i => y (i + 1)) (fun i => h (i + 1))
    have h0 := h 0
    unfold lz
    rw [← h2]
    show 2 ^ 64 * lz n (fun i => y (i + 1)) + y 0 ≤ 2 ^ 64 * lz n (fun i => x (i + 1)) + x 0 ∧ (2 ^ 64 * lz n (fun i => x (i + 1)) + x 0) - (2 ^ 64 * lz n (fun i => y (i + 1)) + y 0) = 2 ^ 64 * (lz n (fun i => x (i + 1)) - lz n (fun i => y (i + 1))) + (x 0 - y 0)
    omega
theorem lz_sb (n : Nat) (x y : Nat → Nat) (h : ∀ i, y i ≤ x i) : Nat.sub (lz n x) (lz n y) = lz n (fun i => Nat.sub (x i) (y i)) := (lz_sub n x y h).2
/-- bits, taken by two, place by place -/
theorem bit_c (f : Nat → Nat → Nat) (g : Bool → Bool → Bool) (hf : ∀ a b j, (f a b).testBit j = g (a.testBit j) (b.testBit j)) (hlt : ∀ a b, a < 2 ^ 64 → b < 2 ^ 64 → f a b < 2 ^ 64) (a b x y : Nat) (hx : x < 2 ^ 64) (hy : y < 2 ^ 64) : f (2 ^ 64 * a + x) (2 ^ 64 * b + y) = 2 ^ 64 * f a b + f x y := by
  apply Nat.eq_of_testBit_eq
  intro j
  rw [hf, Nat.testBit_two_pow_mul_add a hx, Nat.testBit_two_pow_mul_add b hy, Nat.testBit_two_pow_mul_add _ (hlt x y hx hy)]
  by_cases h : j < 64
  · rw [if_pos h, if_pos h, if_pos h, hf]
  · rw [if_neg h, if_neg h, if_neg h, hf]
theorem lz_bit (f : Nat → Nat → Nat) (g : Bool → Bool → Bool) (hf : ∀ a b j, (f a b).testBit j = g (a.testBit j) (b.testBit j)) (hlt : ∀ a b, a < 2 ^ 64 → b < 2 ^ 64 → f a b < 2 ^ 64) (h0 : f 0 0 = 0) : ∀ (n : Nat) (x y : Nat → Nat), (∀ i, x i < 2 ^ 64) → (∀ i, y i < 2 ^ 64) → f (lz n x) (lz n y) = lz n (fun i => f (x i) (y i))
  | 0, _, _, _, _ => h0
  | n + 1, x, y, hx, hy => by
    have := lz_bit f g hf hlt h0 n (fun i => x (i + 1)) (fun i => y (i + 1)) (fun i => hx (i + 1)) (fun i => hy (i + 1))
    unfold lz
    rw [← this]
    exact bit_c f g hf hlt _ _ _ _ (hx 0) (hy 0)
theorem lz_and (n : Nat) (x y : Nat → Nat) (hx : ∀ i, x i < 2 ^ 64) (hy : ∀ i, y i < 2 ^ 64) : Nat.land (lz n x) (lz n y) = lz n (fun i => Nat.land (x i) (y i)) :=
  lz_bit Nat.land and (fun a b j => Nat.testBit_and a b j) (fun a b h _ => Nat.lt_of_le_of_lt (Nat.and_le_left (n := a) (m := b)) h) rfl n x y hx hy
theorem lz_xor (n : Nat) (x y : Nat → Nat) (hx : ∀ i, x i < 2 ^ 64) (hy : ∀ i, y i < 2 ^ 64) : Nat.xor (lz n x) (lz n y) = lz n (fun i => Nat.xor (x i) (y i)) :=
  lz_bit Nat.xor (fun a b => a ^^ b) (fun a b j => Nat.testBit_xor a b j) (fun _ _ h1 h2 => Nat.xor_lt_two_pow h1 h2) rfl n x y hx hy
theorem lz_or (n : Nat) (x y : Nat → Nat) (hx : ∀ i, x i < 2 ^ 64) (hy : ∀ i, y i < 2 ^ 64) : Nat.lor (lz n x) (lz n y) = lz n (fun i => Nat.lor (x i) (y i)) :=
  lz_bit Nat.lor or (fun a b j => Nat.testBit_or a b j) (fun _ _ h1 h2 => Nat.or_lt_two_pow h1 h2) rfl n x y hx hy
theorem hi_bit {m k j : Nat} (h : m < 2 ^ k) (hj : k ≤ j) : m.testBit j = false := Nat.testBit_lt_two_pow (Nat.lt_of_lt_of_le h (Nat.pow_le_pow_right (by decide) hj))
/-- a shift, and a mask that keeps nothing of the neighbour -/
theorem shr_c (a x M m k : Nat) (hx : x < 2 ^ 64) (hk : k ≤ 64) (hm : m < 2 ^ (64 - k)) : Nat.land (Nat.shiftRight (2 ^ 64 * a + x) k) (2 ^ 64 * M + m) = 2 ^ 64 * Nat.land (Nat.shiftRight a k) M + Nat.land (Nat.shiftRight x k) m := by
  have hm64 : m < 2 ^ 64 := Nat.lt_of_lt_of_le hm (Nat.pow_le_pow_right (by decide) (by omega))
  have hr : Nat.land (Nat.shiftRight x k) m < 2 ^ 64 := Nat.lt_of_le_of_lt (Nat.and_le_right (n := Nat.shiftRight x k) (m := m)) hm64
  apply Nat.eq_of_testBit_eq
  intro j
  have e1 : ∀ p q : Nat, (Nat.land p q).testBit j = (p.testBit j && q.testBit j) := fun p q => Nat.testBit_and p q j
  have e2 : ∀ p i : Nat, (Nat.shiftRight p k).testBit i = p.testBit (k + i) := fun p i => Nat.testBit_shiftRight p
  rw [e1, e2, Nat.testBit_two_pow_mul_add a hx, Nat.testBit_two_pow_mul_add M hm64, Nat.testBit_two_pow_mul_add _ hr]
  by_cases h : j < 64
  · rw [if_pos h, if_pos h, e1, e2]
    by_cases h2 : k + j < 64
    · rw [if_pos h2]
    · rw [if_neg h2, hi_bit hm (by omega), Bool.and_false, Bool.and_false]
  · rw [if_neg h, if_neg h, if_neg (by omega), show (Nat.land (Nat.shiftRight a k) M).testBit (j - 64) = (a.testBit (k + (j - 64)) && M.testBit (j - 64)) from (Nat.testBit_and _ _ _).trans (by rw [show (Nat.shiftRight a k).testBit (j - 64) = a.testBit (k + (j - 64)) from Nat.testBit_shiftRight a]), show k + j - 64 = k + (j - 64) by omega]
theorem lz_shr (k m : Nat) (hk : k ≤ 64) (hm : m < 2 ^ (64 - k)) : ∀ (n : Nat) (x : Nat → Nat), (∀ i, x i < 2 ^ 64) → Nat.land (Nat.shiftRight (lz n x) k) (lz n (fun _ => m)) = lz n (fun i => Nat.land (Nat.shiftRight (x i) k) m)
  | 0, _, _ => (Nat.and_zero _)
  | n + 1, x, hx => by
    have := lz_shr k m hk hm n (fun i => x (i + 1)) (fun i => hx (i + 1))
    unfold lz
    rw [← this]
    exact shr_c _ _ _ _ _ (hx 0) hk hm
/-- a one in each place -/
def zO (n : Nat) : Nat := Nat.div (Nat.sub (Nat.pow 2 (Nat.mul 64 n)) 1) 18446744073709551615
theorem lz_one : ∀ n : Nat, 18446744073709551615 * lz n (fun _ => 1) + 1 = 2 ^ (64 * n)
  | 0 => rfl
  | n + 1 => by
    have := lz_one n
    show 18446744073709551615 * (2 ^ 64 * lz n (fun _ => 1) + 1) + 1 = 2 ^ (64 * (n + 1))
    rw [show 64 * (n + 1) = 64 * n + 64 by omega, Nat.pow_add, ← this]
    omega
theorem zO_lz (n : Nat) : zO n = lz n (fun _ => 1) := by
  show (2 ^ (64 * n) - 1) / 18446744073709551615 = _
  rw [← lz_one n, Nat.add_sub_cancel, Nat.mul_div_cancel_left _ (by decide)]
theorem lz_c (c n : Nat) : Nat.mul c (lz n (fun _ => 1)) = lz n (fun _ => c) := by
  rw [lz_mulr]
  exact lz_congr (fun _ _ => Nat.mul_one c)
