/-! ===== many in one: cut, joined, turned; what stands in it ===== -/
theorem lz_zero : ∀ {n : Nat} {x : Nat → Nat}, lz n x = 0 → ∀ i, i < n → x i = 0
  | 0, _, _, i, h => absurd h (Nat.not_lt_zero i)
  | n + 1, x, e, i, h => by
    have e' : 2 ^ 64 * lz n (fun i => x (i + 1)) + x 0 = 0 := e
    have h0 : x 0 = 0 := by omega
    have h1 : lz n (fun i => x (i + 1)) = 0 := by omega
    cases i with
    | zero => exact h0
    | succ i => exact lz_zero h1 i (by omega)
theorem lz_lt : ∀ {n : Nat} {x : Nat → Nat}, (∀ i, x i < 2 ^ 64) → lz n x < 2 ^ (64 * n)
  | 0, _, _ => by exact Nat.zero_lt_one
  | n + 1, x, h => by
    have := lz_lt (n := n) (x := fun i => x (i + 1)) (fun i => h (i + 1))
    have h0 := h 0
    show 2 ^ 64 * lz n (fun i => x (i + 1)) + x 0 < 2 ^ (64 * (n + 1))
    rw [show 64 * (n + 1) = 64 + 64 * n by omega, Nat.pow_add]
    generalize 2 ^ (64 * n) = p at this ⊢
    generalize lz n (fun i => x (i + 1)) = q at this ⊢
    omega
theorem lz_app : ∀ (a b : Nat) (x : Nat → Nat), lz (a + b) x = 2 ^ (64 * a) * lz b (fun i => x (i + a)) + lz a x
  | 0, b, x => by
    rw [Nat.zero_add]
    show lz b x = 1 * lz b x + 0
    omega
  | a + 1, b, x => by
    rw [show a + 1 + b = (a + b) + 1 by omega]
    show 2 ^ 64 * lz (a + b) (fun i => x (i + 1)) + x 0 = 2 ^ (64 * (a + 1)) * lz b (fun i => x (i + (a + 1))) + (2 ^ 64 * lz a (fun i => x (i + 1)) + x 0)
    rw [lz_app a b (fun i => x (i + 1)), show 64 * (a + 1) = 64 + 64 * a by omega, Nat.pow_add, Nat.mul_add, Nat.mul_assoc, Nat.add_assoc]
    rfl
theorem lz_null : ∀ n : Nat, lz n (fun _ => 0) = 0
  | 0 => rfl
  | n + 1 => by
    show 2 ^ 64 * lz n (fun _ => 0) + 0 = 0
    rw [lz_null n]
theorem lz_ext {a n : Nat} (h : a ≤ n) (x : Nat → Nat) : lz a x = lz n (fun i => if i < a then x i else 0) := by
  obtain ⟨b, rfl⟩ : ∃ b, n = a + b := ⟨n - a, by omega⟩
  rw [lz_app, lz_congr (n := b) (y := fun _ => 0) (fun i _ => if_neg (by omega)), lz_null, lz_congr (n := a) (x := x) (y := fun i => if i < a then x i else 0) (fun i hi => (if_pos hi).symm)]
  omega
def cut (n : Nat) (x : Nat → Nat) (i : Nat) : Nat := if i < n then x i else 0
theorem lz_cut (n : Nat) (x : Nat → Nat) : lz n x = lz n (cut n x) := lz_congr (fun _ h => (if_pos h).symm)
theorem lz_rotG {c n : Nat} (hn : c ≤ n) (x : Nat → Nat) (hx : ∀ i, x i < 2 ^ 64) : rotG c n (lz n x) = lz n (fun i => if i < n - c then x (i + c) else x (i - (n - c))) := by
  have e : lz n x = 2 ^ (64 * c) * lz (n - c) (fun i => x (i + c)) + lz c x := by
    have := lz_app c (n - c) x
    rw [show c + (n - c) = n by omega] at this
    exact this
  have hl : lz c x < 2 ^ (64 * c) := lz_lt hx
  have e2 : lz n (fun i => if i < n - c then x (i + c) else x (i - (n - c))) = 2 ^ (64 * (n - c)) * lz c x + lz (n - c) (fun i => x (i + c)) := by
    have := lz_app (n - c) c (fun i => if i < n - c then x (i + c) else x (i - (n - c)))
    rw [show n - c + c = n by omega] at this
    rw [this, lz_congr (n := c) (y := x) (fun i _ => by rw [if_neg (by omega), show i + (n - c) - (n - c) = i by omega]), lz_congr (n := n - c) (x := fun i => if i < n - c then x (i + c) else x (i - (n - c))) (y := fun i => x (i + c)) (fun i hi => if_pos hi)]
  have s1 : Nat.shiftRight (lz n x) (Nat.mul 64 c) = lz (n - c) (fun i => x (i + c)) := by
    rw [show Nat.shiftRight (lz n x) (Nat.mul 64 c) = lz n x / 2 ^ (64 * c) from shr_d _ _, e, Nat.mul_add_div (Nat.two_pow_pos _), Nat.div_eq_of_lt hl, Nat.add_zero]
  have s2 : Nat.land (lz n x) (Nat.sub (Nat.pow 2 (Nat.mul 64 c)) 1) = lz c x := by
    rw [show Nat.land (lz n x) (Nat.sub (Nat.pow 2 (Nat.mul 64 c)) 1) = lz n x % 2 ^ (64 * c) from and_m _ (64 * c), e, Nat.mul_add_mod, Nat.mod_eq_of_lt hl]
  unfold rotG
  rw [s1, s2, e2, show Nat.shiftLeft (lz c x) (Nat.mul 64 (Nat.sub n c)) = lz c x * 2 ^ (64 * (n - c)) from Nat.shiftLeft_eq _ _, Nat.mul_comm]
  exact Nat.add_comm _ _
theorem lz_rot {n : Nat} (hn : 1759 ≤ n) (x : Nat → Nat) (hx : ∀ i, x i < 2 ^ 64) : rotY n (lz n x) = lz n (fun i => if i < n - 1759 then x (i + 1759) else x (i - (n - 1759))) := lz_rotG hn x hx
/-! what stands in it -/
def occ (n : Nat) (x : Nat → Nat) (v : Nat) : Prop := ∃ i, i < n ∧ x i = v
theorem occ_rot {n : Nat} (hn : 1759 ≤ n) {x : Nat → Nat} {v : Nat} (h : occ n x v) : occ n (fun i => if i < n - 1759 then x (i + 1759) else x (i - (n - 1759))) v := by
  obtain ⟨i, h1, h2⟩ := h
  by_cases c : i < 1759
  · refine ⟨i + (n - 1759), by omega, ?_⟩
    dsimp only
    rw [if_neg (by omega), show i + (n - 1759) - (n - 1759) = i by omega]
    exact h2
  · refine ⟨i - 1759, by omega, ?_⟩
    dsimp only
    rw [if_pos (by omega), show i - 1759 + 1759 = i by omega]
    exact h2
