/-! ===== how the class's cells and the reference's cells stand to each other, part by part ===== -/
theorem liC_le2 {c n : Nat} (h : n ≤ c) (h2 : ¬ n < c) (h3 : n < 1000) (h4 : c = 0 ∨ 10 ≤ c) : n + 1 ≤ liC c n ∧ liC c n < 3000 ∧ (liC c n = 0 ∨ 10 ≤ liC c n) := by
  unfold liC
  rw [if_neg h2]
  split <;> omega
def capOK (a : TS) (s i : Nat) : Prop := tZ a s i ≤ tC a s i ∧ tC a s i < 3000 ∧ (tC a s i = 0 ∨ 10 ≤ tC a s i)
/-- accounts -/
def RB (a b : TS) : Prop := tZ a 26 0 ≤ 8 ∧ capOK a 26 0 ∧ tN a 35 = tZ a 26 0 ∧ tI b 91 0 5 = Int32.ofNat (tZ a 26 0) ∧
  (∀ k, k < tZ a 26 0 → tR a 26 0 k = some (35, k) ∧ tL a 35 k 0 = tL b 43 0 k ∧ tL a 35 k 1 = tL b 44 0 k ∧ tI a 35 k 2 = tI b 47 0 k ∧ bitOk (tI b 47 0 k) = true) ∧ (∀ k, tZ a 26 0 ≤ k → tL b 44 0 k = 0 ∧ tI b 47 0 k = 0) ∧
  tL a 96 0 9 = tL b 91 0 7 ∧ tL a 96 0 10 = tL b 91 0 8
/-- shops -/
def RS (a b : TS) : Prop := tZ a 27 0 ≤ 4 ∧ capOK a 27 0 ∧ (tN a 36 = tZ a 27 0 ∧ tN a 21 = tZ a 27 0 ∧ tN a 22 = tZ a 27 0 ∧ tN a 18 = tZ a 27 0 ∧ tN a 19 = tZ a 27 0 ∧ tN a 20 = tZ a 27 0) ∧
  (tI b 91 0 6 = Int32.ofNat (tZ a 27 0) ∧ tI b 93 0 7 = Int32.ofNat (tZ a 27 0) ∧ tI b 95 0 9 = Int32.ofNat (tZ a 27 0)) ∧
  (∀ s, s < tZ a 27 0 → tR a 27 0 s = some (36, s) ∧ tI a 36 s 0 = Int32.ofNat s ∧ tI a 36 s 1 = tI b 88 0 s ∧ tI a 36 s 2 = tI b 89 0 s ∧ tR a 36 s 3 = some (25, 0) ∧ tR a 36 s 4 = some (21, s) ∧ tR a 36 s 5 = some (22, s) ∧ tR a 36 s 6 = some (18, s) ∧ tR a 36 s 7 = some (19, s) ∧ tR a 36 s 8 = some (20, s) ∧ tZ a 20 s = 100)
/-- shops: how many BACK MONEYs and payments -/
def RM (a b : TS) : Prop := (∀ s, s < tZ a 27 0 → (∃ n, n ≤ 100 ∧ tI b 69 0 s = Int32.ofNat n ∧ tI a 36 s 9 = Int32.ofNat n) ∧ tI a 36 s 10 = tI b 90 0 s) ∧ (∀ s, tZ a 27 0 ≤ s → tI b 69 0 s = 0 ∧ tI b 90 0 s = 0)
/-- shops: money -/
def RW (a b : TS) : Prop := (∀ s, s < tZ a 27 0 → tL a 36 s 11 = tL b 45 0 s ∧ tL a 36 s 12 = tL b 46 0 s) ∧ (∀ s, tZ a 27 0 ≤ s → tL b 45 0 s = 0 ∧ tL b 46 0 s = 0)
/-- shops: the BACK MONEYs that were heard -/
def RV (a b : TS) : Prop := (∀ s, s < tZ a 27 0 → ∀ n, n < 100 → tI a 20 s n = tI b 60 s n ∧ bitOk (tI b 60 s n) = true) ∧ (∀ s, tZ a 27 0 ≤ s → ∀ n, tI b 60 s n = 0)
/-- cards: what stays -/
def RC (a b : TS) : Prop := tZ a 28 0 ≤ 8 ∧ capOK a 28 0 ∧ (tN a 37 = tZ a 28 0 ∧ tN a 1 = tZ a 28 0 ∧ tN a 2 = tZ a 28 0) ∧ tI b 93 0 6 = Int32.ofNat (tZ a 28 0) ∧
  ∀ k, k < tZ a 28 0 → tR a 28 0 k = some (37, k) ∧ tI a 37 k 0 = Int32.ofNat k ∧ (∃ t, t < tZ a 26 0 ∧ tR a 37 k 1 = some (35, t) ∧ tI b 86 0 (10 * k + 9) = Int32.ofNat t) ∧ tI a 37 k 2 = tI b 86 0 (10 * k + 7) ∧ (tI a 37 k 3).toInt64 = keyL (Int32.ofNat k) ∧ tI a 37 k 5 = tI b 86 0 (10 * k + 8) ∧ tR a 37 k 15 = some (1, k) ∧ tR a 37 k 16 = some (2, k) ∧ tZ a 1 k = 201 ∧ tZ a 2 k = 201
/-- a card's tries and touches -/
def CdB (x y : Int32) : Prop := (x = 0 ∨ x = 1 ∨ x = 2 ∨ x = 3) ∧ (y = 0 ∨ y = 1 ∨ y = 2 ∨ y = 3 ∨ y = 4 ∨ y = 5)
/-- cards: what they know -/
def RD (a b : TS) : Prop := (∀ k, k < tZ a 28 0 → tI a 37 k 4 = tI b 86 0 (10 * k + 6) ∧ tI a 37 k 6 = tI b 86 0 (10 * k) ∧ tI a 37 k 7 = tI b 86 0 (10 * k + 1) ∧ tI a 37 k 8 = tI b 86 0 (10 * k + 2) ∧ tI a 37 k 9 = tI b 86 0 (10 * k + 3) ∧ tI a 37 k 10 = tI b 86 0 (10 * k + 4) ∧ tI a 37 k 11 = tI b 86 0 (10 * k + 5) ∧ (bitOk (tI b 86 0 (10 * k + 5)) = true ∧ CdB (tI b 86 0 (10 * k + 1)) (tI b 86 0 (10 * k + 2))) ∧ ∃ n, n ≤ tZ a 29 0 ∧ tI b 86 0 (10 * k) = Int32.ofNat n) ∧
  ∀ k, 10 * tZ a 28 0 ≤ k → tI b 86 0 k = 0
/-- cards: what the issuer tells them, and those that are stolen -/
def RE (a b : TS) : Prop := (∀ k, k < tZ a 28 0 → tI a 37 k 12 = tI b 58 0 k ∧ bitOk (tI b 58 0 k) = true ∧ tI a 37 k 13 = tI b 57 0 k ∧ tI b 57 0 k &&& 14 = tI b 57 0 k) ∧ ∀ k, tZ a 28 0 ≤ k → tI b 58 0 k = 0 ∧ tI b 57 0 k = 0
/-- payments: what stays -/
def RP (a b : TS) : Prop := tZ a 29 0 ≤ 200 ∧ capOK a 29 0 ∧ tN a 38 = tZ a 29 0 ∧ tI b 93 0 8 = Int32.ofNat (tZ a 29 0) ∧
  (∀ p, p < tZ a 29 0 → tR a 29 0 p = some (38, p) ∧ tI a 38 p 0 = Int32.ofNat p ∧ (∃ k, k < tZ a 28 0 ∧ tR a 38 p 1 = some (37, k) ∧ tI b 87 0 (10 * p + 1) = Int32.ofNat k) ∧ (∃ s, s < tZ a 27 0 ∧ tR a 38 p 2 = some (36, s) ∧ tI b 87 0 (10 * p + 2) = Int32.ofNat s) ∧
    (tI a 38 p 3 = tI b 87 0 (10 * p + 3) ∧ 0 < tI b 87 0 (10 * p + 3) ∧ tI b 87 0 (10 * p + 3) ≤ 100000) ∧ (tI a 38 p 4 = tI b 87 0 (10 * p + 4) ∧ ∃ n, n < 201 ∧ tI b 87 0 (10 * p + 4) = Int32.ofNat n) ∧ tI a 38 p 6 = tI b 87 0 (10 * p + 6) ∧ tI a 38 p 11 = tI b 87 0 (10 * p + 9) ∧ bitOk (tI b 87 0 (10 * p + 9)) = true) ∧
  (∀ p p', p ≤ p' → p' < tZ a 29 0 → tI b 87 0 (10 * p + 6) ≤ tI b 87 0 (10 * p' + 6)) ∧ ∀ k, 10 * tZ a 29 0 ≤ k → tI b 87 0 k = 0
/-- payments: what becomes of them -/
def RQ (a b : TS) : Prop := (∀ p, p < tZ a 29 0 → tI a 38 p 5 = tI b 87 0 (10 * p + 5) ∧ tI a 38 p 7 = tI b 87 0 (10 * p) ∧ tI a 38 p 8 = tI b 87 0 (10 * p + 7) ∧ tI a 38 p 9 = tI b 87 0 (10 * p + 8) ∧ tI a 38 p 10 = tI b 70 0 p ∧ bitOk (tI b 70 0 p) = true ∧
    (∃ n, n < 5 ∧ tI b 87 0 (10 * p) = Int32.ofNat n ∧ (n = 2 → tI b 87 0 (10 * p + 8) = 1 ∨ tI b 87 0 (10 * p + 8) = 2) ∧ (n ≠ 2 → tI b 87 0 (10 * p + 8) = 0) ∧ tI b 87 0 (10 * p + 5) = pst b p (if n = 0 then 1 else 2))) ∧ ∀ p, tZ a 29 0 ≤ p → tI b 70 0 p = 0
/-- the house -/
def RH (a b : TS) : Prop := (tI a 25 0 0 = tI b 97 0 5 ∧ tI b 93 0 9 = tI b 97 0 5 ∧ tI b 95 0 1 = tI b 97 0 5 ∧ ∃ n, n ≤ 3000 ∧ tI b 97 0 5 = Int32.ofNat n) ∧ (tI a 25 0 1 = tI b 97 0 6 ∧ tI b 94 0 11 = tI b 97 0 6) ∧ (tI a 25 0 2 = tI b 95 0 2 ∧ ∃ n, 1 ≤ n ∧ n ≤ 5 ∧ tI b 95 0 2 = Int32.ofNat n) ∧ tI a 96 0 8 = tI b 97 0 7 ∧ tI a 31 0 1 = tI b 95 0 3 ∧ tI a 96 0 11 = tI b 95 0 6 ∧ bitOk (tI b 95 0 6) = true
/-- what is known of a number -/
def KnR (a b : TS) (n : Nat) : Prop :=
  (kI a n 3 = hI b n 12 ∧ ¬ hI b n 12 < 0 ∧ (hI b n 12 = 0 → kR a n 4 = none) ∧ (hI b n 12 ≠ 0 → ∃ t, t < tZ a 26 0 ∧ kR a n 4 = some (35, t) ∧ hI b n 13 = Int32.ofNat t)) ∧
  (kI a n 5 = hI b n 9 ∧ bitOk (hI b n 9) = true ∧ kI a n 6 = hI b n 10 ∧ bitOk (hI b n 10) = true ∧ kI a n 7 = hI b n 11 ∧ bitOk (hI b n 11) = true ∧ kI a n 11 = hI b n 16 ∧ kI a n 12 = hI b n 15 ∧ ¬ hI b n 16 < 0) ∧
  ((hI b n 0 = 0 → kR a n 1 = none) ∧ (hI b n 0 ≠ 0 → ∃ i j, i < tN a 5 ∧ j < tN a 6 ∧ kR a n 1 = some (5, i) ∧ kR a n 0 = some (6, j) ∧ tI a 5 i 0 = 5 ∧ tI a 5 i 1 = Int32.ofNat n ∧ tI a 5 i 6 = hI b n 2 ∧ tI a 5 i 7 = 1 ∧ tI a 5 i 8 = hI b n 0 ∧ (hI b n 0 = 1 ∨ hI b n 0 = 2) ∧ tI a 5 i 9 = hI b n 1 ∧ tI a 5 i 10 = hI b n 3 ∧ tI a 5 i 11 = 0 ∧ tI a 5 i 14 = 0 ∧ tI a 6 j 2 = hA b n 62 0 ∧ tI a 6 j 4 = hA b n 62 1 ∧ tI a 6 j 5 = hA b n 62 2)) ∧
  (bitOk (hI b n 7) = true ∧ (hI b n 7 = 0 → kR a n 2 = none) ∧ (hI b n 7 ≠ 0 → ∃ i, i < tN a 17 ∧ kR a n 2 = some (17, i) ∧ tI a 17 i 2 = hA b n 63 0 ∧ tI a 17 i 4 = hA b n 63 1 ∧ tI a 17 i 5 = hA b n 63 2)) ∧
  (bitOk (hI b n 8) = true ∧ (hI b n 8 = 0 → kR a n 8 = none) ∧ (hI b n 8 ≠ 0 → ∃ i k t s, i < tN a 7 ∧ k < tZ a 28 0 ∧ t < tZ a 26 0 ∧ s < tZ a 27 0 ∧ kR a n 8 = some (7, i) ∧ tI a 7 i 2 = hA b n 64 0 ∧ tI a 7 i 4 = hA b n 64 1 ∧ tI a 7 i 5 = hA b n 64 2 ∧ hA b n 64 0 = Int32.ofNat k ∧ tI b 86 0 (10 * k + 9) = Int32.ofNat t ∧ kR a n 9 = some (35, t) ∧ kR a n 10 = some (36, s) ∧ hI b n 14 = Int32.ofNat s))
def RK (a b : TS) : Prop := KsA a ∧ KsB b ∧ ∀ n, n < 1000 → KnR a b n
/-- the counters that were heard -/
def RG (a b : TS) : Prop := ∃ H, H ≤ 200 ∧ tI b 94 0 6 = Int32.ofNat H ∧
  (∀ k, k < H → ∃ cd c p, cd < tZ a 28 0 ∧ c < 201 ∧ p < tZ a 29 0 ∧ tI b 54 0 k = Int32.ofNat cd ∧ tI b 55 0 k = Int32.ofNat c ∧ tI b 56 0 k = Int32.ofNat p ∧ tI a 1 cd c = Int32.ofNat (p + 1) ∧ tI b 87 0 (10 * p + 1) = Int32.ofNat cd ∧ tI b 87 0 (10 * p + 4) = Int32.ofNat c) ∧
  (∀ cd c, cd < tZ a 28 0 → c < 201 → tI a 1 cd c ≠ 0 → ∃ k, k < H ∧ tI b 54 0 k = Int32.ofNat cd ∧ tI b 55 0 k = Int32.ofNat c) ∧
  (∀ k k', k < k' → k' < H → tI b 56 0 k ≠ tI b 56 0 k') ∧
  ∀ cd, cd < tZ a 28 0 → tI a 37 cd 14 = Int32.ofNat ((List.range H).countP (fun k => tI b 54 0 k == Int32.ofNat cd))
/-- the counters that were posted, and how many numbers were posted and rejected -/
def RO (a b : TS) : Prop := (∀ cd c, cd < tZ a 28 0 → c < 201 → tI a 2 cd c = 0 ∨ ∃ n, n < 1000 ∧ tI a 2 cd c = Int32.ofNat (n + 1) ∧ hI b n 8 ≠ 0 ∧ hA b n 64 0 = Int32.ofNat cd ∧ hA b n 64 1 = Int32.ofNat c) ∧
  (∀ n, n < 1000 → hI b n 8 ≠ 0 → ∃ cd c, cd < tZ a 28 0 ∧ c < 201 ∧ hA b n 64 0 = Int32.ofNat cd ∧ hA b n 64 1 = Int32.ofNat c ∧ tI a 2 cd c = Int32.ofNat (n + 1)) ∧ tI a 30 0 3 = tI b 94 0 12 ∧ tI a 30 0 4 = tI b 94 0 13
/-- each posted number was posted for a payment -/
def RZ (a b : TS) : Prop := (∀ i, i < tN a 7 → ∃ n, n < 1000 ∧ kR a n 8 = some (7, i)) ∧ ∀ n, n < 1000 → hI b n 8 ≠ 0 → ∃ p, p < tZ a 29 0 ∧ hA b n 64 0 = tI b 87 0 (10 * p + 1) ∧ hA b n 64 1 = tI b 87 0 (10 * p + 4) ∧ hA b n 64 2 = tI b 87 0 (10 * p + 3) ∧ hI b n 14 = tI b 87 0 (10 * p + 2) ∧ (tI b 87 0 (10 * p) = 0 ∨ tI b 87 0 (10 * p) = 2) ∧ ∀ q, kR a n 8 = some q → tI a 7 q.2 6 = tI b 87 0 (10 * p + 5)
