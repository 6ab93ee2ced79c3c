/-! ===== the law's random numbers: one number, and many at once (a place each) ===== -/
def rS (r : Nat) : Nat := Nat.xor ((r * 1103515245 + 12345) % 4294967296) ((r * 1103515245 + 12345) % 4294967296 / 32768)
/-! o: a one in each place (1: one number alone) -/
def nst (o X : Nat) : Nat := (fun y => Nat.xor y (Nat.land (Nat.shiftRight y 15) (Nat.mul 131071 o))) (Nat.land (Nat.add (Nat.mul X 1103515245) (Nat.mul 12345 o)) (Nat.mul 4294967295 o))
def ndv (o X : Nat) : Nat := Nat.land (Nat.shiftRight X 9) (Nat.mul 8388607 o)
def n22 (o v : Nat) : Nat := Nat.sub v (Nat.mul 22 (Nat.land (Nat.shiftRight (Nat.mul v 48806447) 30) (Nat.mul 524287 o)))
def n5 (o v : Nat) : Nat := Nat.sub v (Nat.mul 5 (Nat.land (Nat.shiftRight (Nat.mul v 13421773) 26) (Nat.mul 2097151 o)))
def n3 (o v : Nat) : Nat := Nat.sub v (Nat.mul 3 (Nat.land (Nat.shiftRight (Nat.mul v 11184811) 25) (Nat.mul 4194303 o)))
def nbt (o k X : Nat) : Nat := Nat.land (Nat.shiftRight X k) o
/-- which of the thresholds 7, 10, 15, .. 21 are reached: a field of six bits each -/
def nT (o m : Nat) : Nat := Nat.land (Nat.add (Nat.mul m 285942833483841) (Nat.mul 3149909943457177 o)) (Nat.mul 9150170671482912 o)
def nH (o T : Nat) : Nat := Nat.xor T (Nat.land (Nat.shiftRight T 6) (Nat.mul 9150170671482912 o))
def nsl (a b : Nat) : Nat := Nat.land a (Nat.mul b 4294967295)
theorem and_le_r (a m : Nat) : Nat.land a m ≤ m := Nat.and_le_right
theorem and_le_l (a m : Nat) : Nat.land a m ≤ a := Nat.and_le_left
theorem and_m (a k : Nat) : Nat.land a (2 ^ k - 1) = a % 2 ^ k := Nat.and_two_pow_sub_one_eq_mod a k
theorem shr_d (a k : Nat) : Nat.shiftRight a k = a / 2 ^ k := Nat.shiftRight_eq_div_pow a k
/-! one number alone -/
theorem nst_1 {x : Nat} : nst 1 x = rS x := by
  unfold nst rS
  dsimp only
  have h1 : Nat.land (Nat.add (Nat.mul x 1103515245) (Nat.mul 12345 1)) (Nat.mul 4294967295 1) = (x * 1103515245 + 12345) % 4294967296 := and_m (x * 1103515245 + 12345) 32
  rw [h1, show Nat.shiftRight ((x * 1103515245 + 12345) % 4294967296) 15 = (x * 1103515245 + 12345) % 4294967296 / 32768 from shr_d _ 15, show Nat.land ((x * 1103515245 + 12345) % 4294967296 / 32768) (Nat.mul 131071 1) = (x * 1103515245 + 12345) % 4294967296 / 32768 % 131072 from and_m _ 17, Nat.mod_eq_of_lt (a := (x * 1103515245 + 12345) % 4294967296 / 32768) (by omega)]
theorem rS_lt (x : Nat) : rS x < 4294967296 := by
  unfold rS
  exact Nat.xor_lt_two_pow (n := 32) (by omega) (by omega)
theorem ndv_1 {x : Nat} (h : x < 4294967296) : ndv 1 x = x / 512 := by
  unfold ndv
  rw [show Nat.shiftRight x 9 = x / 512 from shr_d x 9, show Nat.land (x / 512) (Nat.mul 8388607 1) = x / 512 % 8388608 from and_m _ 23]
  omega
theorem n22_1 {v : Nat} (h : v < 8388608) : Nat.mul 22 (Nat.land (Nat.shiftRight (Nat.mul v 48806447) 30) (Nat.mul 524287 1)) ≤ v ∧ n22 1 v = v % 22 := by
  have e : Nat.land (Nat.shiftRight (Nat.mul v 48806447) 30) (Nat.mul 524287 1) = v / 22 := by
    rw [show Nat.shiftRight (Nat.mul v 48806447) 30 = v * 48806447 / 1073741824 from shr_d _ 30, show Nat.land (v * 48806447 / 1073741824) (Nat.mul 524287 1) = v * 48806447 / 1073741824 % 524288 from and_m _ 19]
    have h1 : 1073741824 * (v / 22) ≤ v * 48806447 := by omega
    have h2 : v * 48806447 < 1073741824 * (v / 22 + 1) := by omega
    have h3 : v * 48806447 / 1073741824 = v / 22 := by
      apply Nat.div_eq_of_lt_le
      · omega
      · omega
    rw [h3]
    omega
  unfold n22
  rw [e]
  show 22 * (v / 22) ≤ v ∧ v - 22 * (v / 22) = v % 22
  omega
theorem n5_1 {v : Nat} (h : v < 8388608) : Nat.mul 5 (Nat.land (Nat.shiftRight (Nat.mul v 13421773) 26) (Nat.mul 2097151 1)) ≤ v ∧ n5 1 v = v % 5 := by
  have e : Nat.land (Nat.shiftRight (Nat.mul v 13421773) 26) (Nat.mul 2097151 1) = v / 5 := by
    rw [show Nat.shiftRight (Nat.mul v 13421773) 26 = v * 13421773 / 67108864 from shr_d _ 26, show Nat.land (v * 13421773 / 67108864) (Nat.mul 2097151 1) = v * 13421773 / 67108864 % 2097152 from and_m _ 21]
    have h1 : 67108864 * (v / 5) ≤ v * 13421773 := by omega
    have h2 : v * 13421773 < 67108864 * (v / 5 + 1) := by omega
    have h3 : v * 13421773 / 67108864 = v / 5 := by
      apply Nat.div_eq_of_lt_le
      · omega
      · omega
    rw [h3]
    omega
  unfold n5
  rw [e]
  show 5 * (v / 5) ≤ v ∧ v - 5 * (v / 5) = v % 5
  omega
theorem n3_1 {v : Nat} (h : v < 8388608) : Nat.mul 3 (Nat.land (Nat.shiftRight (Nat.mul v 11184811) 25) (Nat.mul 4194303 1)) ≤ v ∧ n3 1 v = v % 3 := by
  have e : Nat.land (Nat.shiftRight (Nat.mul v 11184811) 25) (Nat.mul 4194303 1) = v / 3 := by
    rw [show Nat.shiftRight (Nat.mul v 11184811) 25 = v * 11184811 / 33554432 from shr_d _ 25, show Nat.land (v * 11184811 / 33554432) (Nat.mul 4194303 1) = v * 11184811 / 33554432 % 4194304 from and_m _ 22]
    have h1 : 33554432 * (v / 3) ≤ v * 11184811 := by omega
    have h2 : v * 11184811 < 33554432 * (v / 3 + 1) := by omega
    have h3 : v * 11184811 / 33554432 = v / 3 := by
      apply Nat.div_eq_of_lt_le
      · omega
      · omega
    rw [h3]
    omega
  unfold n3
  rw [e]
  show 3 * (v / 3) ≤ v ∧ v - 3 * (v / 3) = v % 3
  omega
theorem nbt_le (k X : Nat) : nbt 1 k X ≤ 1 := and_le_r _ 1
theorem nT_lt (m : Nat) : nT 1 m ≤ 9150170671482912 := and_le_r _ _
theorem nH_lt (T : Nat) (h : T ≤ 9150170671482912) : nH 1 T < 2 ^ 64 := Nat.xor_lt_two_pow (n := 64) (by omega) (Nat.lt_of_le_of_lt (and_le_r _ _) (by decide))
theorem nsl_01 {a b : Nat} (h : a < 4294967296) (hb : b ≤ 1) : nsl a b = if b = 1 then a else 0 := by
  unfold nsl
  have : b = 0 ∨ b = 1 := by omega
  rcases this with e | e <;> subst e
  · exact Nat.and_zero a
  · exact (and_m a 32).trans (Nat.mod_eq_of_lt h)
/-! many at once -/
variable {n : Nat} {x y : Nat → Nat}
theorem lz_nst (hx : ∀ i, x i < 4294967296) : nst (lz n (fun _ => 1)) (lz n x) = lz n (fun i => nst 1 (x i)) := by
  have b1 : ∀ i, Nat.add (Nat.mul (x i) 1103515245) 12345 < 2 ^ 64 := fun i => by
    have := hx i
    show x i * 1103515245 + 12345 < 2 ^ 64
    omega
  have b2 : ∀ i, Nat.land (Nat.add (Nat.mul (x i) 1103515245) 12345) 4294967295 < 2 ^ 64 := fun i => Nat.lt_of_le_of_lt (and_le_r _ _) (by decide)
  have b3 : ∀ i, Nat.land (Nat.shiftRight (Nat.land (Nat.add (Nat.mul (x i) 1103515245) 12345) 4294967295) 15) 131071 < 2 ^ 64 := fun i => Nat.lt_of_le_of_lt (and_le_r _ _) (by decide)
  unfold nst
  dsimp only
  rw [lz_mul, lz_c, lz_add, lz_c, lz_and n _ _ b1 (fun _ => by decide), lz_c, lz_shr 15 131071 (by decide) (by decide) n _ b2, lz_xor n _ _ b2 b3]
theorem lz_ndv (hx : ∀ i, x i < 2 ^ 64) : ndv (lz n (fun _ => 1)) (lz n x) = lz n (fun i => ndv 1 (x i)) := by
  unfold ndv
  rw [lz_c, lz_shr 9 8388607 (by decide) (by decide) n _ hx]
theorem lz_n22 (hx : ∀ i, x i < 8388608) : n22 (lz n (fun _ => 1)) (lz n x) = lz n (fun i => n22 1 (x i)) := by
  have b1 : ∀ i, Nat.mul (x i) 48806447 < 2 ^ 64 := fun i => by
    have := hx i
    show x i * 48806447 < 2 ^ 64
    omega
  unfold n22
  rw [lz_mul, lz_c, lz_shr 30 524287 (by decide) (by decide) n _ b1, lz_mulr, lz_sb n _ _ (fun i => (n22_1 (hx i)).1)]
theorem lz_n5 (hx : ∀ i, x i < 8388608) : n5 (lz n (fun _ => 1)) (lz n x) = lz n (fun i => n5 1 (x i)) := by
  have b1 : ∀ i, Nat.mul (x i) 13421773 < 2 ^ 64 := fun i => by
    have := hx i
    show x i * 13421773 < 2 ^ 64
    omega
  unfold n5
  rw [lz_mul, lz_c, lz_shr 26 2097151 (by decide) (by decide) n _ b1, lz_mulr, lz_sb n _ _ (fun i => (n5_1 (hx i)).1)]
theorem lz_n3 (hx : ∀ i, x i < 8388608) : n3 (lz n (fun _ => 1)) (lz n x) = lz n (fun i => n3 1 (x i)) := by
  have b1 : ∀ i, Nat.mul (x i) 11184811 < 2 ^ 64 := fun i => by
    have := hx i
    show x i * 11184811 < 2 ^ 64
    omega
  unfold n3
  rw [lz_mul, lz_c, lz_shr 25 4194303 (by decide) (by decide) n _ b1, lz_mulr, lz_sb n _ _ (fun i => (n3_1 (hx i)).1)]
theorem lz_nbt (k : Nat) (hk : k < 64) (hx : ∀ i, x i < 2 ^ 64) : nbt (lz n (fun _ => 1)) k (lz n x) = lz n (fun i => nbt 1 k (x i)) := by
  unfold nbt
  rw [lz_shr k 1 (by omega) (Nat.one_lt_two_pow (by omega)) n _ hx]
theorem lz_nT (hx : ∀ i, x i < 22) : nT (lz n (fun _ => 1)) (lz n x) = lz n (fun i => nT 1 (x i)) := by
  have b1 : ∀ i, Nat.add (Nat.mul (x i) 285942833483841) 3149909943457177 < 2 ^ 64 := fun i => by
    have := hx i
    show x i * 285942833483841 + 3149909943457177 < 2 ^ 64
    omega
  unfold nT
  rw [lz_mul, lz_c, lz_add, lz_c, lz_and n _ _ b1 (fun _ => by decide)]
theorem lz_nH (hx : ∀ i, x i ≤ 9150170671482912) : nH (lz n (fun _ => 1)) (lz n x) = lz n (fun i => nH 1 (x i)) := by
  have b1 : ∀ i, x i < 2 ^ 64 := fun i => Nat.lt_of_le_of_lt (hx i) (by decide)
  unfold nH
  rw [lz_c, lz_shr 6 9150170671482912 (by decide) (by decide) n _ b1, lz_xor n _ _ b1 (fun i => Nat.lt_of_le_of_lt (and_le_r _ _) (by decide))]
theorem lz_nsl (hx : ∀ i, x i < 2 ^ 64) (hy : ∀ i, y i ≤ 1) : nsl (lz n x) (lz n y) = lz n (fun i => nsl (x i) (y i)) := by
  have b1 : ∀ i, Nat.mul (y i) 4294967295 < 2 ^ 64 := fun i => by
    have := hy i
    show y i * 4294967295 < 2 ^ 64
    omega
  unfold nsl
  rw [lz_mul, lz_and n _ _ hx b1]
