/-! ===== acts with lost messages: where they begin ===== -/
def rvG (c : Bool) (x : Nat) : Nat := cond c x 0
theorem rvG_t (x : Nat) : rvG true x = x := rfl
theorem rvG_le (c : Bool) (x : Nat) : rvG c x ≤ x := by
  cases c
  · exact Nat.zero_le x
  · exact Nat.le_refl x
def rvF (c : Bool) (a w : Nat) : Nat := rvG c (a + w * 4294967296)
/-- what is laid for a state r behind the first draw of an act: the state behind the act and how many, or 0 -/
def rv (r : Nat) : Nat := rvF (Nat.beq (rS (rS (rS r)) / 512 % 3) 0 && !Nat.beq (rS (rS (rS (rS r))) / 512 % 4) 0) (rS (rS (rS (rS r)))) (rS (rS (rS (rS r))) / 512 % 4)
theorem rvF_le (c : Bool) (a w : Nat) : rvF c a w ≤ a + w * 4294967296 := rvG_le c _
theorem rvF_lt {c : Bool} {a w : Nat} (ha : a < 4294967296) (hw : w ≤ 3) : rvF c a w < 17179869184 := by
  have := rvF_le c a w
  omega
theorem rv_lt (r : Nat) : rv r < 17179869184 := rvF_lt (rS_lt _) (mod4 _)
theorem wbit : ∀ w, w < 4 → (w / 2 ^ 0 % 2 == 1 || w / 2 ^ 1 % 2 == 1) = !Nat.beq w 0 := by decide
theorem raw_c {a d : Nat} (ha : a < 4294967296) (hd : d < 3) : Nat.land (Nat.add a (Nat.mul (a / 512 % 4) 4294967296)) (Nat.mul (ib ((!(d / 2 ^ 0 % 2 == 1 || d / 2 ^ 1 % 2 == 1)) && (a / 512 % 4 / 2 ^ 0 % 2 == 1 || a / 512 % 4 / 2 ^ 1 % 2 == 1))) 1099511627775) = rvF (Nat.beq d 0 && !Nat.beq (a / 512 % 4) 0) a (a / 512 % 4) := by
  have hw := mod4 (a / 512)
  rw [t3 d hd, wbit _ (by omega)]
  exact msk40 (by show a + a / 512 % 4 * 4294967296 < 1099511627776; omega) _
section
variable {n : Nat} {x : Nat → Nat}
theorem lz_raw (hx : ∀ i, x i < 4294967296) : rawY (lO n) (lz n x) = lz n (fun i => rv (x i)) := by
  have hs : ∀ {x : Nat → Nat}, ∀ i, rS (x i) < 4294967296 := fun i => rS_lt _
  have d64 : ∀ i, rS (rS (rS (x i))) / 512 % 3 < 2 ^ 64 := fun i => Nat.lt_trans (Nat.mod_lt _ (by decide)) (by decide)
  have w64 : ∀ i, rS (rS (rS (rS (x i)))) / 512 % 4 < 2 ^ 64 := fun i => Nat.lt_of_le_of_lt (mod4 _) (by decide)
  have a64 : ∀ i, rS (rS (rS (rS (x i)))) < 2 ^ 64 := fun i => Nat.lt_trans (rS_lt _) (by decide)
  have s64 : ∀ i, Nat.add (rS (rS (rS (rS (x i))))) (Nat.mul (rS (rS (rS (rS (x i)))) / 512 % 4) 4294967296) < 2 ^ 64 := fun i => by
    have h1 := rS_lt (rS (rS (rS (x i))))
    have h2 := mod4 (rS (rS (rS (rS (x i)))) / 512)
    generalize rS (rS (rS (rS (x i)))) / 512 % 4 = w at h2 ⊢
    generalize rS (rS (rS (rS (x i)))) = a at h1 ⊢
    show a + w * 4294967296 < 2 ^ 64
    omega
  have sh : ∀ a : Nat, Nat.land (Nat.shiftRight a 9) 3 = a / 512 % 4 := fun a => (and_m _ 2).trans (congrArg (· % 2 ^ 2) (shr_d _ 9))
  unfold rawY
  dsimp only
  rw [lz_rS hx, lz_rS hs, lz_rS hs, lz_rS hs, lz_m3 hs, lz_c, lz_shr 9 3 (by decide) (by decide) n _ a64, lz_congr (fun i _ => sh (rS (rS (rS (rS (x i)))))), lz_mul, lz_add, lz_nb1 0 (by decide) d64 (fun i => nbt_ib 0 _), lz_nb1 1 (by decide) d64 (fun i => nbt_ib 1 _), iv_or, iv_not, lz_nb1 0 (by decide) w64 (fun i => nbt_ib 0 _), lz_nb1 1 (by decide) w64 (fun i => nbt_ib 1 _), iv_or, iv_and, lz_mul,
    lz_and n _ _ s64 (fun i => by have := ib_le ((!(rS (rS (rS (x i))) / 512 % 3 / 2 ^ 0 % 2 == 1 || rS (rS (rS (x i))) / 512 % 3 / 2 ^ 1 % 2 == 1)) && (rS (rS (rS (rS (x i)))) / 512 % 4 / 2 ^ 0 % 2 == 1 || rS (rS (rS (rS (x i)))) / 512 % 4 / 2 ^ 1 % 2 == 1)); generalize ib ((!(rS (rS (rS (x i))) / 512 % 3 / 2 ^ 0 % 2 == 1 || rS (rS (rS (x i))) / 512 % 3 / 2 ^ 1 % 2 == 1)) && (rS (rS (rS (rS (x i)))) / 512 % 4 / 2 ^ 0 % 2 == 1 || rS (rS (rS (rS (x i)))) / 512 % 4 / 2 ^ 1 % 2 == 1)) = q at this ⊢; show q * 1099511627775 < 2 ^ 64; omega)]
  exact lz_congr (fun i _ => raw_c (rS_lt _) (Nat.mod_lt _ (by decide)))
end
/-! numbers in a row -/
theorem apX_lz : ∀ k, apX k = lz (2 ^ k) (fun i => i)
  | 0 => rfl
  | k + 1 => by
    show Nat.add (apX k) (Nat.shiftLeft (Nat.add (apX k) (Nat.mul (2 ^ k) (zO (2 ^ k)))) (Nat.mul 64 (2 ^ k))) = _
    rw [apX_lz k, zO_lz, lz_c, lz_add, show 2 ^ (k + 1) = 2 ^ k + 2 ^ k by rw [Nat.pow_succ]; omega, lz_app, show Nat.shiftLeft (lz (2 ^ k) (fun i => Nat.add i (2 ^ k))) (Nat.mul 64 (2 ^ k)) = lz (2 ^ k) (fun i => Nat.add i (2 ^ k)) * 2 ^ (64 * 2 ^ k) from Nat.shiftLeft_eq _ _, Nat.mul_comm]
    exact Nat.add_comm _ _
def xq (u i : Nat) : Nat := 11264 * (u + i / 512) + 7680 + i % 512
theorem blX_lz : ∀ t, blX t = lz (512 * t) (xq 0)
  | 0 => rfl
  | t + 1 => by
    show Nat.add (blX t) (Nat.shiftLeft (Nat.add (apX 9) (Nat.mul (Nat.add (Nat.mul 11264 t) 7680) (zO 512))) (Nat.mul 32768 t)) = _
    rw [blX_lz t, apX_lz, zO_lz, lz_c, show (2 : Nat) ^ 9 = 512 from rfl, lz_add, show 512 * (t + 1) = 512 * t + 512 by omega, lz_app, show Nat.shiftLeft (lz 512 (fun i => Nat.add i (Nat.add (Nat.mul 11264 t) 7680))) (Nat.mul 32768 t) = lz 512 (fun i => Nat.add i (Nat.add (Nat.mul 11264 t) 7680)) * 2 ^ (32768 * t) from Nat.shiftLeft_eq _ _, show 64 * (512 * t) = 32768 * t by omega, Nat.mul_comm (lz 512 _)]
    refine (Nat.add_comm _ _).trans (congrArg (fun z => 2 ^ (32768 * t) * z + lz (512 * t) (xq 0)) (lz_congr (fun i hi => ?_)))
    show i + (11264 * t + 7680) = 11264 * (0 + (i + 512 * t) / 512) + 7680 + (i + 512 * t) % 512
    omega
theorem rawV_lz {u : Nat} (hu : u + 6 ≤ 381300) : rawV (lO 3072) u = lz 4608 (fun i => if i < 3072 then rv (xq u i) else 0) := by
  unfold rawV
  rw [blX_lz, lz_c, lz_add, lz_cut, lz_raw (fun i => by
    unfold cut
    split
    · rename_i h
      show 11264 * (0 + i / 512) + 7680 + i % 512 + 11264 * u < 4294967296
      omega
    · exact (by decide : (0 : Nat) < 4294967296)), lz_congr (n := 3072) (y := fun i => rv (xq u i)) (fun i hi => by
      unfold cut
      rw [if_pos hi]
      refine congrArg rv ?_
      show 11264 * (0 + i / 512) + 7680 + i % 512 + 11264 * u = 11264 * (u + i / 512) + 7680 + i % 512
      omega), lz_ext (n := 4608) (by decide)]
