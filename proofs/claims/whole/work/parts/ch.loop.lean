/-! ===== the law's loop ===== -/
theorem and31 (x : Int32) : ∃ k : Nat, k < 32 ∧ (x &&& (31 : Int32)).toInt = (k : Int) := by
  have h1 : (x &&& (31 : Int32)).toBitVec = x.toBitVec &&& 31#32 := rfl
  have h2 : (x.toBitVec &&& 31#32).toNat ≤ 31 := by
    rw [BitVec.toNat_and]
    exact Nat.and_le_right
  refine ⟨(x.toBitVec &&& 31#32).toNat, by omega, ?_⟩
  show (x &&& (31 : Int32)).toBitVec.toInt = _
  rw [h1, BitVec.toInt_eq_toNat_of_lt (by omega)]
theorem st_step {a b : TS} {w : Hp} {sc : List Int32} {n i : Nat} (hn : n ≤ 511) (h : IvH a b n) (hW : WK w sc) (hi : i + 5 ≤ sc.length) (hL : sc.length < 2 ^ 30) : LwN a b w sc n i := by
  obtain ⟨k, hk, e⟩ := and31 (sc.getD i 0)
  have : k = 0 ∨ k = 1 ∨ k = 2 ∨ k = 3 ∨ k = 4 ∨ k = 5 ∨ k = 6 ∨ k = 7 ∨ k = 8 ∨ k = 9 ∨ k = 10 ∨ k = 11 ∨ k = 12 ∨ k = 13 ∨ k = 14 ∨ k = 15 ∨ k = 16 ∨ k = 17 ∨ k = 18 ∨ k = 19 ∨ k = 20 ∨ k = 21 ∨ k = 22 ∨ k = 23 ∨ k = 24 ∨ k = 25 ∨ k = 26 ∨ k = 27 ∨ k = 28 ∨ k = 29 ∨ k = 30 ∨ k = 31 := by omega
  rcases this with q | q | q | q | q | q | q | q | q | q | q | q | q | q | q | q | q | q | q | q | q | q | q | q | q | q | q | q | q | q | q | q <;> subst q
  · exact st_0 hn h hW hi hL e
  · exact st_1 hn h hW hi hL e
  · exact st_2 hn h hW hi hL e
  · exact st_3 hn h hW hi hL e
  · exact st_4 hn h hW hi hL e
  · exact st_5 hn h hW hi hL e
  · exact st_6 hn h hW hi hL e
  · exact st_7 hn h hW hi hL e
  · exact st_8 hn h hW hi hL e
  · exact st_9 hn h hW hi hL e
  · exact st_10 hn h hW hi hL e
  · exact st_11 hn h hW hi hL e
  · exact st_12 hn h hW hi hL e
  · exact st_13 hn h hW hi hL e
  · exact st_14 hn h hW hi hL e
  · exact st_15 hn h hW hi hL e
  · exact st_16 hn h hW hi hL e
  · exact st_17 hn h hW hi hL e
  · exact st_18 hn h hW hi hL e
  · exact st_19 hn h hW hi hL e
  · exact st_20 hn h hW hi hL e
  · exact st_21 hn h hW hi hL e
  · exact st_22 hn h hW hi hL e
  · exact st_23 hn h hW hi hL e
  · exact st_24 hn h hW hi hL e
  · exact st_25 hn h hW hi hL e
  · exact st_26 hn h hW hi hL e
  · exact st_27 hn h hW hi hL e
  · exact st_28 hn h hW hi hL e
  · exact st_29 hn h hW hi hL e
  · exact st_30 hn h hW hi hL e
  · exact st_31 hn h hW hi hL e
