/-! ===== the law's loop ===== -/
theorem and31 (x : Int32) : ∃ k : Nat, k < 32 ∧ (x &&& (31 : Int32)).toInt = (k : Int) := by
  have h1 : (x &&& (31 : Int32)).toBitVec = x.toBitVec &&& 31#32 := rfl
  have h2 : (x.toBitVec &&& 31#32).toNat ≤ 31 := by
    rw [BitVec.toNat_and]
    exact Nat.and_le_right
  refine ⟨(x.toBitVec &&& 31#32).toNat, by omega, ?_⟩
  show (x &&& (31 : Int32)).toBitVec.toInt = _
  rw [h1, BitVec.toInt_eq_toNat_of_lt (by omega)]
theorem st_step {a b : TS} {w : Hp} {sc : List Int32} {n i : Nat} (hn : n ≤ 511) (h : IvH a b n) (hW : WK w sc) (hi : i + 5 ≤ sc.length) (hL : sc.length < 2 ^ 30) : LwN a b w sc n i := by
  obtain ⟨k, hk, e⟩ := and31 (sc.getD i 0)
  have : k = 0 ∨ k = 1 ∨ k = 2 ∨ k = 3 ∨ k = 4 ∨ k = 5 ∨ k = 6 ∨ k = 7 ∨ k = 8 ∨ k = 9 ∨ k = 10 ∨ k = 11 ∨ k = 12 ∨ k = 13 ∨ k = 14 ∨ k = 15 ∨ k = 16 ∨ k = 17 ∨ k = 18 ∨ k = 19 ∨ k = 20 ∨ k = 21 ∨ k = 22 ∨ k = 23 ∨ k = 24 ∨ k = 25 ∨ k = 26 ∨ k = 27 ∨ k = 28 ∨ k = 29 ∨ k = 30 ∨ k = 31 := by omega
  rcases this with q | q | q | q | q | q | q | q | q | q | q | q | q | q | q | q | q | q | q | q | q | q | q | q | q | q | q | q | q | q | q | q <;> subst q
  · exact st_0 hn h hW hi hL e
  · exact st_1 hn h hW hi hL e
  · exact st_2 hn h hW hi hL e
  · exact st_3 hn h hW hi hL e
  · exact st_4 hn h hW hi hL e
  · exact st_5 hn h hW hi hL e
  · exact st_6 hn h hW hi hL e
  · exact st_7 hn h hW hi hL e
  · exact st_8 hn h hW hi hL e
  · exact st_9 hn h hW hi hL e
  · exact st_10 hn h hW hi hL e
  · exact st_11 hn h hW hi hL e
  · exact st_12 hn h hW hi hL e
  · exact st_13 hn h hW hi hL e
  · exact st_14 hn h hW hi hL e
  · exact st_15 hn h hW hi hL e
  · exact st_16 hn h hW hi hL e
  · exact st_17 hn h hW hi hL e
  · exact st_18 hn h hW hi hL e
  · exact st_19 hn h hW hi hL e
  · exact st_20 hn h hW hi hL e
  · exact st_21 hn h hW hi hL e
  · exact st_22 hn h hW hi hL e
  · exact st_23 hn h hW hi hL e
  · exact st_24 hn h hW hi hL e
  · exact st_25 hn h hW hi hL e
  · exact st_26 hn h hW hi hL e
  · exact st_27 hn h hW hi hL e
  · exact st_28 hn h hW hi hL e
  · exact st_29 hn h hW hi hL e
  · exact st_30 hn h hW hi hL e
  · exact st_31 hn h hW hi hL e
theorem law_loop {sc : List Int32} (hL : sc.length < 2 ^ 30) (Q : Nat → TS → TS → Hp → Prop) (hQ : ∀ n a b w a' b' w', Q n a b w → LwS a b w a' b' w' → Q (n + 1) a' b' w') :
    ∀ k n a b w, n + k ≤ 512 → IvH a b n → WK w sc → 5 * (n + k) ≤ sc.length → sc.length < 5 * (n + k) + 5 → Q n a b w → ∃ a' b' w', LwR a b w (5 * n) = some (.inl (some (aI 1)), JH a' b' w') ∧ Q (n + k) a' b' w' ∧ IvH a' b' (n + k) := by
  intro k
  induction k with
  | zero =>
    intro n a b w hn h hW h1 h2 hq
    refine ⟨a, b, w, ?_, hq, h⟩
    have hl := len_S (a := a) (b := b) hW
    have lt : Int32.ofNat sc.length - 5 < Int32.ofNat (5 * n) := by
      by_cases q : 5 ≤ sc.length
      · rw [show Int32.ofNat sc.length - 5 = Int32.ofNat (sc.length - 5) from o_sb (n := sc.length) (k := 5) q, o_lt (by omega) (by omega)]
        omega
      · have n0 : n = 0 := by omega
        subst n0
        have : sc.length = 0 ∨ sc.length = 1 ∨ sc.length = 2 ∨ sc.length = 3 ∨ sc.length = 4 := by omega
        rcases this with e | e | e | e | e <;> rw [e] <;> decide
    unfold LwR
    rw [lf_316_28, hl, Option.bind_some, if_pos lt]
  | succ k ih =>
    intro n a b w hn h hW h1 h2 hq
    obtain ⟨a', b', w', e, hI, hW', hS⟩ := st_step (i := 5 * n) (by omega) h hW (by omega) hL
    obtain ⟨a2, b2, w2, e2, hq2, hI2⟩ := ih (n + 1) a' b' w' (by omega) hI hW' (by omega) (by omega) (hQ _ _ _ _ _ _ _ hq hS)
    refine ⟨a2, b2, w2, ?_, ?_, ?_⟩
    · rw [e, show 5 * n + 5 = 5 * (n + 1) by omega]
      exact e2
    · rw [show n + (k + 1) = n + 1 + k by omega]
      exact hq2
    · rw [show n + (k + 1) = n + 1 + k by omega]
      exact hI2
