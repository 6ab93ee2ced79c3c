/-! ===== the switch's notes ===== -/
def ntP (a : TS) (k : Nat) : Int32 := match tR a 15 0 k with | some q => tI a q.1 q.2 1 | none => 0
def ntC (a : TS) (k : Nat) : Int32 := match tR a 15 0 k with | some q => tI a q.1 q.2 2 | none => 0
/-- a note, and the ASK that the reference keeps of it -/
def ntM (a b : TS) (k : Nat) : Prop := ∃ i q p cd c sh, i < tN a 17 ∧ tR a 15 0 k = some (17, i) ∧ tR b 71 0 k = some q ∧ isQ q.1 ∧ q.2 < tN b q.1 ∧ p < tZ a 29 0 ∧ cd < tZ a 28 0 ∧ c < 201 ∧ sh < tZ a 27 0 ∧
  (tI a 17 i 1 = Int32.ofNat p ∧ tI a 17 i 2 = Int32.ofNat cd ∧ tI a 17 i 3 = Int32.ofNat sh ∧ tI a 17 i 4 = Int32.ofNat c ∧ tI a 17 i 5 = tI b 87 0 (10 * p + 3) ∧ tI a 17 i 6 = pst b p 2) ∧
  (tI b q.1 q.2 1 = Int32.ofNat p ∧ tI b q.1 q.2 2 = Int32.ofNat cd ∧ tI b q.1 q.2 3 = Int32.ofNat c ∧ tI b q.1 q.2 4 = tI b 87 0 (10 * p + 3) ∧ tI b q.1 q.2 5 = pst b p 2) ∧ tI b 72 0 k = Int32.ofNat sh ∧
  (tI b 87 0 (10 * p + 1) = Int32.ofNat cd ∧ tI b 87 0 (10 * p + 2) = Int32.ofNat sh ∧ tI b 87 0 (10 * p + 4) = Int32.ofNat c)
def Nt (a b : TS) : Prop := capOK a 15 0 ∧ tI b 95 0 4 = Int32.ofNat (tZ a 15 0) ∧ (∀ k, k < tZ a 15 0 → ntM a b k) ∧ (∀ k k', k < k' → k' < tZ a 15 0 → ntP a k ≠ ntP a k') ∧
  (∀ cd, cd < 8 → tI b 73 0 cd = Int32.ofNat ((List.range (tZ a 15 0)).countP (fun k => ntC a k == Int32.ofNat cd))) ∧ (tI b 95 0 5 ≠ 0 → tZ a 15 0 = 0) ∧ tI a 31 0 2 = tI b 95 0 5 ∧ bitOk (tI b 95 0 5) = true
theorem Nt_le {a b : TS} (h : Nt a b) (hP : tZ a 29 0 ≤ 200) : tZ a 15 0 ≤ tZ a 29 0 := by
  obtain ⟨-, -, h3, h4, -⟩ := h
  refine pig (tZ a 29 0) (tZ a 15 0) (fun k => (ntP a k).toNatClampNeg) (fun k hk => ?_) (fun k k' hk hk' e => ?_)
  · obtain ⟨i, q, p, cd, c, sh, i1, i2, -, -, -, i6, -, -, -, ⟨j1, -⟩, -⟩ := h3 k hk
    show (ntP a k).toNatClampNeg < _
    unfold ntP
    rw [i2]
    dsimp only
    rw [j1, o_ix (by omega)]
    exact i6
  · have ep : ∀ k, k < tZ a 15 0 → ∃ p, p < tZ a 29 0 ∧ ntP a k = Int32.ofNat p := fun k hk => by
      obtain ⟨i, q, p, cd, c, sh, i1, i2, -, -, -, i6, -, -, -, ⟨j1, -⟩, -⟩ := h3 k hk
      refine ⟨p, i6, ?_⟩
      unfold ntP
      rw [i2]
      exact j1
    obtain ⟨p, p1, p2⟩ := ep k hk
    obtain ⟨p', p1', p2'⟩ := ep k' hk'
    have e' : (ntP a k).toNatClampNeg = (ntP a k').toNatClampNeg := e
    rw [p2, p2', o_ix (by omega), o_ix (by omega)] at e'
    rcases Nat.lt_trichotomy k k' with l | l | l
    · exact absurd (by rw [p2, p2', e']) (h4 k k' l hk')
    · exact l
    · exact absurd (by rw [p2, p2', e']) (h4 k' k l hk)
theorem least {P : Nat → Prop} : ∀ n, (∀ j, j < n → ¬ P j) ∨ ∃ j, j < n ∧ P j ∧ ∀ j', j' < j → ¬ P j' := by
  intro n
  induction n with
  | zero => exact Or.inl (fun j hj => absurd hj (Nat.not_lt_zero _))
  | succ n ih =>
    rcases ih with h | ⟨j, j1, j2, j3⟩
    · rcases Classical.em (P n) with e | e
      · exact Or.inr ⟨n, by omega, e, h⟩
      · refine Or.inl (fun j hj => ?_)
        by_cases q : j = n
        · rw [q]; exact e
        · exact h j (by omega)
    · exact Or.inr ⟨j, by omega, j2, j3⟩
/-! the search among the notes: the class's, the reference's -/
theorem x65_to {a : TS} {z : Hp} {r n : Nat} {p cd : Int32} (hF : FxC a) (hr : r < tN a 10) (hp : tI a 10 r 1 = p) (hcd : tI a 10 r 2 = cd) (hn : tZ a 15 0 = n) (hn2 : n < 100000) (h : ∀ k, k < n → ∃ i, i < tN a 17 ∧ tR a 15 0 k = some (17, i)) :
    ∀ j, j ≤ n → (∀ k, k < j → ntP a k ≠ p) → Ru 65 4 [(0, aR (some (31, 0))), (1, aR (some (10, r))), (2, aI 0), (3, aI 0)] [] (enc 1 a z) = Ru 65 4 [(0, aR (some (31, 0))), (1, aR (some (10, r))), (2, aI (Int32.ofNat ((List.range j).countP (fun k => ntC a k == cd)))), (3, aI (Int32.ofNat j))] [] (enc 1 a z) := by
  intro j
  have i10 : isM 10 := ⟨by decide +kernel, by decide +kernel⟩
  have i17 : isM 17 := ⟨by decide +kernel, by decide +kernel⟩
  induction j with
  | zero => exact fun _ _ => rfl
  | succ j ih =>
    intro hj hne
    rw [ih (by omega) (fun k hk => hne k (by omega))]
    obtain ⟨i, i1, i2⟩ := h j (by omega)
    have e1 : ntP a j = tI a 17 i 1 := by unfold ntP; rw [i2]
    have e2 : ntC a j = tI a 17 i 2 := by unfold ntC; rw [i2]
    have ne1 : ¬ tI a 17 i 1 = p := by rw [← e1]; exact hne j (by omega)
    have g1 : ¬ Int32.ofNat j < 0 := o_lt0 (by omega)
    have g2 : (Int32.ofNat j).toNatClampNeg = j := o_ix (by omega)
    have g3 : ¬ Int32.ofNat n ≤ Int32.ofNat j := by rw [o_le (by omega) (by omega)]; omega
    have g4 : j < n := by omega
    rw [lf_65_4, countP_range_succ]
    by_cases e : tI a 17 i 2 = cd
    · have e' : (ntC a j == cd) = true := by rw [e2, e]; exact beq_self_eq_true _
      rw [if_pos e']
      simp (config := {decide := true}) only [gfI_enc, gfL_enc, gfR_enc, pfI_enc, pfL_enc, pfR_enc, Option.bind_some, cI_v, cL_v, cF_v, cD_v, cR_v, cV_v, cI_x, cL_x, cR_x, cV_x, gz_0, gz_1, acc_enc, tI_sI, tL_sI, tR_sI, tN_sI, tZ_sI, tC_sI, tc_sI, tz_sI, tI_sL, tL_sL, tR_sL, tN_sL, tZ_sL, tC_sL, tc_sL, tz_sL, tI_sR, tL_sR, tR_sR, tN_sR, tZ_sR, tC_sR, tc_sR, tz_sR, tI_sZ, tL_sZ, tR_sZ, tN_sZ, tZ_sZ, tC_sZ, tc_sZ, tz_sZ, tI_sC, tL_sC, tR_sC, tN_sC, tZ_sC, tC_sC, tc_sC, tz_sC, tI_aC, tL_aC, tR_aC, tN_aC, tZ_aC, tC_aC, tc_aC, tz_aC, tI_rmL, tL_rmL, tR_rmL, tN_rmL, tZ_rmL, tC_rmL, tc_rmL, tz_rmL, tI_mk, tL_mk, tR_mk, tN_mk, tZ_mk, tC_mk, tc_mk, tz_mk, tI_pushL, tL_pushL, tR_pushL, tN_pushL, tZ_pushL, tC_pushL, tc_pushL, tz_pushL, tI_pushB, tL_pushB, tR_pushB, tN_pushB, tZ_pushB, tC_pushB, tc_pushB, tz_pushB, tI_cpL, tL_cpL, tR_cpL, tN_cpL, tZ_cpL, tC_cpL, tc_cpL, tz_cpL, eq_self, true_and, and_true, false_and, and_false, if_true, if_false, reduceIte, ite_true, ite_false, not_true_eq_false, not_false_eq_true, fcN_31 hF, fcN_15 hF, fcR_31_0 hF, X405, X402, hn, g1, g2, g3, g4, i2, i1, gm i17 i1, gm i10 hr, hp, hcd, ne1, e, o_s]
    · have e' : ¬ (ntC a j == cd) = true := by rw [e2]; exact fun q => e (eq_of_beq q)
      rw [if_neg e', Nat.add_zero]
      simp (config := {decide := true}) only [gfI_enc, gfL_enc, gfR_enc, pfI_enc, pfL_enc, pfR_enc, Option.bind_some, cI_v, cL_v, cF_v, cD_v, cR_v, cV_v, cI_x, cL_x, cR_x, cV_x, gz_0, gz_1, acc_enc, tI_sI, tL_sI, tR_sI, tN_sI, tZ_sI, tC_sI, tc_sI, tz_sI, tI_sL, tL_sL, tR_sL, tN_sL, tZ_sL, tC_sL, tc_sL, tz_sL, tI_sR, tL_sR, tR_sR, tN_sR, tZ_sR, tC_sR, tc_sR, tz_sR, tI_sZ, tL_sZ, tR_sZ, tN_sZ, tZ_sZ, tC_sZ, tc_sZ, tz_sZ, tI_sC, tL_sC, tR_sC, tN_sC, tZ_sC, tC_sC, tc_sC, tz_sC, tI_aC, tL_aC, tR_aC, tN_aC, tZ_aC, tC_aC, tc_aC, tz_aC, tI_rmL, tL_rmL, tR_rmL, tN_rmL, tZ_rmL, tC_rmL, tc_rmL, tz_rmL, tI_mk, tL_mk, tR_mk, tN_mk, tZ_mk, tC_mk, tc_mk, tz_mk, tI_pushL, tL_pushL, tR_pushL, tN_pushL, tZ_pushL, tC_pushL, tc_pushL, tz_pushL, tI_pushB, tL_pushB, tR_pushB, tN_pushB, tZ_pushB, tC_pushB, tc_pushB, tz_pushB, tI_cpL, tL_cpL, tR_cpL, tN_cpL, tZ_cpL, tC_cpL, tc_cpL, tz_cpL, eq_self, true_and, and_true, false_and, and_false, if_true, if_false, reduceIte, ite_true, ite_false, not_true_eq_false, not_false_eq_true, fcN_31 hF, fcN_15 hF, fcR_31_0 hF, X405, X402, hn, g1, g2, g3, g4, i2, i1, gm i17 i1, gm i10 hr, hp, hcd, ne1, e, o_s, Int32.add_zero]
theorem x65_yes {a : TS} {z : Hp} {r n j : Nat} {p : Int32} (v2 : Int32) (hF : FxC a) (hr : r < tN a 10) (hp : tI a 10 r 1 = p) (hn : tZ a 15 0 = n) (hn2 : n < 100000) (h : ∀ k, k < n → ∃ i, i < tN a 17 ∧ tR a 15 0 k = some (17, i)) (hj : j < n) (he : ntP a j = p) :
    Ru 65 4 [(0, aR (some (31, 0))), (1, aR (some (10, r))), (2, aI v2), (3, aI (Int32.ofNat j))] [] (enc 1 a z) = some (.inl (some (aI 1)), enc 1 a z) := by
  have i10 : isM 10 := ⟨by decide +kernel, by decide +kernel⟩
  have i17 : isM 17 := ⟨by decide +kernel, by decide +kernel⟩
  obtain ⟨i, i1, i2⟩ := h j hj
  have e1 : tI a 17 i 1 = p := by rw [← he]; unfold ntP; rw [i2]
  have g1 : ¬ Int32.ofNat j < 0 := o_lt0 (by omega)
  have g2 : (Int32.ofNat j).toNatClampNeg = j := o_ix (by omega)
  have g3 : ¬ Int32.ofNat n ≤ Int32.ofNat j := by rw [o_le (by omega) (by omega)]; omega
  rw [lf_65_4]
  simp (config := {decide := true}) only [gfI_enc, gfL_enc, gfR_enc, pfI_enc, pfL_enc, pfR_enc, Option.bind_some, cI_v, cL_v, cF_v, cD_v, cR_v, cV_v, cI_x, cL_x, cR_x, cV_x, gz_0, gz_1, acc_enc, tI_sI, tL_sI, tR_sI, tN_sI, tZ_sI, tC_sI, tc_sI, tz_sI, tI_sL, tL_sL, tR_sL, tN_sL, tZ_sL, tC_sL, tc_sL, tz_sL, tI_sR, tL_sR, tR_sR, tN_sR, tZ_sR, tC_sR, tc_sR, tz_sR, tI_sZ, tL_sZ, tR_sZ, tN_sZ, tZ_sZ, tC_sZ, tc_sZ, tz_sZ, tI_sC, tL_sC, tR_sC, tN_sC, tZ_sC, tC_sC, tc_sC, tz_sC, tI_aC, tL_aC, tR_aC, tN_aC, tZ_aC, tC_aC, tc_aC, tz_aC, tI_rmL, tL_rmL, tR_rmL, tN_rmL, tZ_rmL, tC_rmL, tc_rmL, tz_rmL, tI_mk, tL_mk, tR_mk, tN_mk, tZ_mk, tC_mk, tc_mk, tz_mk, tI_pushL, tL_pushL, tR_pushL, tN_pushL, tZ_pushL, tC_pushL, tc_pushL, tz_pushL, tI_pushB, tL_pushB, tR_pushB, tN_pushB, tZ_pushB, tC_pushB, tc_pushB, tz_pushB, tI_cpL, tL_cpL, tR_cpL, tN_cpL, tZ_cpL, tC_cpL, tc_cpL, tz_cpL, eq_self, true_and, and_true, false_and, and_false, if_true, if_false, reduceIte, ite_true, ite_false, not_true_eq_false, not_false_eq_true, fcN_31 hF, fcN_15 hF, fcR_31_0 hF, X405, X402, hn, g1, g2, g3, hj, i2, i1, gm i17 i1, gm i10 hr, hp, e1]
theorem y207 {b : TS} {z : Hp} {n : Nat} {p : Int32} (hF : FxR b) (hn : tI b 95 0 4 = Int32.ofNat n) (hn2 : n ≤ 200) (f : Nat → Int32) (h : ∀ k, k < n → ∃ q, tR b 71 0 k = some q ∧ isQ q.1 ∧ q.2 < tN b q.1 ∧ tI b q.1 q.2 1 = f k) :
    ((∃ j, j < n ∧ f j = p) → Ex 207 [aR (some (95, 0)), aI p] (enc 2 b z) = some (.inl (some (aI 1)), enc 2 b z)) ∧ ((∀ j, j < n → f j ≠ p) → Ex 207 [aR (some (95, 0)), aI p] (enc 2 b z) = some (.inl (some (aI 0)), enc 2 b z)) := by
  have to : ∀ j, j ≤ n → (∀ k, k < j → f k ≠ p) → Ex 207 [aR (some (95, 0)), aI p] (enc 2 b z) = Ru 207 2 [(0, aR (some (95, 0))), (1, aI p), (2, aI (Int32.ofNat j))] [] (enc 2 b z) := by
    intro j
    induction j with
    | zero => exact fun _ _ => (X_in (by decide +kernel) (frN_95 hF) rfl).trans (lf_207_0 ..)
    | succ j ih =>
      intro hj hne
      rw [ih (by omega) (fun k hk => hne k (by omega))]
      obtain ⟨q, q1, q2, q3, q4⟩ := h j (by omega)
      obtain ⟨qs, qi⟩ := q
      have ne1 : ¬ tI b qs qi 1 = p := by rw [show tI b qs qi 1 = f j from q4]; exact hne j (by omega)
      have g1 : ¬ Int32.ofNat j < 0 := o_lt0 (by omega)
      have g2 : (Int32.ofNat j).toNatClampNeg = j := o_ix (by omega)
      have g3 : ¬ Int32.ofNat n ≤ Int32.ofNat j := by rw [o_le (by omega) (by omega)]; omega
      have g4 : j < 200 := by omega
      rw [lf_207_2]
      simp (config := {decide := true}) only [gfI_enc, gfL_enc, gfR_enc, pfI_enc, pfL_enc, pfR_enc, Option.bind_some, cI_v, cL_v, cF_v, cD_v, cR_v, cV_v, cI_x, cL_x, cR_x, cV_x, gz_0, gz_1, acc_enc, tI_sI, tL_sI, tR_sI, tN_sI, tZ_sI, tC_sI, tc_sI, tz_sI, tI_sL, tL_sL, tR_sL, tN_sL, tZ_sL, tC_sL, tc_sL, tz_sL, tI_sR, tL_sR, tR_sR, tN_sR, tZ_sR, tC_sR, tc_sR, tz_sR, tI_sZ, tL_sZ, tR_sZ, tN_sZ, tZ_sZ, tC_sZ, tc_sZ, tz_sZ, tI_sC, tL_sC, tR_sC, tN_sC, tZ_sC, tC_sC, tc_sC, tz_sC, tI_aC, tL_aC, tR_aC, tN_aC, tZ_aC, tC_aC, tc_aC, tz_aC, tI_rmL, tL_rmL, tR_rmL, tN_rmL, tZ_rmL, tC_rmL, tc_rmL, tz_rmL, tI_mk, tL_mk, tR_mk, tN_mk, tZ_mk, tC_mk, tc_mk, tz_mk, tI_pushL, tL_pushL, tR_pushL, tN_pushL, tZ_pushL, tC_pushL, tc_pushL, tz_pushL, tI_pushB, tL_pushB, tR_pushB, tN_pushB, tZ_pushB, tC_pushB, tc_pushB, tz_pushB, tI_cpL, tL_cpL, tR_cpL, tN_cpL, tZ_cpL, tC_cpL, tc_cpL, tz_cpL, eq_self, true_and, and_true, false_and, and_false, if_true, if_false, reduceIte, ite_true, ite_false, not_true_eq_false, not_false_eq_true, frN_95 hF, frN_71 hF, frR_95_16 hF, frZ_71 hF, gaR_enc, hn, g1, g2, g3, g4, q1, gq q2 q3, ne1, o_s]
  refine ⟨fun hx => ?_, fun hx => ?_⟩
  · rcases least (P := fun j => f j = p) n with h0 | ⟨j, j1, j2, j3⟩
    · obtain ⟨j, j1, j2⟩ := hx
      exact absurd j2 (h0 j j1)
    · rw [to j (by omega) j3]
      obtain ⟨q, q1, q2, q3, q4⟩ := h j j1
      obtain ⟨qs, qi⟩ := q
      have e1 : tI b qs qi 1 = p := by rw [show tI b qs qi 1 = f j from q4]; exact j2
      have g1 : ¬ Int32.ofNat j < 0 := o_lt0 (by omega)
      have g2 : (Int32.ofNat j).toNatClampNeg = j := o_ix (by omega)
      have g3 : ¬ Int32.ofNat n ≤ Int32.ofNat j := by rw [o_le (by omega) (by omega)]; omega
      have g4 : j < 200 := by omega
      rw [lf_207_2]
      simp (config := {decide := true}) only [gfI_enc, gfL_enc, gfR_enc, pfI_enc, pfL_enc, pfR_enc, Option.bind_some, cI_v, cL_v, cF_v, cD_v, cR_v, cV_v, cI_x, cL_x, cR_x, cV_x, gz_0, gz_1, acc_enc, tI_sI, tL_sI, tR_sI, tN_sI, tZ_sI, tC_sI, tc_sI, tz_sI, tI_sL, tL_sL, tR_sL, tN_sL, tZ_sL, tC_sL, tc_sL, tz_sL, tI_sR, tL_sR, tR_sR, tN_sR, tZ_sR, tC_sR, tc_sR, tz_sR, tI_sZ, tL_sZ, tR_sZ, tN_sZ, tZ_sZ, tC_sZ, tc_sZ, tz_sZ, tI_sC, tL_sC, tR_sC, tN_sC, tZ_sC, tC_sC, tc_sC, tz_sC, tI_aC, tL_aC, tR_aC, tN_aC, tZ_aC, tC_aC, tc_aC, tz_aC, tI_rmL, tL_rmL, tR_rmL, tN_rmL, tZ_rmL, tC_rmL, tc_rmL, tz_rmL, tI_mk, tL_mk, tR_mk, tN_mk, tZ_mk, tC_mk, tc_mk, tz_mk, tI_pushL, tL_pushL, tR_pushL, tN_pushL, tZ_pushL, tC_pushL, tc_pushL, tz_pushL, tI_pushB, tL_pushB, tR_pushB, tN_pushB, tZ_pushB, tC_pushB, tc_pushB, tz_pushB, tI_cpL, tL_cpL, tR_cpL, tN_cpL, tZ_cpL, tC_cpL, tc_cpL, tz_cpL, eq_self, true_and, and_true, false_and, and_false, if_true, if_false, reduceIte, ite_true, ite_false, not_true_eq_false, not_false_eq_true, frN_95 hF, frN_71 hF, frR_95_16 hF, frZ_71 hF, gaR_enc, hn, g1, g2, g3, g4, q1, gq q2 q3, e1]
  · rw [to n (Nat.le_refl _) hx, lf_207_2]
    have g3 : Int32.ofNat n ≤ Int32.ofNat n := Int32.le_refl _
    simp (config := {decide := true}) only [gfI_enc, gfL_enc, gfR_enc, pfI_enc, pfL_enc, pfR_enc, Option.bind_some, cI_v, cL_v, cF_v, cD_v, cR_v, cV_v, cI_x, cL_x, cR_x, cV_x, gz_0, gz_1, acc_enc, tI_sI, tL_sI, tR_sI, tN_sI, tZ_sI, tC_sI, tc_sI, tz_sI, tI_sL, tL_sL, tR_sL, tN_sL, tZ_sL, tC_sL, tc_sL, tz_sL, tI_sR, tL_sR, tR_sR, tN_sR, tZ_sR, tC_sR, tc_sR, tz_sR, tI_sZ, tL_sZ, tR_sZ, tN_sZ, tZ_sZ, tC_sZ, tc_sZ, tz_sZ, tI_sC, tL_sC, tR_sC, tN_sC, tZ_sC, tC_sC, tc_sC, tz_sC, tI_aC, tL_aC, tR_aC, tN_aC, tZ_aC, tC_aC, tc_aC, tz_aC, tI_rmL, tL_rmL, tR_rmL, tN_rmL, tZ_rmL, tC_rmL, tc_rmL, tz_rmL, tI_mk, tL_mk, tR_mk, tN_mk, tZ_mk, tC_mk, tc_mk, tz_mk, tI_pushL, tL_pushL, tR_pushL, tN_pushL, tZ_pushL, tC_pushL, tc_pushL, tz_pushL, tI_pushB, tL_pushB, tR_pushB, tN_pushB, tZ_pushB, tC_pushB, tc_pushB, tz_pushB, tI_cpL, tL_cpL, tR_cpL, tN_cpL, tZ_cpL, tC_cpL, tc_cpL, tz_cpL, eq_self, true_and, and_true, false_and, and_false, if_true, if_false, reduceIte, ite_true, ite_false, not_true_eq_false, not_false_eq_true, frN_95 hF, hn, g3]
theorem y214 {b : TS} {z : Hp} {s i : Nat} (x y : Int32) (hs : isO 2 17 s) (hi : i < tN b s) : Ex 214 [aR (some (s, i)), aI x, aI y] (enc 2 b z) = some (.inl none, enc 2 (sI (sI b s i 0 x) s i 1 y) z) := by
  refine (X_o hs (by decide +kernel) hi rfl).trans ((lf_214_0 ..).trans ?_)
  simp (config := {decide := true}) only [gfI_enc, gfL_enc, gfR_enc, pfI_enc, pfL_enc, pfR_enc, Option.bind_some, cI_v, cL_v, cF_v, cD_v, cR_v, cV_v, cI_x, cL_x, cR_x, cV_x, gz_0, gz_1, acc_enc, tI_sI, tL_sI, tR_sI, tN_sI, tZ_sI, tC_sI, tc_sI, tz_sI, tI_sL, tL_sL, tR_sL, tN_sL, tZ_sL, tC_sL, tc_sL, tz_sL, tI_sR, tL_sR, tR_sR, tN_sR, tZ_sR, tC_sR, tc_sR, tz_sR, tI_sZ, tL_sZ, tR_sZ, tN_sZ, tZ_sZ, tC_sZ, tc_sZ, tz_sZ, tI_sC, tL_sC, tR_sC, tN_sC, tZ_sC, tC_sC, tc_sC, tz_sC, tI_aC, tL_aC, tR_aC, tN_aC, tZ_aC, tC_aC, tc_aC, tz_aC, tI_rmL, tL_rmL, tR_rmL, tN_rmL, tZ_rmL, tC_rmL, tc_rmL, tz_rmL, tI_mk, tL_mk, tR_mk, tN_mk, tZ_mk, tC_mk, tc_mk, tz_mk, tI_pushL, tL_pushL, tR_pushL, tN_pushL, tZ_pushL, tC_pushL, tc_pushL, tz_pushL, tI_pushB, tL_pushB, tR_pushB, tN_pushB, tZ_pushB, tC_pushB, tc_pushB, tz_pushB, tI_cpL, tL_cpL, tR_cpL, tN_cpL, tZ_cpL, tC_cpL, tc_cpL, tz_cpL, eq_self, true_and, and_true, false_and, and_false, if_true, if_false, reduceIte, ite_true, ite_false, not_true_eq_false, not_false_eq_true, X420 hs.1 hi, pI_o hs, hi]
