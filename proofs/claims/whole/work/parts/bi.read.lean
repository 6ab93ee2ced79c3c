/-! ===== the class reads: rows, words, commands ===== -/
theorem ite_c {P Q : Prop} [Decidable P] [Decidable Q] (h : P ↔ Q) (x y : Int32) : (if P then x else y) = if Q then x else y := by
  by_cases p : P
  · rw [if_pos p, if_pos (h.mp p)]
  · rw [if_neg p, if_neg (fun q => p (h.mpr q))]
theorem o_sb {n k : Nat} (h : k ≤ n) : Int32.ofNat n - Int32.ofNat k = Int32.ofNat (n - k) := (Int32.ofNat_sub n k h).symm
def SnA (a : TS) (g : Nat → Nat) (L : Nat) : Prop := FxC a ∧ tZ a 13 0 = L ∧ L ≤ 600 ∧ ∀ k, k < L → tI a 13 0 k = Int32.ofNat (g k) ∧ 32 ≤ g k ∧ g k ≤ 126
theorem wd_le {j : Nat} (h : j < 17) (k : Nat) : (wd j).getD k 0 ≤ 122 := by
  have hm : ∀ x, x ∈ wd j → x ≤ 122 := by
    have : j = 0 ∨ j = 1 ∨ j = 2 ∨ j = 3 ∨ j = 4 ∨ j = 5 ∨ j = 6 ∨ j = 7 ∨ j = 8 ∨ j = 9 ∨ j = 10 ∨ j = 11 ∨ j = 12 ∨ j = 13 ∨ j = 14 ∨ j = 15 ∨ j = 16 := by omega
    rcases this with e | e | e | e | e | e | e | e | e | e | e | e | e | e | e | e | e <;> subst e <;> decide
  rw [List.getD_eq_getElem?_getD]
  cases e : (wd j)[k]? with
  | none => exact Nat.zero_le _
  | some x => exact hm x (List.mem_of_getElem? e)
theorem x59 {a : TS} {z : Hp} {g : Nat → Nat} {L lo hi : Nat} (h : SnA a g L) (hlo : lo < 200) (hhi : hi < 200) {i : Nat} (hi' : i ≤ L) : Ex 59 [aR (some (24, 0)), aI (Int32.ofNat i), aI (Int32.ofNat lo), aI (Int32.ofNat hi)] (enc 1 a z) = some (.inl (some (aI (Int32.ofNat (rE g L lo hi i)))), enc 1 a z) := by
  obtain ⟨hF, hL, hL6, hg⟩ := h
  have loop : ∀ k i, i + k = L → Ru 59 3 [(0, aR (some (24, 0))), (2, aI (Int32.ofNat lo)), (3, aI (Int32.ofNat hi)), (4, aI (Int32.ofNat i))] [] (enc 1 a z) = some (.inl (some (aI (Int32.ofNat (rE g L lo hi i)))), enc 1 a z) := by
    intro k
    induction k with
    | zero =>
      intro i hk
      have : i = L := by omega
      subst this
      have q : Int32.ofNat i ≤ Int32.ofNat i := Int32.le_refl _
      have r : rE g i lo hi i = i := rE_out (fun w => by omega)
      rw [lf_59_3]
      simp (config := {decide := true}) only [gfI_enc, gfL_enc, gfR_enc, pfI_enc, pfL_enc, pfR_enc, Option.bind_some, cI_v, cL_v, cF_v, cD_v, cR_v, cV_v, cI_x, cL_x, cR_x, cV_x, gz_0, gz_1, acc_enc, tI_sI, tL_sI, tR_sI, tN_sI, tZ_sI, tC_sI, tc_sI, tz_sI, tI_sL, tL_sL, tR_sL, tN_sL, tZ_sL, tC_sL, tc_sL, tz_sL, tI_sR, tL_sR, tR_sR, tN_sR, tZ_sR, tC_sR, tc_sR, tz_sR, tI_sZ, tL_sZ, tR_sZ, tN_sZ, tZ_sZ, tC_sZ, tc_sZ, tz_sZ, tI_sC, tL_sC, tR_sC, tN_sC, tZ_sC, tC_sC, tc_sC, tz_sC, tI_aC, tL_aC, tR_aC, tN_aC, tZ_aC, tC_aC, tc_aC, tz_aC, tI_rmL, tL_rmL, tR_rmL, tN_rmL, tZ_rmL, tC_rmL, tc_rmL, tz_rmL, tI_mk, tL_mk, tR_mk, tN_mk, tZ_mk, tC_mk, tc_mk, tz_mk, tI_pushL, tL_pushL, tR_pushL, tN_pushL, tZ_pushL, tC_pushL, tc_pushL, tz_pushL, tI_pushB, tL_pushB, tR_pushB, tN_pushB, tZ_pushB, tC_pushB, tc_pushB, tz_pushB, tI_cpL, tL_cpL, tR_cpL, tN_cpL, tZ_cpL, tC_cpL, tc_cpL, tz_cpL, eq_self, true_and, and_true, false_and, and_false, if_true, if_false, reduceIte, ite_true, ite_false, not_true_eq_false, not_false_eq_true, fcN_24 hF, fcR_24_0 hF, X412, fcN_13 hF, hL, q, r]
    | succ k ih =>
      intro i hk
      have hiL : i < L := by omega
      have q : ¬ Int32.ofNat L ≤ Int32.ofNat i := by rw [o_le (by omega) (by omega)]; omega
      have g1 : (Int32.ofNat i).toNatClampNeg = i := o_ix (by omega)
      have g2 : ¬ Int32.ofNat i < 0 := o_lt0 (by omega)
      obtain ⟨v, v1, v2⟩ := hg i hiL
      have hi2 := ih (i + 1) (by omega)
      rw [lf_59_3]
      by_cases e1 : Int32.ofNat (g i) < Int32.ofNat lo
      · have r : rE g L lo hi i = i := rE_out (fun w => by rw [o_lt (by omega) (by omega)] at e1; omega)
        simp (config := {decide := true}) only [gfI_enc, gfL_enc, gfR_enc, pfI_enc, pfL_enc, pfR_enc, Option.bind_some, cI_v, cL_v, cF_v, cD_v, cR_v, cV_v, cI_x, cL_x, cR_x, cV_x, gz_0, gz_1, acc_enc, tI_sI, tL_sI, tR_sI, tN_sI, tZ_sI, tC_sI, tc_sI, tz_sI, tI_sL, tL_sL, tR_sL, tN_sL, tZ_sL, tC_sL, tc_sL, tz_sL, tI_sR, tL_sR, tR_sR, tN_sR, tZ_sR, tC_sR, tc_sR, tz_sR, tI_sZ, tL_sZ, tR_sZ, tN_sZ, tZ_sZ, tC_sZ, tc_sZ, tz_sZ, tI_sC, tL_sC, tR_sC, tN_sC, tZ_sC, tC_sC, tc_sC, tz_sC, tI_aC, tL_aC, tR_aC, tN_aC, tZ_aC, tC_aC, tc_aC, tz_aC, tI_rmL, tL_rmL, tR_rmL, tN_rmL, tZ_rmL, tC_rmL, tc_rmL, tz_rmL, tI_mk, tL_mk, tR_mk, tN_mk, tZ_mk, tC_mk, tc_mk, tz_mk, tI_pushL, tL_pushL, tR_pushL, tN_pushL, tZ_pushL, tC_pushL, tc_pushL, tz_pushL, tI_pushB, tL_pushB, tR_pushB, tN_pushB, tZ_pushB, tC_pushB, tc_pushB, tz_pushB, tI_cpL, tL_cpL, tR_cpL, tN_cpL, tZ_cpL, tC_cpL, tc_cpL, tz_cpL, eq_self, true_and, and_true, false_and, and_false, if_true, if_false, reduceIte, ite_true, ite_false, not_true_eq_false, not_false_eq_true, fcN_24 hF, fcR_24_0 hF, X412, X413, fcN_13 hF, hL, q, g1, g2, hiL, v, e1, r]
      · by_cases e2 : Int32.ofNat (g i) ≤ Int32.ofNat hi
        · have r : rE g L lo hi i = rE g L lo hi (i + 1) := rE_in ⟨hiL, by rw [o_lt (by omega) (by omega)] at e1; omega, (o_le (by omega) (by omega)).mp e2⟩
          rw [r]
          simp (config := {decide := true}) only [gfI_enc, gfL_enc, gfR_enc, pfI_enc, pfL_enc, pfR_enc, Option.bind_some, cI_v, cL_v, cF_v, cD_v, cR_v, cV_v, cI_x, cL_x, cR_x, cV_x, gz_0, gz_1, acc_enc, tI_sI, tL_sI, tR_sI, tN_sI, tZ_sI, tC_sI, tc_sI, tz_sI, tI_sL, tL_sL, tR_sL, tN_sL, tZ_sL, tC_sL, tc_sL, tz_sL, tI_sR, tL_sR, tR_sR, tN_sR, tZ_sR, tC_sR, tc_sR, tz_sR, tI_sZ, tL_sZ, tR_sZ, tN_sZ, tZ_sZ, tC_sZ, tc_sZ, tz_sZ, tI_sC, tL_sC, tR_sC, tN_sC, tZ_sC, tC_sC, tc_sC, tz_sC, tI_aC, tL_aC, tR_aC, tN_aC, tZ_aC, tC_aC, tc_aC, tz_aC, tI_rmL, tL_rmL, tR_rmL, tN_rmL, tZ_rmL, tC_rmL, tc_rmL, tz_rmL, tI_mk, tL_mk, tR_mk, tN_mk, tZ_mk, tC_mk, tc_mk, tz_mk, tI_pushL, tL_pushL, tR_pushL, tN_pushL, tZ_pushL, tC_pushL, tc_pushL, tz_pushL, tI_pushB, tL_pushB, tR_pushB, tN_pushB, tZ_pushB, tC_pushB, tc_pushB, tz_pushB, tI_cpL, tL_cpL, tR_cpL, tN_cpL, tZ_cpL, tC_cpL, tc_cpL, tz_cpL, eq_self, true_and, and_true, false_and, and_false, if_true, if_false, reduceIte, ite_true, ite_false, not_true_eq_false, not_false_eq_true, fcN_24 hF, fcR_24_0 hF, X412, X413, fcN_13 hF, hL, q, g1, g2, hiL, v, e1, e2, o_s]
          exact hi2
        · have r : rE g L lo hi i = i := rE_out (fun w => e2 ((o_le (by omega) (by omega)).mpr w.2.2))
          simp (config := {decide := true}) only [gfI_enc, gfL_enc, gfR_enc, pfI_enc, pfL_enc, pfR_enc, Option.bind_some, cI_v, cL_v, cF_v, cD_v, cR_v, cV_v, cI_x, cL_x, cR_x, cV_x, gz_0, gz_1, acc_enc, tI_sI, tL_sI, tR_sI, tN_sI, tZ_sI, tC_sI, tc_sI, tz_sI, tI_sL, tL_sL, tR_sL, tN_sL, tZ_sL, tC_sL, tc_sL, tz_sL, tI_sR, tL_sR, tR_sR, tN_sR, tZ_sR, tC_sR, tc_sR, tz_sR, tI_sZ, tL_sZ, tR_sZ, tN_sZ, tZ_sZ, tC_sZ, tc_sZ, tz_sZ, tI_sC, tL_sC, tR_sC, tN_sC, tZ_sC, tC_sC, tc_sC, tz_sC, tI_aC, tL_aC, tR_aC, tN_aC, tZ_aC, tC_aC, tc_aC, tz_aC, tI_rmL, tL_rmL, tR_rmL, tN_rmL, tZ_rmL, tC_rmL, tc_rmL, tz_rmL, tI_mk, tL_mk, tR_mk, tN_mk, tZ_mk, tC_mk, tc_mk, tz_mk, tI_pushL, tL_pushL, tR_pushL, tN_pushL, tZ_pushL, tC_pushL, tc_pushL, tz_pushL, tI_pushB, tL_pushB, tR_pushB, tN_pushB, tZ_pushB, tC_pushB, tc_pushB, tz_pushB, tI_cpL, tL_cpL, tR_cpL, tN_cpL, tZ_cpL, tC_cpL, tc_cpL, tz_cpL, eq_self, true_and, and_true, false_and, and_false, if_true, if_false, reduceIte, ite_true, ite_false, not_true_eq_false, not_false_eq_true, fcN_24 hF, fcR_24_0 hF, X412, X413, fcN_13 hF, hL, q, g1, g2, hiL, v, e1, e2, r]
  refine (X_in (by decide +kernel) (fcN_24 hF) rfl).trans ((lf_59_0 ..).trans ?_)
  exact loop (L - i) i (by omega)
theorem x58 {a : TS} {z : Hp} {g : Nat → Nat} {L : Nat} (h : SnA a g L) {i : Nat} (hi' : i ≤ L) : Ex 58 [aR (some (24, 0)), aI (Int32.ofNat i)] (enc 1 a z) = some (.inl (some (aI (Int32.ofNat (tk g L i)))), enc 1 a z) := by
  have f59 : ∀ z, Ex 59 [aR (some (24, 0)), aI (Int32.ofNat i), aI 32, aI 32] (enc 1 a z) = some (.inl (some (aI (Int32.ofNat (tk g L i)))), enc 1 a z) := fun z => x59 (lo := 32) (hi := 32) h (by decide) (by decide) hi'
  refine (X_in (by decide +kernel) (fcN_24 h.1) rfl).trans ((lf_58_0 ..).trans ?_)
  simp (config := {decide := true}) only [gfI_enc, gfL_enc, gfR_enc, pfI_enc, pfL_enc, pfR_enc, Option.bind_some, cI_v, cL_v, cF_v, cD_v, cR_v, cV_v, cI_x, cL_x, cR_x, cV_x, gz_0, gz_1, acc_enc, tI_sI, tL_sI, tR_sI, tN_sI, tZ_sI, tC_sI, tc_sI, tz_sI, tI_sL, tL_sL, tR_sL, tN_sL, tZ_sL, tC_sL, tc_sL, tz_sL, tI_sR, tL_sR, tR_sR, tN_sR, tZ_sR, tC_sR, tc_sR, tz_sR, tI_sZ, tL_sZ, tR_sZ, tN_sZ, tZ_sZ, tC_sZ, tc_sZ, tz_sZ, tI_sC, tL_sC, tR_sC, tN_sC, tZ_sC, tC_sC, tc_sC, tz_sC, tI_aC, tL_aC, tR_aC, tN_aC, tZ_aC, tC_aC, tc_aC, tz_aC, tI_rmL, tL_rmL, tR_rmL, tN_rmL, tZ_rmL, tC_rmL, tc_rmL, tz_rmL, tI_mk, tL_mk, tR_mk, tN_mk, tZ_mk, tC_mk, tc_mk, tz_mk, tI_pushL, tL_pushL, tR_pushL, tN_pushL, tZ_pushL, tC_pushL, tc_pushL, tz_pushL, tI_pushB, tL_pushB, tR_pushB, tN_pushB, tZ_pushB, tC_pushB, tc_pushB, tz_pushB, tI_cpL, tL_cpL, tR_cpL, tN_cpL, tZ_cpL, tC_cpL, tc_cpL, tz_cpL, eq_self, true_and, and_true, false_and, and_false, if_true, if_false, reduceIte, ite_true, ite_false, not_true_eq_false, not_false_eq_true, f59]
theorem x60 {a : TS} {z : Hp} {g : Nat → Nat} {L s e j : Nat} (h : SnA a g L) (hz : Zk z) (hj : j < 17) (hse : s ≤ e) (he : e ≤ L) : Ex 60 [aR (some (24, 0)), aI (Int32.ofNat s), aI (Int32.ofNat e), aR (some (0, 10 + j))] (enc 1 a z) = some (.inl (some (aI (if wm g s e (wd j) then 1 else 0))), enc 1 a z) := by
  obtain ⟨hF, hL, hL6, hg⟩ := h
  have f415 := X415 (w := 1) (m := a) (z := z) (by decide) hz hj
  have wl : (wd j).length ≤ 7 := by
    have : j = 0 ∨ j = 1 ∨ j = 2 ∨ j = 3 ∨ j = 4 ∨ j = 5 ∨ j = 6 ∨ j = 7 ∨ j = 8 ∨ j = 9 ∨ j = 10 ∨ j = 11 ∨ j = 12 ∨ j = 13 ∨ j = 14 ∨ j = 15 ∨ j = 16 := by omega
    rcases this with e | e | e | e | e | e | e | e | e | e | e | e | e | e | e | e | e <;> subst e <;> decide
  have loop : e - s = (wd j).length → ∀ n k, k + n = (wd j).length → Ru 60 15 [(0, aR (some (24, 0))), (1, aI (Int32.ofNat s)), (2, aI (Int32.ofNat e)), (3, aR (some (0, 10 + j))), (4, aI (Int32.ofNat (s + k)))] [] (enc 1 a z) = some (.inl (some (aI (if weq g s (wd j) k then 1 else 0))), enc 1 a z) := by
    intro hlen n
    induction n with
    | zero =>
      intro k hk
      have q : Int32.ofNat e ≤ Int32.ofNat (s + k) := by rw [o_le (by omega) (by omega)]; omega
      rw [lf_60_15, if_pos q, if_pos (weq_end g s (wd j) (by omega))]
    | succ n ih =>
      intro k hk
      have hkl : k < (wd j).length := by omega
      have q : ¬ Int32.ofNat e ≤ Int32.ofNat (s + k) := by rw [o_le (by omega) (by omega)]; omega
      have g1 : (Int32.ofNat (s + k)).toNatClampNeg = s + k := o_ix (by omega)
      have g2 : ¬ Int32.ofNat (s + k) < 0 := o_lt0 (by omega)
      have g3 : s + k < L := by omega
      obtain ⟨v, v1, v2⟩ := hg (s + k) g3
      have hd : Int32.ofNat (s + k) - Int32.ofNat s = Int32.ofNat k := by rw [o_sb (by omega), Nat.add_sub_cancel_left]
      have f416 := X416 (w := 1) (m := a) (z := z) (x := Int32.ofNat k) (by decide) hz hj (o_lt0 (by omega)) (by rw [o_ix (by omega)]; exact hkl)
      rw [o_ix (by omega)] at f416
      have w2 := wd_le hj k
      have hi2 := ih (k + 1) (by omega)
      have as : s + (k + 1) = s + k + 1 := rfl
      rw [as] at hi2
      rw [lf_60_15]
      by_cases e1 : g (s + k) = (wd j).getD k 0
      · rw [ite_c (weq_s e1)]
        simp (config := {decide := true}) only [gfI_enc, gfL_enc, gfR_enc, pfI_enc, pfL_enc, pfR_enc, Option.bind_some, cI_v, cL_v, cF_v, cD_v, cR_v, cV_v, cI_x, cL_x, cR_x, cV_x, gz_0, gz_1, acc_enc, tI_sI, tL_sI, tR_sI, tN_sI, tZ_sI, tC_sI, tc_sI, tz_sI, tI_sL, tL_sL, tR_sL, tN_sL, tZ_sL, tC_sL, tc_sL, tz_sL, tI_sR, tL_sR, tR_sR, tN_sR, tZ_sR, tC_sR, tc_sR, tz_sR, tI_sZ, tL_sZ, tR_sZ, tN_sZ, tZ_sZ, tC_sZ, tc_sZ, tz_sZ, tI_sC, tL_sC, tR_sC, tN_sC, tZ_sC, tC_sC, tc_sC, tz_sC, tI_aC, tL_aC, tR_aC, tN_aC, tZ_aC, tC_aC, tc_aC, tz_aC, tI_rmL, tL_rmL, tR_rmL, tN_rmL, tZ_rmL, tC_rmL, tc_rmL, tz_rmL, tI_mk, tL_mk, tR_mk, tN_mk, tZ_mk, tC_mk, tc_mk, tz_mk, tI_pushL, tL_pushL, tR_pushL, tN_pushL, tZ_pushL, tC_pushL, tc_pushL, tz_pushL, tI_pushB, tL_pushB, tR_pushB, tN_pushB, tZ_pushB, tC_pushB, tc_pushB, tz_pushB, tI_cpL, tL_cpL, tR_cpL, tN_cpL, tZ_cpL, tC_cpL, tc_cpL, tz_cpL, eq_self, true_and, and_true, false_and, and_false, if_true, if_false, reduceIte, ite_true, ite_false, not_true_eq_false, not_false_eq_true, q, fcN_24 hF, fcR_24_0 hF, X413, fcN_13 hF, hL, g1, g2, g3, v, hd, f416, e1, o_s]
        exact hi2
      · have e2 : ¬ Int32.ofNat (g (s + k)) = Int32.ofNat ((wd j).getD k 0) := fun w => e1 (o_inj (by omega) (by omega) w)
        rw [if_neg (weq_n hkl e1)]
        simp (config := {decide := true}) only [gfI_enc, gfL_enc, gfR_enc, pfI_enc, pfL_enc, pfR_enc, Option.bind_some, cI_v, cL_v, cF_v, cD_v, cR_v, cV_v, cI_x, cL_x, cR_x, cV_x, gz_0, gz_1, acc_enc, tI_sI, tL_sI, tR_sI, tN_sI, tZ_sI, tC_sI, tc_sI, tz_sI, tI_sL, tL_sL, tR_sL, tN_sL, tZ_sL, tC_sL, tc_sL, tz_sL, tI_sR, tL_sR, tR_sR, tN_sR, tZ_sR, tC_sR, tc_sR, tz_sR, tI_sZ, tL_sZ, tR_sZ, tN_sZ, tZ_sZ, tC_sZ, tc_sZ, tz_sZ, tI_sC, tL_sC, tR_sC, tN_sC, tZ_sC, tC_sC, tc_sC, tz_sC, tI_aC, tL_aC, tR_aC, tN_aC, tZ_aC, tC_aC, tc_aC, tz_aC, tI_rmL, tL_rmL, tR_rmL, tN_rmL, tZ_rmL, tC_rmL, tc_rmL, tz_rmL, tI_mk, tL_mk, tR_mk, tN_mk, tZ_mk, tC_mk, tc_mk, tz_mk, tI_pushL, tL_pushL, tR_pushL, tN_pushL, tZ_pushL, tC_pushL, tc_pushL, tz_pushL, tI_pushB, tL_pushB, tR_pushB, tN_pushB, tZ_pushB, tC_pushB, tc_pushB, tz_pushB, tI_cpL, tL_cpL, tR_cpL, tN_cpL, tZ_cpL, tC_cpL, tc_cpL, tz_cpL, eq_self, true_and, and_true, false_and, and_false, if_true, if_false, reduceIte, ite_true, ite_false, not_true_eq_false, not_false_eq_true, q, fcN_24 hF, fcR_24_0 hF, X413, fcN_13 hF, hL, g1, g2, g3, v, hd, f416, e2]
  refine (X_in (by decide +kernel) (fcN_24 hF) rfl).trans ((lf_60_0 ..).trans ?_)
  have hd : Int32.ofNat e - Int32.ofNat s = Int32.ofNat (e - s) := o_sb hse
  by_cases e1 : e - s = (wd j).length
  · have l0 := loop e1 (wd j).length 0 (by omega)
    rw [Nat.add_zero] at l0
    have : (wm g s e (wd j)) ↔ weq g s (wd j) 0 := ⟨fun q => q.2, fun q => ⟨e1, q⟩⟩
    rw [ite_c this]
    simp (config := {decide := true}) only [gfI_enc, gfL_enc, gfR_enc, pfI_enc, pfL_enc, pfR_enc, Option.bind_some, cI_v, cL_v, cF_v, cD_v, cR_v, cV_v, cI_x, cL_x, cR_x, cV_x, gz_0, gz_1, acc_enc, tI_sI, tL_sI, tR_sI, tN_sI, tZ_sI, tC_sI, tc_sI, tz_sI, tI_sL, tL_sL, tR_sL, tN_sL, tZ_sL, tC_sL, tc_sL, tz_sL, tI_sR, tL_sR, tR_sR, tN_sR, tZ_sR, tC_sR, tc_sR, tz_sR, tI_sZ, tL_sZ, tR_sZ, tN_sZ, tZ_sZ, tC_sZ, tc_sZ, tz_sZ, tI_sC, tL_sC, tR_sC, tN_sC, tZ_sC, tC_sC, tc_sC, tz_sC, tI_aC, tL_aC, tR_aC, tN_aC, tZ_aC, tC_aC, tc_aC, tz_aC, tI_rmL, tL_rmL, tR_rmL, tN_rmL, tZ_rmL, tC_rmL, tc_rmL, tz_rmL, tI_mk, tL_mk, tR_mk, tN_mk, tZ_mk, tC_mk, tc_mk, tz_mk, tI_pushL, tL_pushL, tR_pushL, tN_pushL, tZ_pushL, tC_pushL, tc_pushL, tz_pushL, tI_pushB, tL_pushB, tR_pushB, tN_pushB, tZ_pushB, tC_pushB, tc_pushB, tz_pushB, tI_cpL, tL_cpL, tR_cpL, tN_cpL, tZ_cpL, tC_cpL, tc_cpL, tz_cpL, eq_self, true_and, and_true, false_and, and_false, if_true, if_false, reduceIte, ite_true, ite_false, not_true_eq_false, not_false_eq_true, f415, hd, e1]
    exact l0
  · have e2 : ¬ Int32.ofNat (e - s) = Int32.ofNat (wd j).length := fun w => e1 (o_inj (by omega) (by omega) w)
    rw [if_neg (fun q => e1 q.1)]
    simp (config := {decide := true}) only [gfI_enc, gfL_enc, gfR_enc, pfI_enc, pfL_enc, pfR_enc, Option.bind_some, cI_v, cL_v, cF_v, cD_v, cR_v, cV_v, cI_x, cL_x, cR_x, cV_x, gz_0, gz_1, acc_enc, tI_sI, tL_sI, tR_sI, tN_sI, tZ_sI, tC_sI, tc_sI, tz_sI, tI_sL, tL_sL, tR_sL, tN_sL, tZ_sL, tC_sL, tc_sL, tz_sL, tI_sR, tL_sR, tR_sR, tN_sR, tZ_sR, tC_sR, tc_sR, tz_sR, tI_sZ, tL_sZ, tR_sZ, tN_sZ, tZ_sZ, tC_sZ, tc_sZ, tz_sZ, tI_sC, tL_sC, tR_sC, tN_sC, tZ_sC, tC_sC, tc_sC, tz_sC, tI_aC, tL_aC, tR_aC, tN_aC, tZ_aC, tC_aC, tc_aC, tz_aC, tI_rmL, tL_rmL, tR_rmL, tN_rmL, tZ_rmL, tC_rmL, tc_rmL, tz_rmL, tI_mk, tL_mk, tR_mk, tN_mk, tZ_mk, tC_mk, tc_mk, tz_mk, tI_pushL, tL_pushL, tR_pushL, tN_pushL, tZ_pushL, tC_pushL, tc_pushL, tz_pushL, tI_pushB, tL_pushB, tR_pushB, tN_pushB, tZ_pushB, tC_pushB, tc_pushB, tz_pushB, tI_cpL, tL_cpL, tR_cpL, tN_cpL, tZ_cpL, tC_cpL, tc_cpL, tz_cpL, eq_self, true_and, and_true, false_and, and_false, if_true, if_false, reduceIte, ite_true, ite_false, not_true_eq_false, not_false_eq_true, f415, hd, e2]
theorem x62 {i : Nat} (hi : i < 16) (h : Hp) : Ex 62 [aI (Int32.ofNat i)] h = some (.inl (some (aR (some (0, 10 + (i + 1))))), h) := by
  refine (X_st (by decide +kernel) rfl).trans ((lf_62_0 ..).trans ?_)
  have : i = 0 ∨ i = 1 ∨ i = 2 ∨ i = 3 ∨ i = 4 ∨ i = 5 ∨ i = 6 ∨ i = 7 ∨ i = 8 ∨ i = 9 ∨ i = 10 ∨ i = 11 ∨ i = 12 ∨ i = 13 ∨ i = 14 ∨ i = 15 := by omega
  rcases this with e | e | e | e | e | e | e | e | e | e | e | e | e | e | e | e <;> subst e <;> rfl
theorem x61 {a : TS} {z : Hp} {g : Nat → Nat} {L s e : Nat} (h : SnA a g L) (hz : Zk z) (hse : s ≤ e) (he : e ≤ L) : Ex 61 [aR (some (24, 0)), aI (Int32.ofNat s), aI (Int32.ofNat e)] (enc 1 a z) = some (.inl (some (aI (match fnd g s e 16 0 with | some c => Int32.ofNat c | none => -1))), enc 1 a z) := by
  have hl := nN_len (w := 1) (m := a) (z := z) (by decide) hz
  have loop : ∀ k i, i + k = 16 → Ru 61 2 [(0, aR (some (24, 0))), (1, aI (Int32.ofNat s)), (2, aI (Int32.ofNat e)), (3, aI (Int32.ofNat i))] [] (enc 1 a z) = some (.inl (some (aI (match fnd g s e k i with | some c => Int32.ofNat c | none => -1))), enc 1 a z) := by
    intro k
    induction k with
    | zero =>
      intro i hk
      have : i = 16 := by omega
      subst this
      have q : (16 : Int32) ≤ Int32.ofNat 16 := by decide
      rw [lf_61_2, hl, Option.bind_some, if_pos q]
      rfl
    | succ k ih =>
      intro i hk
      have q : ¬ (16 : Int32) ≤ Int32.ofNat i := by
        rw [show (16 : Int32) = Int32.ofNat 16 from rfl, o_le (by omega) (by omega)]
        omega
      have f62 := fun h => x62 (i := i) (by omega) h
      have f60 := x60 (j := i + 1) h hz (by omega) hse he
      have hi2 := ih (i + 1) (by omega)
      have n10 : ¬ (1 : Int32) = 0 := by decide
      rw [lf_61_2, hl, Option.bind_some, if_neg q, f62, cR_v, f60, cI_v, fnd_s]
      by_cases w : wm g s e (wd (i + 1))
      · simp only [if_pos w, if_neg n10]
      · simp only [if_neg w, if_pos, o_s]
        exact hi2
  refine (X_in (by decide +kernel) (fcN_24 h.1) rfl).trans ((lf_61_0 ..).trans ?_)
  exact loop 16 0 (by omega)
