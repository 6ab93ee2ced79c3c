/-! ===== a RECORD: is its counter posted, was it granted ===== -/
def srcP (b : TS) (cd c : Int32) : Nat → Nat → Int32
  | _, 0 => 0
  | k, d + 1 => if hI b k 8 = 0 then srcP b cd c (k + 1) d else if hA b k 64 0 = cd then (if hA b k 64 1 = c then 1 else srcP b cd c (k + 1) d) else srcP b cd c (k + 1) d
theorem srcP_spec (b : TS) (cd c : Int32) : ∀ d k, (srcP b cd c k d = 0 ∧ ∀ j, k ≤ j → j < k + d → ¬ (hI b j 8 ≠ 0 ∧ hA b j 64 0 = cd ∧ hA b j 64 1 = c)) ∨ (srcP b cd c k d = 1 ∧ ∃ j, k ≤ j ∧ j < k + d ∧ hI b j 8 ≠ 0 ∧ hA b j 64 0 = cd ∧ hA b j 64 1 = c) := by
  intro d
  induction d with
  | zero => exact fun k => Or.inl ⟨rfl, fun j h1 h2 => by omega⟩
  | succ d ih =>
    intro k
    have go : ¬ (hI b k 8 ≠ 0 ∧ hA b k 64 0 = cd ∧ hA b k 64 1 = c) → srcP b cd c k (d + 1) = srcP b cd c (k + 1) d → ((srcP b cd c k (d + 1) = 0 ∧ ∀ j, k ≤ j → j < k + (d + 1) → ¬ (hI b j 8 ≠ 0 ∧ hA b j 64 0 = cd ∧ hA b j 64 1 = c)) ∨ (srcP b cd c k (d + 1) = 1 ∧ ∃ j, k ≤ j ∧ j < k + (d + 1) ∧ hI b j 8 ≠ 0 ∧ hA b j 64 0 = cd ∧ hA b j 64 1 = c)) := fun hk e => by
      have := ih (k + 1)
      rw [← e] at this
      rcases this with ⟨a1, a2⟩ | ⟨a1, j, j1, j2, j3⟩
      · refine Or.inl ⟨a1, fun j h3 h4 h5 => ?_⟩
        by_cases q : j = k
        · rw [q] at h5; exact hk h5
        · exact a2 j (by omega) (by omega) h5
      · exact Or.inr ⟨a1, j, by omega, by omega, j3⟩
    by_cases h0 : hI b k 8 = 0
    · exact go (fun q => q.1 h0) (by show (if _ then _ else _) = _; rw [if_pos h0])
    · by_cases h1 : hA b k 64 0 = cd
      · by_cases h2 : hA b k 64 1 = c
        · exact Or.inr ⟨by show (if _ then _ else _) = _; rw [if_neg h0, if_pos h1, if_pos h2], k, Nat.le_refl _, by omega, h0, h1, h2⟩
        · exact go (fun q => h2 q.2.2) (by show (if _ then _ else _) = _; rw [if_neg h0, if_pos h1, if_neg h2])
      · exact go (fun q => h1 q.2.1) (by show (if _ then _ else _) = _; rw [if_neg h0, if_neg h1])
theorem y172 {b : TS} {z : Hp} (cd c : Int32) (hF : FxR b) (hK : KsB b) : Ex 172 [aR (some (94, 0)), aI cd, aI c] (enc 2 b z) = some (.inl (some (aI (srcP b cd c 0 1000))), enc 2 b z) := by
  have key : ∀ d k, k + d = 1000 → Ru 172 2 [(0, aR (some (94, 0))), (1, aI cd), (2, aI c), (3, aI (Int32.ofNat k))] [] (enc 2 b z) = some (.inl (some (aI (srcP b cd c k d))), enc 2 b z) := by
    intro d
    induction d with
    | zero =>
      intro k hk
      have g : (1000 : Int32) ≤ Int32.ofNat k := (o_le (n := 1000) (by omega) (by omega)).mpr (by omega)
      rw [lf_172_2, if_pos g]
      rfl
    | succ d ih =>
      intro k hk
      have g : ¬ (1000 : Int32) ≤ Int32.ofNat k := fun q => by have := (o_le (n := 1000) (by omega) (by omega)).mp q; omega
      have g1 : ¬ Int32.ofNat k < 0 := o_lt0 (by omega)
      have g2 : (Int32.ofNat k).toNatClampNeg = k := o_ix (by omega)
      have g4 : k < 1000 := by omega
      have i2 := ih (k + 1) (by omega)
      have i0 : (0 : Int32).toNatClampNeg = 0 := rfl
      have i0' : ¬ (0 : Int32) < 0 := by decide
      have i1 : (1 : Int32).toNatClampNeg = 1 := rfl
      have i1' : ¬ (1 : Int32) < 0 := by decide
      obtain ⟨K1, K2, K3, K4, -⟩ := hK
      rw [lf_172_2, if_neg g]
      unfold srcP
      rcases K1 k g4 with e | ⟨j, j1, j2⟩
      · have e8 : hI b k 8 = 0 := by unfold hI; rw [e]; rfl
        simp (config := {decide := true}) only [gfI_enc, gfL_enc, gfR_enc, pfI_enc, pfL_enc, pfR_enc, Option.bind_some, cI_v, cL_v, cF_v, cD_v, cR_v, cV_v, cI_x, cL_x, cR_x, cV_x, gz_0, gz_1, acc_enc, tI_sI, tL_sI, tR_sI, tN_sI, tZ_sI, tC_sI, tc_sI, tz_sI, tI_sL, tL_sL, tR_sL, tN_sL, tZ_sL, tC_sL, tc_sL, tz_sL, tI_sR, tL_sR, tR_sR, tN_sR, tZ_sR, tC_sR, tc_sR, tz_sR, tI_sZ, tL_sZ, tR_sZ, tN_sZ, tZ_sZ, tC_sZ, tc_sZ, tz_sZ, tI_sC, tL_sC, tR_sC, tN_sC, tZ_sC, tC_sC, tc_sC, tz_sC, tI_aC, tL_aC, tR_aC, tN_aC, tZ_aC, tC_aC, tc_aC, tz_aC, tI_rmL, tL_rmL, tR_rmL, tN_rmL, tZ_rmL, tC_rmL, tc_rmL, tz_rmL, tI_mk, tL_mk, tR_mk, tN_mk, tZ_mk, tC_mk, tc_mk, tz_mk, tI_pushL, tL_pushL, tR_pushL, tN_pushL, tZ_pushL, tC_pushL, tc_pushL, tz_pushL, tI_pushB, tL_pushB, tR_pushB, tN_pushB, tZ_pushB, tC_pushB, tc_pushB, tz_pushB, tI_cpL, tL_cpL, tR_cpL, tN_cpL, tZ_cpL, tC_cpL, tc_cpL, tz_cpL, eq_self, true_and, and_true, false_and, and_false, if_true, if_false, reduceIte, ite_true, ite_false, not_true_eq_false, not_false_eq_true, frN_94 hF, frN_53 hF, frR_94_2 hF, frZ_53 hF, gaR_enc, g1, g2, g4, e, e8, o_s, i2]
      · obtain ⟨B5, B6, B7, B8, B9, B10⟩ := K4 j j1
        have n64 : j < tN b 64 := by rw [K3.2.2]; exact j1
        rw [hI_at j2, hA_at j2, hA_at j2]
        by_cases h0 : tI b 61 j 8 = 0
        · simp (config := {decide := true}) only [gfI_enc, gfL_enc, gfR_enc, pfI_enc, pfL_enc, pfR_enc, Option.bind_some, cI_v, cL_v, cF_v, cD_v, cR_v, cV_v, cI_x, cL_x, cR_x, cV_x, gz_0, gz_1, acc_enc, tI_sI, tL_sI, tR_sI, tN_sI, tZ_sI, tC_sI, tc_sI, tz_sI, tI_sL, tL_sL, tR_sL, tN_sL, tZ_sL, tC_sL, tc_sL, tz_sL, tI_sR, tL_sR, tR_sR, tN_sR, tZ_sR, tC_sR, tc_sR, tz_sR, tI_sZ, tL_sZ, tR_sZ, tN_sZ, tZ_sZ, tC_sZ, tc_sZ, tz_sZ, tI_sC, tL_sC, tR_sC, tN_sC, tZ_sC, tC_sC, tc_sC, tz_sC, tI_aC, tL_aC, tR_aC, tN_aC, tZ_aC, tC_aC, tc_aC, tz_aC, tI_rmL, tL_rmL, tR_rmL, tN_rmL, tZ_rmL, tC_rmL, tc_rmL, tz_rmL, tI_mk, tL_mk, tR_mk, tN_mk, tZ_mk, tC_mk, tc_mk, tz_mk, tI_pushL, tL_pushL, tR_pushL, tN_pushL, tZ_pushL, tC_pushL, tc_pushL, tz_pushL, tI_pushB, tL_pushB, tR_pushB, tN_pushB, tZ_pushB, tC_pushB, tc_pushB, tz_pushB, tI_cpL, tL_cpL, tR_cpL, tN_cpL, tZ_cpL, tC_cpL, tc_cpL, tz_cpL, eq_self, true_and, and_true, false_and, and_false, if_true, if_false, reduceIte, ite_true, ite_false, not_true_eq_false, not_false_eq_true, frN_94 hF, frN_53 hF, frR_94_2 hF, frZ_53 hF, gaR_enc, g1, g2, g4, j2, j1, h0, o_s, i2, reduceCtorEq]
        · by_cases h1 : tI b 64 j 0 = cd
          · by_cases h2 : tI b 64 j 1 = c <;> simp (config := {decide := true}) only [gfI_enc, gfL_enc, gfR_enc, pfI_enc, pfL_enc, pfR_enc, Option.bind_some, cI_v, cL_v, cF_v, cD_v, cR_v, cV_v, cI_x, cL_x, cR_x, cV_x, gz_0, gz_1, acc_enc, tI_sI, tL_sI, tR_sI, tN_sI, tZ_sI, tC_sI, tc_sI, tz_sI, tI_sL, tL_sL, tR_sL, tN_sL, tZ_sL, tC_sL, tc_sL, tz_sL, tI_sR, tL_sR, tR_sR, tN_sR, tZ_sR, tC_sR, tc_sR, tz_sR, tI_sZ, tL_sZ, tR_sZ, tN_sZ, tZ_sZ, tC_sZ, tc_sZ, tz_sZ, tI_sC, tL_sC, tR_sC, tN_sC, tZ_sC, tC_sC, tc_sC, tz_sC, tI_aC, tL_aC, tR_aC, tN_aC, tZ_aC, tC_aC, tc_aC, tz_aC, tI_rmL, tL_rmL, tR_rmL, tN_rmL, tZ_rmL, tC_rmL, tc_rmL, tz_rmL, tI_mk, tL_mk, tR_mk, tN_mk, tZ_mk, tC_mk, tc_mk, tz_mk, tI_pushL, tL_pushL, tR_pushL, tN_pushL, tZ_pushL, tC_pushL, tc_pushL, tz_pushL, tI_pushB, tL_pushB, tR_pushB, tN_pushB, tZ_pushB, tC_pushB, tc_pushB, tz_pushB, tI_cpL, tL_cpL, tR_cpL, tN_cpL, tZ_cpL, tC_cpL, tc_cpL, tz_cpL, eq_self, true_and, and_true, false_and, and_false, if_true, if_false, reduceIte, ite_true, ite_false, not_true_eq_false, not_false_eq_true, frN_94 hF, frN_53 hF, frR_94_2 hF, frZ_53 hF, gaR_enc, gaI_enc, g1, g2, g4, j2, j1, h0, h1, h2, B7, B10, n64, i0, i0', i1, i1', o_s, i2, reduceCtorEq]
          · simp (config := {decide := true}) only [gfI_enc, gfL_enc, gfR_enc, pfI_enc, pfL_enc, pfR_enc, Option.bind_some, cI_v, cL_v, cF_v, cD_v, cR_v, cV_v, cI_x, cL_x, cR_x, cV_x, gz_0, gz_1, acc_enc, tI_sI, tL_sI, tR_sI, tN_sI, tZ_sI, tC_sI, tc_sI, tz_sI, tI_sL, tL_sL, tR_sL, tN_sL, tZ_sL, tC_sL, tc_sL, tz_sL, tI_sR, tL_sR, tR_sR, tN_sR, tZ_sR, tC_sR, tc_sR, tz_sR, tI_sZ, tL_sZ, tR_sZ, tN_sZ, tZ_sZ, tC_sZ, tc_sZ, tz_sZ, tI_sC, tL_sC, tR_sC, tN_sC, tZ_sC, tC_sC, tc_sC, tz_sC, tI_aC, tL_aC, tR_aC, tN_aC, tZ_aC, tC_aC, tc_aC, tz_aC, tI_rmL, tL_rmL, tR_rmL, tN_rmL, tZ_rmL, tC_rmL, tc_rmL, tz_rmL, tI_mk, tL_mk, tR_mk, tN_mk, tZ_mk, tC_mk, tc_mk, tz_mk, tI_pushL, tL_pushL, tR_pushL, tN_pushL, tZ_pushL, tC_pushL, tc_pushL, tz_pushL, tI_pushB, tL_pushB, tR_pushB, tN_pushB, tZ_pushB, tC_pushB, tc_pushB, tz_pushB, tI_cpL, tL_cpL, tR_cpL, tN_cpL, tZ_cpL, tC_cpL, tc_cpL, tz_cpL, eq_self, true_and, and_true, false_and, and_false, if_true, if_false, reduceIte, ite_true, ite_false, not_true_eq_false, not_false_eq_true, frN_94 hF, frN_53 hF, frR_94_2 hF, frZ_53 hF, gaR_enc, gaI_enc, g1, g2, g4, j2, j1, h0, h1, B7, B10, n64, i0, i0', i1, i1', o_s, i2, reduceCtorEq]
  exact (X_in (by decide +kernel) (frN_94 hF) rfl).trans ((lf_172_0 ..).trans (key 1000 0 (by omega)))
theorem srcP_RO {a b : TS} {cd c : Nat} (hO : RO a b) (h8 : tZ a 28 0 ≤ 8) (hcd : cd < tZ a 28 0) (hc : c < 201) : srcP b (Int32.ofNat cd) (Int32.ofNat c) 0 1000 = if tI a 2 cd c = 0 then 0 else 1 := by
  obtain ⟨h1, h2, -⟩ := hO
  rcases srcP_spec b (Int32.ofNat cd) (Int32.ofNat c) 1000 0 with ⟨a1, a2⟩ | ⟨a1, j, -, j2, j3, j4, j5⟩
  · rcases h1 cd c hcd hc with e | ⟨n, n1, n2, n3, n4, n5⟩
    · rw [a1, if_pos e]
    · exact absurd ⟨n3, n4, n5⟩ (a2 n (Nat.zero_le _) (by omega))
  · obtain ⟨cd', c', q1, q2, q3, q4, q5⟩ := h2 j (by omega) j3
    have e1 : cd = cd' := o_inj (by omega) (by omega) (j4.symm.trans q3)
    have e2 : c = c' := o_inj (by omega) (by omega) (j5.symm.trans q4)
    subst e1 e2
    rw [a1, if_neg]
    intro q
    rw [q5] at q
    have := o_inj (n := j + 1) (k := 0) (by omega) (by omega) q
    omega
/-- was the number granted as a RECORD says: by the issuer (1), by the switch (2) -/
def grd (b : TS) (n : Nat) (by' cd c m : Int32) : Prop := hI b n 9 = 0 ∧ (if by' = 2 then hI b n 7 ≠ 0 ∧ hA b n 63 0 = cd ∧ hA b n 63 1 = c ∧ hA b n 63 2 = m else hI b n 0 = 1 ∧ hA b n 62 0 = cd ∧ hA b n 62 1 = c ∧ hA b n 62 2 = m)
theorem x33 {a b : TS} {n j s r : Nat} (hN : KnR a b n) (h1 : tR a 3 0 n = some (4, j)) (hj : j < tN a 4) (hs : isM s) (hr : r < tN a s) :
    (grd b n (tI a s r 7) (tI a s r 2) (tI a s r 4) (tI a s r 5) → ∀ z, Ex 33 [aR (some (4, j)), aR (some (s, r))] (enc 1 a z) = some (.inl (some (aI 1)), enc 1 a z)) ∧
    (¬ grd b n (tI a s r 7) (tI a s r 2) (tI a s r 4) (tI a s r 5) → ∀ z, Ex 33 [aR (some (4, j)), aR (some (s, r))] (enc 1 a z) = some (.inl (some (aI 0)), enc 1 a z)) := by
  obtain ⟨-, ⟨q5, -⟩, ⟨q6, q6'⟩, ⟨-, q7, q7'⟩, -⟩ := hN
  rw [kI_at h1] at q5
  rw [kR_at h1] at q6 q7
  have fin : ∀ (u i : Nat) (cd c m : Int32), isM u → i < tN a u → tI a u i 2 = cd → tI a u i 4 = c → tI a u i 5 = m →
      ∀ z, Ru 33 51 [(0, aR (some (4, j))), (1, aR (some (s, r)))] [aR (some (u, i))] (enc 1 a z) = if hI b n 9 = 0 ∧ cd = tI a s r 2 ∧ c = tI a s r 4 ∧ m = tI a s r 5 then some (.inl (some (aI 1)), enc 1 a z) else some (.inl (some (aI 0)), enc 1 a z) := by
    intro u i cd c m hu hi e2 e4 e5 z
    rw [lf_33_51]
    by_cases d1 : hI b n 9 = 0
    · by_cases d2 : cd = tI a s r 2
      · by_cases d3 : c = tI a s r 4
        · by_cases d4 : m = tI a s r 5 <;> simp (config := {decide := true}) only [gfI_enc, gfL_enc, gfR_enc, pfI_enc, pfL_enc, pfR_enc, Option.bind_some, cI_v, cL_v, cF_v, cD_v, cR_v, cV_v, cI_x, cL_x, cR_x, cV_x, gz_0, gz_1, acc_enc, tI_sI, tL_sI, tR_sI, tN_sI, tZ_sI, tC_sI, tc_sI, tz_sI, tI_sL, tL_sL, tR_sL, tN_sL, tZ_sL, tC_sL, tc_sL, tz_sL, tI_sR, tL_sR, tR_sR, tN_sR, tZ_sR, tC_sR, tc_sR, tz_sR, tI_sZ, tL_sZ, tR_sZ, tN_sZ, tZ_sZ, tC_sZ, tc_sZ, tz_sZ, tI_sC, tL_sC, tR_sC, tN_sC, tZ_sC, tC_sC, tc_sC, tz_sC, tI_aC, tL_aC, tR_aC, tN_aC, tZ_aC, tC_aC, tc_aC, tz_aC, tI_rmL, tL_rmL, tR_rmL, tN_rmL, tZ_rmL, tC_rmL, tc_rmL, tz_rmL, tI_mk, tL_mk, tR_mk, tN_mk, tZ_mk, tC_mk, tc_mk, tz_mk, tI_pushL, tL_pushL, tR_pushL, tN_pushL, tZ_pushL, tC_pushL, tc_pushL, tz_pushL, tI_pushB, tL_pushB, tR_pushB, tN_pushB, tZ_pushB, tC_pushB, tc_pushB, tz_pushB, tI_cpL, tL_cpL, tR_cpL, tN_cpL, tZ_cpL, tC_cpL, tc_cpL, tz_cpL, eq_self, true_and, and_true, false_and, and_false, if_true, if_false, reduceIte, ite_true, ite_false, not_true_eq_false, not_false_eq_true, hj, q5, gm hs hr, gm hu hi, e2, e4, e5, d1, d2, d3, d4, reduceCtorEq]
        · simp (config := {decide := true}) only [gfI_enc, gfL_enc, gfR_enc, pfI_enc, pfL_enc, pfR_enc, Option.bind_some, cI_v, cL_v, cF_v, cD_v, cR_v, cV_v, cI_x, cL_x, cR_x, cV_x, gz_0, gz_1, acc_enc, tI_sI, tL_sI, tR_sI, tN_sI, tZ_sI, tC_sI, tc_sI, tz_sI, tI_sL, tL_sL, tR_sL, tN_sL, tZ_sL, tC_sL, tc_sL, tz_sL, tI_sR, tL_sR, tR_sR, tN_sR, tZ_sR, tC_sR, tc_sR, tz_sR, tI_sZ, tL_sZ, tR_sZ, tN_sZ, tZ_sZ, tC_sZ, tc_sZ, tz_sZ, tI_sC, tL_sC, tR_sC, tN_sC, tZ_sC, tC_sC, tc_sC, tz_sC, tI_aC, tL_aC, tR_aC, tN_aC, tZ_aC, tC_aC, tc_aC, tz_aC, tI_rmL, tL_rmL, tR_rmL, tN_rmL, tZ_rmL, tC_rmL, tc_rmL, tz_rmL, tI_mk, tL_mk, tR_mk, tN_mk, tZ_mk, tC_mk, tc_mk, tz_mk, tI_pushL, tL_pushL, tR_pushL, tN_pushL, tZ_pushL, tC_pushL, tc_pushL, tz_pushL, tI_pushB, tL_pushB, tR_pushB, tN_pushB, tZ_pushB, tC_pushB, tc_pushB, tz_pushB, tI_cpL, tL_cpL, tR_cpL, tN_cpL, tZ_cpL, tC_cpL, tc_cpL, tz_cpL, eq_self, true_and, and_true, false_and, and_false, if_true, if_false, reduceIte, ite_true, ite_false, not_true_eq_false, not_false_eq_true, hj, q5, gm hs hr, gm hu hi, e2, e4, e5, d1, d2, d3, reduceCtorEq]
      · simp (config := {decide := true}) only [gfI_enc, gfL_enc, gfR_enc, pfI_enc, pfL_enc, pfR_enc, Option.bind_some, cI_v, cL_v, cF_v, cD_v, cR_v, cV_v, cI_x, cL_x, cR_x, cV_x, gz_0, gz_1, acc_enc, tI_sI, tL_sI, tR_sI, tN_sI, tZ_sI, tC_sI, tc_sI, tz_sI, tI_sL, tL_sL, tR_sL, tN_sL, tZ_sL, tC_sL, tc_sL, tz_sL, tI_sR, tL_sR, tR_sR, tN_sR, tZ_sR, tC_sR, tc_sR, tz_sR, tI_sZ, tL_sZ, tR_sZ, tN_sZ, tZ_sZ, tC_sZ, tc_sZ, tz_sZ, tI_sC, tL_sC, tR_sC, tN_sC, tZ_sC, tC_sC, tc_sC, tz_sC, tI_aC, tL_aC, tR_aC, tN_aC, tZ_aC, tC_aC, tc_aC, tz_aC, tI_rmL, tL_rmL, tR_rmL, tN_rmL, tZ_rmL, tC_rmL, tc_rmL, tz_rmL, tI_mk, tL_mk, tR_mk, tN_mk, tZ_mk, tC_mk, tc_mk, tz_mk, tI_pushL, tL_pushL, tR_pushL, tN_pushL, tZ_pushL, tC_pushL, tc_pushL, tz_pushL, tI_pushB, tL_pushB, tR_pushB, tN_pushB, tZ_pushB, tC_pushB, tc_pushB, tz_pushB, tI_cpL, tL_cpL, tR_cpL, tN_cpL, tZ_cpL, tC_cpL, tc_cpL, tz_cpL, eq_self, true_and, and_true, false_and, and_false, if_true, if_false, reduceIte, ite_true, ite_false, not_true_eq_false, not_false_eq_true, hj, q5, gm hs hr, gm hu hi, e2, e4, e5, d1, d2, reduceCtorEq]
    · simp (config := {decide := true}) only [gfI_enc, gfL_enc, gfR_enc, pfI_enc, pfL_enc, pfR_enc, Option.bind_some, cI_v, cL_v, cF_v, cD_v, cR_v, cV_v, cI_x, cL_x, cR_x, cV_x, gz_0, gz_1, acc_enc, tI_sI, tL_sI, tR_sI, tN_sI, tZ_sI, tC_sI, tc_sI, tz_sI, tI_sL, tL_sL, tR_sL, tN_sL, tZ_sL, tC_sL, tc_sL, tz_sL, tI_sR, tL_sR, tR_sR, tN_sR, tZ_sR, tC_sR, tc_sR, tz_sR, tI_sZ, tL_sZ, tR_sZ, tN_sZ, tZ_sZ, tC_sZ, tc_sZ, tz_sZ, tI_sC, tL_sC, tR_sC, tN_sC, tZ_sC, tC_sC, tc_sC, tz_sC, tI_aC, tL_aC, tR_aC, tN_aC, tZ_aC, tC_aC, tc_aC, tz_aC, tI_rmL, tL_rmL, tR_rmL, tN_rmL, tZ_rmL, tC_rmL, tc_rmL, tz_rmL, tI_mk, tL_mk, tR_mk, tN_mk, tZ_mk, tC_mk, tc_mk, tz_mk, tI_pushL, tL_pushL, tR_pushL, tN_pushL, tZ_pushL, tC_pushL, tc_pushL, tz_pushL, tI_pushB, tL_pushB, tR_pushB, tN_pushB, tZ_pushB, tC_pushB, tc_pushB, tz_pushB, tI_cpL, tL_cpL, tR_cpL, tN_cpL, tZ_cpL, tC_cpL, tc_cpL, tz_cpL, eq_self, true_and, and_true, false_and, and_false, if_true, if_false, reduceIte, ite_true, ite_false, not_true_eq_false, not_false_eq_true, hj, q5, gm hs hr, gm hu hi, e2, e4, e5, d1, reduceCtorEq]
  have i5 : isM 5 := ⟨by decide +kernel, by decide +kernel⟩
  have i6 : isM 6 := ⟨by decide +kernel, by decide +kernel⟩
  have i17 : isM 17 := ⟨by decide +kernel, by decide +kernel⟩
  have go : ∀ z, Ex 33 [aR (some (4, j)), aR (some (s, r))] (enc 1 a z) = _ := fun z => (X_in (by decide +kernel) hj rfl).trans (lf_33_0 ..)
  have key : ∀ z, (tI a s r 7 = 2 → Ex 33 [aR (some (4, j)), aR (some (s, r))] (enc 1 a z) = if hI b n 9 = 0 ∧ hI b n 7 ≠ 0 ∧ hA b n 63 0 = tI a s r 2 ∧ hA b n 63 1 = tI a s r 4 ∧ hA b n 63 2 = tI a s r 5 then some (.inl (some (aI 1)), enc 1 a z) else some (.inl (some (aI 0)), enc 1 a z)) ∧
      (¬ tI a s r 7 = 2 → Ex 33 [aR (some (4, j)), aR (some (s, r))] (enc 1 a z) = if hI b n 9 = 0 ∧ hI b n 0 = 1 ∧ hA b n 62 0 = tI a s r 2 ∧ hA b n 62 1 = tI a s r 4 ∧ hA b n 62 2 = tI a s r 5 then some (.inl (some (aI 1)), enc 1 a z) else some (.inl (some (aI 0)), enc 1 a z)) := by
    intro z
    rw [go]
    refine ⟨fun b2 => ?_, fun b2 => ?_⟩
    · -- by the switch
      have tail : Ru 33 51 [(0, aR (some (4, j))), (1, aR (some (s, r)))] [aR (tR a 4 j 2)] (enc 1 a z) = if hI b n 9 = 0 ∧ hI b n 7 ≠ 0 ∧ hA b n 63 0 = tI a s r 2 ∧ hA b n 63 1 = tI a s r 4 ∧ hA b n 63 2 = tI a s r 5 then some (.inl (some (aI 1)), enc 1 a z) else some (.inl (some (aI 0)), enc 1 a z) := by
        by_cases e7 : hI b n 7 = 0
        · have en : ¬ (hI b n 9 = 0 ∧ hI b n 7 ≠ 0 ∧ hA b n 63 0 = tI a s r 2 ∧ hA b n 63 1 = tI a s r 4 ∧ hA b n 63 2 = tI a s r 5) := fun q => q.2.1 e7
          rw [if_neg en, q7 e7, lf_33_51, if_pos rfl]
        · obtain ⟨i, i1, i2, i3, i4, i5⟩ := q7' e7
          rw [kR_at h1] at i2
          rw [i2, fin 17 i _ _ _ i17 i1 i3 i4 i5]
          have t7 : hI b n 7 ≠ 0 := e7
          simp only [t7, ne_eq, not_false_eq_true, true_and]
      by_cases e0 : hI b n 0 = 0
      · have := q6 e0
        simp (config := {decide := true}) only [gfI_enc, gfL_enc, gfR_enc, pfI_enc, pfL_enc, pfR_enc, Option.bind_some, cI_v, cL_v, cF_v, cD_v, cR_v, cV_v, cI_x, cL_x, cR_x, cV_x, gz_0, gz_1, acc_enc, tI_sI, tL_sI, tR_sI, tN_sI, tZ_sI, tC_sI, tc_sI, tz_sI, tI_sL, tL_sL, tR_sL, tN_sL, tZ_sL, tC_sL, tc_sL, tz_sL, tI_sR, tL_sR, tR_sR, tN_sR, tZ_sR, tC_sR, tc_sR, tz_sR, tI_sZ, tL_sZ, tR_sZ, tN_sZ, tZ_sZ, tC_sZ, tc_sZ, tz_sZ, tI_sC, tL_sC, tR_sC, tN_sC, tZ_sC, tC_sC, tc_sC, tz_sC, tI_aC, tL_aC, tR_aC, tN_aC, tZ_aC, tC_aC, tc_aC, tz_aC, tI_rmL, tL_rmL, tR_rmL, tN_rmL, tZ_rmL, tC_rmL, tc_rmL, tz_rmL, tI_mk, tL_mk, tR_mk, tN_mk, tZ_mk, tC_mk, tc_mk, tz_mk, tI_pushL, tL_pushL, tR_pushL, tN_pushL, tZ_pushL, tC_pushL, tc_pushL, tz_pushL, tI_pushB, tL_pushB, tR_pushB, tN_pushB, tZ_pushB, tC_pushB, tc_pushB, tz_pushB, tI_cpL, tL_cpL, tR_cpL, tN_cpL, tZ_cpL, tC_cpL, tc_cpL, tz_cpL, eq_self, true_and, and_true, false_and, and_false, if_true, if_false, reduceIte, ite_true, ite_false, not_true_eq_false, not_false_eq_true, hj, this, gm hs hr, b2]
        exact tail
      · obtain ⟨i, k, i1, i2, i3, i4, i5', i6', i7, i8, i9, i10, -⟩ := q6' e0
        rw [kR_at h1] at i3
        by_cases e1 : hI b n 0 = 1
        · simp (config := {decide := true}) only [gfI_enc, gfL_enc, gfR_enc, pfI_enc, pfL_enc, pfR_enc, Option.bind_some, cI_v, cL_v, cF_v, cD_v, cR_v, cV_v, cI_x, cL_x, cR_x, cV_x, gz_0, gz_1, acc_enc, tI_sI, tL_sI, tR_sI, tN_sI, tZ_sI, tC_sI, tc_sI, tz_sI, tI_sL, tL_sL, tR_sL, tN_sL, tZ_sL, tC_sL, tc_sL, tz_sL, tI_sR, tL_sR, tR_sR, tN_sR, tZ_sR, tC_sR, tc_sR, tz_sR, tI_sZ, tL_sZ, tR_sZ, tN_sZ, tZ_sZ, tC_sZ, tc_sZ, tz_sZ, tI_sC, tL_sC, tR_sC, tN_sC, tZ_sC, tC_sC, tc_sC, tz_sC, tI_aC, tL_aC, tR_aC, tN_aC, tZ_aC, tC_aC, tc_aC, tz_aC, tI_rmL, tL_rmL, tR_rmL, tN_rmL, tZ_rmL, tC_rmL, tc_rmL, tz_rmL, tI_mk, tL_mk, tR_mk, tN_mk, tZ_mk, tC_mk, tc_mk, tz_mk, tI_pushL, tL_pushL, tR_pushL, tN_pushL, tZ_pushL, tC_pushL, tc_pushL, tz_pushL, tI_pushB, tL_pushB, tR_pushB, tN_pushB, tZ_pushB, tC_pushB, tc_pushB, tz_pushB, tI_cpL, tL_cpL, tR_cpL, tN_cpL, tZ_cpL, tC_cpL, tc_cpL, tz_cpL, eq_self, true_and, and_true, false_and, and_false, if_true, if_false, reduceIte, ite_true, ite_false, not_true_eq_false, not_false_eq_true, hj, i3, gm hs hr, gm i5 i1, i9, e1, b2, reduceCtorEq]
          exact tail
        · simp (config := {decide := true}) only [gfI_enc, gfL_enc, gfR_enc, pfI_enc, pfL_enc, pfR_enc, Option.bind_some, cI_v, cL_v, cF_v, cD_v, cR_v, cV_v, cI_x, cL_x, cR_x, cV_x, gz_0, gz_1, acc_enc, tI_sI, tL_sI, tR_sI, tN_sI, tZ_sI, tC_sI, tc_sI, tz_sI, tI_sL, tL_sL, tR_sL, tN_sL, tZ_sL, tC_sL, tc_sL, tz_sL, tI_sR, tL_sR, tR_sR, tN_sR, tZ_sR, tC_sR, tc_sR, tz_sR, tI_sZ, tL_sZ, tR_sZ, tN_sZ, tZ_sZ, tC_sZ, tc_sZ, tz_sZ, tI_sC, tL_sC, tR_sC, tN_sC, tZ_sC, tC_sC, tc_sC, tz_sC, tI_aC, tL_aC, tR_aC, tN_aC, tZ_aC, tC_aC, tc_aC, tz_aC, tI_rmL, tL_rmL, tR_rmL, tN_rmL, tZ_rmL, tC_rmL, tc_rmL, tz_rmL, tI_mk, tL_mk, tR_mk, tN_mk, tZ_mk, tC_mk, tc_mk, tz_mk, tI_pushL, tL_pushL, tR_pushL, tN_pushL, tZ_pushL, tC_pushL, tc_pushL, tz_pushL, tI_pushB, tL_pushB, tR_pushB, tN_pushB, tZ_pushB, tC_pushB, tc_pushB, tz_pushB, tI_cpL, tL_cpL, tR_cpL, tN_cpL, tZ_cpL, tC_cpL, tc_cpL, tz_cpL, eq_self, true_and, and_true, false_and, and_false, if_true, if_false, reduceIte, ite_true, ite_false, not_true_eq_false, not_false_eq_true, hj, i3, gm hs hr, gm i5 i1, i9, e1, b2, reduceCtorEq]
          exact tail
    · by_cases e0 : hI b n 0 = 0
      · have := q6 e0
        have e1 : ¬ hI b n 0 = 1 := fun q => by rw [e0] at q; exact absurd q (by decide)
        have en : ¬ (hI b n 9 = 0 ∧ hI b n 0 = 1 ∧ hA b n 62 0 = tI a s r 2 ∧ hA b n 62 1 = tI a s r 4 ∧ hA b n 62 2 = tI a s r 5) := fun q => e1 q.2.1
        rw [if_neg en]
        simp (config := {decide := true}) only [gfI_enc, gfL_enc, gfR_enc, pfI_enc, pfL_enc, pfR_enc, Option.bind_some, cI_v, cL_v, cF_v, cD_v, cR_v, cV_v, cI_x, cL_x, cR_x, cV_x, gz_0, gz_1, acc_enc, tI_sI, tL_sI, tR_sI, tN_sI, tZ_sI, tC_sI, tc_sI, tz_sI, tI_sL, tL_sL, tR_sL, tN_sL, tZ_sL, tC_sL, tc_sL, tz_sL, tI_sR, tL_sR, tR_sR, tN_sR, tZ_sR, tC_sR, tc_sR, tz_sR, tI_sZ, tL_sZ, tR_sZ, tN_sZ, tZ_sZ, tC_sZ, tc_sZ, tz_sZ, tI_sC, tL_sC, tR_sC, tN_sC, tZ_sC, tC_sC, tc_sC, tz_sC, tI_aC, tL_aC, tR_aC, tN_aC, tZ_aC, tC_aC, tc_aC, tz_aC, tI_rmL, tL_rmL, tR_rmL, tN_rmL, tZ_rmL, tC_rmL, tc_rmL, tz_rmL, tI_mk, tL_mk, tR_mk, tN_mk, tZ_mk, tC_mk, tc_mk, tz_mk, tI_pushL, tL_pushL, tR_pushL, tN_pushL, tZ_pushL, tC_pushL, tc_pushL, tz_pushL, tI_pushB, tL_pushB, tR_pushB, tN_pushB, tZ_pushB, tC_pushB, tc_pushB, tz_pushB, tI_cpL, tL_cpL, tR_cpL, tN_cpL, tZ_cpL, tC_cpL, tc_cpL, tz_cpL, eq_self, true_and, and_true, false_and, and_false, if_true, if_false, reduceIte, ite_true, ite_false, not_true_eq_false, not_false_eq_true, hj, this, gm hs hr, b2]
        rw [lf_33_51, if_pos rfl]
      · obtain ⟨i, k, i1, i2, i3, i4, i5', i6', i7, i8, i9, i10, -, -, -, -, i11, i12, i13⟩ := q6' e0
        rw [kR_at h1] at i3 i4
        by_cases e1 : hI b n 0 = 1
        · simp (config := {decide := true}) only [gfI_enc, gfL_enc, gfR_enc, pfI_enc, pfL_enc, pfR_enc, Option.bind_some, cI_v, cL_v, cF_v, cD_v, cR_v, cV_v, cI_x, cL_x, cR_x, cV_x, gz_0, gz_1, acc_enc, tI_sI, tL_sI, tR_sI, tN_sI, tZ_sI, tC_sI, tc_sI, tz_sI, tI_sL, tL_sL, tR_sL, tN_sL, tZ_sL, tC_sL, tc_sL, tz_sL, tI_sR, tL_sR, tR_sR, tN_sR, tZ_sR, tC_sR, tc_sR, tz_sR, tI_sZ, tL_sZ, tR_sZ, tN_sZ, tZ_sZ, tC_sZ, tc_sZ, tz_sZ, tI_sC, tL_sC, tR_sC, tN_sC, tZ_sC, tC_sC, tc_sC, tz_sC, tI_aC, tL_aC, tR_aC, tN_aC, tZ_aC, tC_aC, tc_aC, tz_aC, tI_rmL, tL_rmL, tR_rmL, tN_rmL, tZ_rmL, tC_rmL, tc_rmL, tz_rmL, tI_mk, tL_mk, tR_mk, tN_mk, tZ_mk, tC_mk, tc_mk, tz_mk, tI_pushL, tL_pushL, tR_pushL, tN_pushL, tZ_pushL, tC_pushL, tc_pushL, tz_pushL, tI_pushB, tL_pushB, tR_pushB, tN_pushB, tZ_pushB, tC_pushB, tc_pushB, tz_pushB, tI_cpL, tL_cpL, tR_cpL, tN_cpL, tZ_cpL, tC_cpL, tc_cpL, tz_cpL, eq_self, true_and, and_true, false_and, and_false, if_true, if_false, reduceIte, ite_true, ite_false, not_true_eq_false, not_false_eq_true, hj, i3, i4, gm hs hr, gm i5 i1, i9, e1, b2, reduceCtorEq]
          rw [fin 6 k _ _ _ i6 i2 i11 i12 i13]
        · have en : ¬ (hI b n 9 = 0 ∧ hI b n 0 = 1 ∧ hA b n 62 0 = tI a s r 2 ∧ hA b n 62 1 = tI a s r 4 ∧ hA b n 62 2 = tI a s r 5) := fun q => e1 q.2.1
          rw [if_neg en]
          simp (config := {decide := true}) only [gfI_enc, gfL_enc, gfR_enc, pfI_enc, pfL_enc, pfR_enc, Option.bind_some, cI_v, cL_v, cF_v, cD_v, cR_v, cV_v, cI_x, cL_x, cR_x, cV_x, gz_0, gz_1, acc_enc, tI_sI, tL_sI, tR_sI, tN_sI, tZ_sI, tC_sI, tc_sI, tz_sI, tI_sL, tL_sL, tR_sL, tN_sL, tZ_sL, tC_sL, tc_sL, tz_sL, tI_sR, tL_sR, tR_sR, tN_sR, tZ_sR, tC_sR, tc_sR, tz_sR, tI_sZ, tL_sZ, tR_sZ, tN_sZ, tZ_sZ, tC_sZ, tc_sZ, tz_sZ, tI_sC, tL_sC, tR_sC, tN_sC, tZ_sC, tC_sC, tc_sC, tz_sC, tI_aC, tL_aC, tR_aC, tN_aC, tZ_aC, tC_aC, tc_aC, tz_aC, tI_rmL, tL_rmL, tR_rmL, tN_rmL, tZ_rmL, tC_rmL, tc_rmL, tz_rmL, tI_mk, tL_mk, tR_mk, tN_mk, tZ_mk, tC_mk, tc_mk, tz_mk, tI_pushL, tL_pushL, tR_pushL, tN_pushL, tZ_pushL, tC_pushL, tc_pushL, tz_pushL, tI_pushB, tL_pushB, tR_pushB, tN_pushB, tZ_pushB, tC_pushB, tc_pushB, tz_pushB, tI_cpL, tL_cpL, tR_cpL, tN_cpL, tZ_cpL, tC_cpL, tc_cpL, tz_cpL, eq_self, true_and, and_true, false_and, and_false, if_true, if_false, reduceIte, ite_true, ite_false, not_true_eq_false, not_false_eq_true, hj, i3, gm hs hr, gm i5 i1, i9, e1, b2, reduceCtorEq]
          rw [lf_33_51, if_pos rfl]
  unfold grd
  by_cases b2 : tI a s r 7 = 2
  · simp only [b2, if_true]
    exact ⟨fun h z => by rw [(key z).1 b2, if_pos h], fun h z => by rw [(key z).1 b2, if_neg h]⟩
  · simp only [b2, if_false]
    exact ⟨fun h z => by rw [(key z).2 b2, if_pos h], fun h z => by rw [(key z).2 b2, if_neg h]⟩
