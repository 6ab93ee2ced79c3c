/-! ===== a DONE comes to a terminal ===== -/
theorem o_a (x y : Nat) : Int32.ofNat x + Int32.ofNat y = Int32.ofNat (x + y) := (Int32.ofNat_add x y).symm
theorem o_500 (n : Nat) : (500 : Int32) * Int32.ofNat n = Int32.ofNat (500 * n) := (Int32.ofNat_mul 500 n).symm
theorem sI_sf {m : TS} {s i k : Nat} {v : Int32} (h : tI m s i k = v) : sI m s i k v = m := by
  subst h
  have : tI (sI m s i k (tI m s i k)) = tI m := by
    funext s' i' k'
    rw [tI_sI]
    split
    · rename_i e
      rw [e.1, e.2.1, e.2.2]
    · rfl
  exact Prod.ext this rfl
theorem sR_self {m : TS} {s i k : Nat} {v : Option (Nat × Nat)} (h : tR m s i k = v) : sR m s i k v = m := by
  subst h
  have : tR (sR m s i k (tR m s i k)) = tR m := by
    funext s' i' k'
    rw [tR_sR]
    split
    · rename_i e
      rw [e.1, e.2.1, e.2.2]
    · rfl
  exact Prod.ext rfl (Prod.ext rfl (Prod.ext this rfl))
theorem sIsR (m : TS) (s i k s' i' k' : Nat) (v : Option (Nat × Nat)) (w : Int32) : sI (sR m s i k v) s' i' k' w = sR (sI m s' i' k' w) s i k v := rfl
/-- a step of the reference's loop -/
theorem y210_12 {B : TS} {z : Hp} {sh l k n : Nat} {q q' : Nat × Nat} {d0 d1 d7 : Int32} (hF : FxR B) (hsh : sh < 4) (hl : l ≤ k) (hk : k < n) (hn : n ≤ 500) (h68 : tI B 68 0 sh = Int32.ofNat n) (h66 : tR B 66 0 (500 * sh + k) = some q') (hq' : isQ q'.1) (hqi' : q'.2 < tN B q'.1) (hq : isQ q.1) (hqi : q.2 < tN B q.1)
    (e8 : tI B q.1 q.2 8 = d0) (e1 : tI B q.1 q.2 1 = d1) (e7 : tI B q.1 q.2 7 = d7) :
    Ru 210 12 [(0, aR (some (95, 0))), (1, aI (Int32.ofNat sh)), (2, aR (some q)), (3, aI (Int32.ofNat (500 * sh))), (4, aI (Int32.ofNat l)), (5, aI (Int32.ofNat k))] [] (enc 2 B z) =
      if tI B q'.1 q'.2 0 = d0 ∧ tI B q'.1 q'.2 1 = d1 ∧ tI B q'.1 q'.2 7 = d7 then Ru 210 12 [(0, aR (some (95, 0))), (1, aI (Int32.ofNat sh)), (2, aR (some q)), (3, aI (Int32.ofNat (500 * sh))), (4, aI (Int32.ofNat l)), (5, aI (Int32.ofNat (k + 1)))] [] (enc 2 B z)
      else Ru 210 12 [(0, aR (some (95, 0))), (1, aI (Int32.ofNat sh)), (2, aR (some q)), (3, aI (Int32.ofNat (500 * sh))), (4, aI (Int32.ofNat (l + 1))), (5, aI (Int32.ofNat (k + 1)))] [] (enc 2 (sI (sR B 66 0 (500 * sh + l) (some q')) 67 0 (500 * sh + l) (tI B 67 0 (500 * sh + k))) z) := by
  obtain ⟨qs, qi⟩ := q
  obtain ⟨qs', qi'⟩ := q'
  dsimp only at *
  have g1 : (Int32.ofNat sh).toNatClampNeg = sh := o_ix (by omega)
  have g2 : ¬ Int32.ofNat sh < 0 := o_lt0 (by omega)
  have g3 : ¬ Int32.ofNat n ≤ Int32.ofNat k := by rw [o_le (by omega) (by omega)]; omega
  have g4 : (Int32.ofNat (500 * sh + k)).toNatClampNeg = 500 * sh + k := o_ix (by omega)
  have g5 : ¬ Int32.ofNat (500 * sh + k) < 0 := o_lt0 (by omega)
  have g6 : (Int32.ofNat (500 * sh + l)).toNatClampNeg = 500 * sh + l := o_ix (by omega)
  have g7 : ¬ Int32.ofNat (500 * sh + l) < 0 := o_lt0 (by omega)
  have g8 : 500 * sh + k < 2000 := by omega
  have g9 : 500 * sh + l < 2000 := by omega
  have o66 : isO 2 1028 66 := ⟨by decide +kernel, by decide +kernel⟩
  have hv : okV 2 B 66 (some (qs', qi')) := okV_q o66 hq' hqi'
  rw [lf_210_12]
  by_cases c0 : tI B qs' qi' 0 = d0
  · by_cases c1 : tI B qs' qi' 1 = d1
    · by_cases c7 : tI B qs' qi' 7 = d7
      · rw [if_pos ⟨c0, c1, c7⟩]
        have t0 : (tI B qs' qi' 0 = d0) = True := eq_true c0
        have t1 : (tI B qs' qi' 1 = d1) = True := eq_true c1
        have t7 : (tI B qs' qi' 7 = d7) = True := eq_true c7
        simp (config := {decide := true}) only [gfI_enc, gfL_enc, gfR_enc, pfI_enc, pfL_enc, pfR_enc, Option.bind_some, cI_v, cL_v, cF_v, cD_v, cR_v, cV_v, cI_x, cL_x, cR_x, cV_x, gz_0, gz_1, acc_enc, tI_sI, tL_sI, tR_sI, tN_sI, tZ_sI, tC_sI, tc_sI, tz_sI, tI_sL, tL_sL, tR_sL, tN_sL, tZ_sL, tC_sL, tc_sL, tz_sL, tI_sR, tL_sR, tR_sR, tN_sR, tZ_sR, tC_sR, tc_sR, tz_sR, tI_sZ, tL_sZ, tR_sZ, tN_sZ, tZ_sZ, tC_sZ, tc_sZ, tz_sZ, tI_sC, tL_sC, tR_sC, tN_sC, tZ_sC, tC_sC, tc_sC, tz_sC, tI_aC, tL_aC, tR_aC, tN_aC, tZ_aC, tC_aC, tc_aC, tz_aC, tI_rmL, tL_rmL, tR_rmL, tN_rmL, tZ_rmL, tC_rmL, tc_rmL, tz_rmL, tI_mk, tL_mk, tR_mk, tN_mk, tZ_mk, tC_mk, tc_mk, tz_mk, tI_pushL, tL_pushL, tR_pushL, tN_pushL, tZ_pushL, tC_pushL, tc_pushL, tz_pushL, tI_pushB, tL_pushB, tR_pushB, tN_pushB, tZ_pushB, tC_pushB, tc_pushB, tz_pushB, tI_cpL, tL_cpL, tR_cpL, tN_cpL, tZ_cpL, tC_cpL, tc_cpL, tz_cpL, eq_self, true_and, and_true, false_and, and_false, if_true, if_false, reduceIte, ite_true, ite_false, not_true_eq_false, not_false_eq_true, frN_95 hF, frR_95_13 hF, frN_68 hF, frZ_68 hF, frR_95_11 hF, frN_66 hF, frZ_66 hF, gaI_enc, gaR_enc, g1, g2, hsh, h68, g3, o_a, g4, g5, g8, h66, gq hq' hqi', gq hq hqi, e8, e1, e7, t0, t1, t7, o_s]
      · rw [if_neg (fun e => c7 e.2.2)]
        have t0 : (tI B qs' qi' 0 = d0) = True := eq_true c0
        have t1 : (tI B qs' qi' 1 = d1) = True := eq_true c1
        simp (config := {decide := true}) only [gfI_enc, gfL_enc, gfR_enc, pfI_enc, pfL_enc, pfR_enc, Option.bind_some, cI_v, cL_v, cF_v, cD_v, cR_v, cV_v, cI_x, cL_x, cR_x, cV_x, gz_0, gz_1, acc_enc, tI_sI, tL_sI, tR_sI, tN_sI, tZ_sI, tC_sI, tc_sI, tz_sI, tI_sL, tL_sL, tR_sL, tN_sL, tZ_sL, tC_sL, tc_sL, tz_sL, tI_sR, tL_sR, tR_sR, tN_sR, tZ_sR, tC_sR, tc_sR, tz_sR, tI_sZ, tL_sZ, tR_sZ, tN_sZ, tZ_sZ, tC_sZ, tc_sZ, tz_sZ, tI_sC, tL_sC, tR_sC, tN_sC, tZ_sC, tC_sC, tc_sC, tz_sC, tI_aC, tL_aC, tR_aC, tN_aC, tZ_aC, tC_aC, tc_aC, tz_aC, tI_rmL, tL_rmL, tR_rmL, tN_rmL, tZ_rmL, tC_rmL, tc_rmL, tz_rmL, tI_mk, tL_mk, tR_mk, tN_mk, tZ_mk, tC_mk, tc_mk, tz_mk, tI_pushL, tL_pushL, tR_pushL, tN_pushL, tZ_pushL, tC_pushL, tc_pushL, tz_pushL, tI_pushB, tL_pushB, tR_pushB, tN_pushB, tZ_pushB, tC_pushB, tc_pushB, tz_pushB, tI_cpL, tL_cpL, tR_cpL, tN_cpL, tZ_cpL, tC_cpL, tc_cpL, tz_cpL, eq_self, true_and, and_true, false_and, and_false, if_true, if_false, reduceIte, ite_true, ite_false, not_true_eq_false, not_false_eq_true, frN_95 hF, frR_95_13 hF, frN_68 hF, frZ_68 hF, frR_95_11 hF, frR_95_12 hF, frN_66 hF, frZ_66 hF, frN_67 hF, frZ_67 hF, gaI_enc, paI_enc, gaR_enc, paR_enc, g1, g2, hsh, h68, g3, o_a, g4, g5, g6, g7, g8, g9, h66, gq hq' hqi', gq hq hqi, e8, e1, e7, t0, t1, c7, hv, o_s]
    · rw [if_neg (fun e => c1 e.2.1)]
      have t0 : (tI B qs' qi' 0 = d0) = True := eq_true c0
      simp (config := {decide := true}) only [gfI_enc, gfL_enc, gfR_enc, pfI_enc, pfL_enc, pfR_enc, Option.bind_some, cI_v, cL_v, cF_v, cD_v, cR_v, cV_v, cI_x, cL_x, cR_x, cV_x, gz_0, gz_1, acc_enc, tI_sI, tL_sI, tR_sI, tN_sI, tZ_sI, tC_sI, tc_sI, tz_sI, tI_sL, tL_sL, tR_sL, tN_sL, tZ_sL, tC_sL, tc_sL, tz_sL, tI_sR, tL_sR, tR_sR, tN_sR, tZ_sR, tC_sR, tc_sR, tz_sR, tI_sZ, tL_sZ, tR_sZ, tN_sZ, tZ_sZ, tC_sZ, tc_sZ, tz_sZ, tI_sC, tL_sC, tR_sC, tN_sC, tZ_sC, tC_sC, tc_sC, tz_sC, tI_aC, tL_aC, tR_aC, tN_aC, tZ_aC, tC_aC, tc_aC, tz_aC, tI_rmL, tL_rmL, tR_rmL, tN_rmL, tZ_rmL, tC_rmL, tc_rmL, tz_rmL, tI_mk, tL_mk, tR_mk, tN_mk, tZ_mk, tC_mk, tc_mk, tz_mk, tI_pushL, tL_pushL, tR_pushL, tN_pushL, tZ_pushL, tC_pushL, tc_pushL, tz_pushL, tI_pushB, tL_pushB, tR_pushB, tN_pushB, tZ_pushB, tC_pushB, tc_pushB, tz_pushB, tI_cpL, tL_cpL, tR_cpL, tN_cpL, tZ_cpL, tC_cpL, tc_cpL, tz_cpL, eq_self, true_and, and_true, false_and, and_false, if_true, if_false, reduceIte, ite_true, ite_false, not_true_eq_false, not_false_eq_true, frN_95 hF, frR_95_13 hF, frN_68 hF, frZ_68 hF, frR_95_11 hF, frR_95_12 hF, frN_66 hF, frZ_66 hF, frN_67 hF, frZ_67 hF, gaI_enc, paI_enc, gaR_enc, paR_enc, g1, g2, hsh, h68, g3, o_a, g4, g5, g6, g7, g8, g9, h66, gq hq' hqi', gq hq hqi, e8, e1, e7, t0, c1, hv, o_s]
  · rw [if_neg (fun e => c0 e.1)]
    simp (config := {decide := true}) only [gfI_enc, gfL_enc, gfR_enc, pfI_enc, pfL_enc, pfR_enc, Option.bind_some, cI_v, cL_v, cF_v, cD_v, cR_v, cV_v, cI_x, cL_x, cR_x, cV_x, gz_0, gz_1, acc_enc, tI_sI, tL_sI, tR_sI, tN_sI, tZ_sI, tC_sI, tc_sI, tz_sI, tI_sL, tL_sL, tR_sL, tN_sL, tZ_sL, tC_sL, tc_sL, tz_sL, tI_sR, tL_sR, tR_sR, tN_sR, tZ_sR, tC_sR, tc_sR, tz_sR, tI_sZ, tL_sZ, tR_sZ, tN_sZ, tZ_sZ, tC_sZ, tc_sZ, tz_sZ, tI_sC, tL_sC, tR_sC, tN_sC, tZ_sC, tC_sC, tc_sC, tz_sC, tI_aC, tL_aC, tR_aC, tN_aC, tZ_aC, tC_aC, tc_aC, tz_aC, tI_rmL, tL_rmL, tR_rmL, tN_rmL, tZ_rmL, tC_rmL, tc_rmL, tz_rmL, tI_mk, tL_mk, tR_mk, tN_mk, tZ_mk, tC_mk, tc_mk, tz_mk, tI_pushL, tL_pushL, tR_pushL, tN_pushL, tZ_pushL, tC_pushL, tc_pushL, tz_pushL, tI_pushB, tL_pushB, tR_pushB, tN_pushB, tZ_pushB, tC_pushB, tc_pushB, tz_pushB, tI_cpL, tL_cpL, tR_cpL, tN_cpL, tZ_cpL, tC_cpL, tc_cpL, tz_cpL, eq_self, true_and, and_true, false_and, and_false, if_true, if_false, reduceIte, ite_true, ite_false, not_true_eq_false, not_false_eq_true, frN_95 hF, frR_95_13 hF, frN_68 hF, frZ_68 hF, frR_95_11 hF, frR_95_12 hF, frN_66 hF, frZ_66 hF, frN_67 hF, frZ_67 hF, gaI_enc, paI_enc, gaR_enc, paR_enc, g1, g2, hsh, h68, g3, o_a, g4, g5, g6, g7, g8, g9, h66, gq hq' hqi', gq hq hqi, e8, e1, e7, c0, hv, o_s]
theorem y210_end {B : TS} {z : Hp} {sh l n : Nat} {q : Nat × Nat} (hF : FxR B) (hsh : sh < 4) (h68 : tI B 68 0 sh = Int32.ofNat n) :
    Ru 210 12 [(0, aR (some (95, 0))), (1, aI (Int32.ofNat sh)), (2, aR (some q)), (3, aI (Int32.ofNat (500 * sh))), (4, aI (Int32.ofNat l)), (5, aI (Int32.ofNat n))] [] (enc 2 B z) = some (.inl none, enc 2 (sI B 68 0 sh (Int32.ofNat l)) z) := by
  have g1 : (Int32.ofNat sh).toNatClampNeg = sh := o_ix (by omega)
  have g2 : ¬ Int32.ofNat sh < 0 := o_lt0 (by omega)
  have g3 : Int32.ofNat n ≤ Int32.ofNat n := Int32.le_refl _
  rw [lf_210_12]
  simp (config := {decide := true}) only [gfI_enc, gfL_enc, gfR_enc, pfI_enc, pfL_enc, pfR_enc, Option.bind_some, cI_v, cL_v, cF_v, cD_v, cR_v, cV_v, cI_x, cL_x, cR_x, cV_x, gz_0, gz_1, acc_enc, tI_sI, tL_sI, tR_sI, tN_sI, tZ_sI, tC_sI, tc_sI, tz_sI, tI_sL, tL_sL, tR_sL, tN_sL, tZ_sL, tC_sL, tc_sL, tz_sL, tI_sR, tL_sR, tR_sR, tN_sR, tZ_sR, tC_sR, tc_sR, tz_sR, tI_sZ, tL_sZ, tR_sZ, tN_sZ, tZ_sZ, tC_sZ, tc_sZ, tz_sZ, tI_sC, tL_sC, tR_sC, tN_sC, tZ_sC, tC_sC, tc_sC, tz_sC, tI_aC, tL_aC, tR_aC, tN_aC, tZ_aC, tC_aC, tc_aC, tz_aC, tI_rmL, tL_rmL, tR_rmL, tN_rmL, tZ_rmL, tC_rmL, tc_rmL, tz_rmL, tI_mk, tL_mk, tR_mk, tN_mk, tZ_mk, tC_mk, tc_mk, tz_mk, tI_pushL, tL_pushL, tR_pushL, tN_pushL, tZ_pushL, tC_pushL, tc_pushL, tz_pushL, tI_pushB, tL_pushB, tR_pushB, tN_pushB, tZ_pushB, tC_pushB, tc_pushB, tz_pushB, tI_cpL, tL_cpL, tR_cpL, tN_cpL, tZ_cpL, tC_cpL, tc_cpL, tz_cpL, eq_self, true_and, and_true, false_and, and_false, if_true, if_false, reduceIte, ite_true, ite_false, not_true_eq_false, not_false_eq_true, frN_95 hF, frR_95_13 hF, frN_68 hF, frZ_68 hF, gaI_enc, paI_enc, g1, g2, hsh, h68, g3]
/-- a step of the class's search -/
theorem x73_2 {a : TS} {z : Hp} {sh r k n c i : Nat} {d0 d1 d11 : Int32} (h36 : sh < tN a 36) (T9 : tR a 36 sh 7 = some (19, sh)) (h19 : sh < tN a 19) (hn : tZ a 19 sh = n) (hn2 : n ≤ 500) (hk : k < n) (hR : tR a 19 sh k = some (c, i)) (hc : isM c) (hi : i < tN a c) (hr : r < tN a 10) (m0 : tI a 10 r 0 = d0) (m1 : tI a 10 r 1 = d1) (m11 : tI a 10 r 11 = d11) :
    Ru 73 2 [(0, aR (some (36, sh))), (1, aR (some (10, r))), (2, aI (Int32.ofNat k))] [] (enc 1 a z) =
      if tI a c i 0 = d0 ∧ tI a c i 1 = d1 ∧ tI a c i 11 = d11 then some (.inl none, enc 1 (rmL a 19 sh k) z) else Ru 73 2 [(0, aR (some (36, sh))), (1, aR (some (10, r))), (2, aI (Int32.ofNat (k + 1)))] [] (enc 1 a z) := by
  have i10 : isM 10 := ⟨by decide +kernel, by decide +kernel⟩
  have g1 : (Int32.ofNat k).toNatClampNeg = k := o_ix (by omega)
  have g2 : ¬ Int32.ofNat k < 0 := o_lt0 (by omega)
  have g3 : ¬ Int32.ofNat n ≤ Int32.ofNat k := by rw [o_le (by omega) (by omega)]; omega
  rw [lf_73_2]
  by_cases c0 : tI a c i 0 = d0
  · have t0 : (tI a c i 0 = d0) = True := eq_true c0
    by_cases c1 : tI a c i 1 = d1
    · have t1 : (tI a c i 1 = d1) = True := eq_true c1
      by_cases c11 : tI a c i 11 = d11
      · have t11 : (tI a c i 11 = d11) = True := eq_true c11
        rw [if_pos ⟨c0, c1, c11⟩]
        simp (config := {decide := true}) only [gfI_enc, gfL_enc, gfR_enc, pfI_enc, pfL_enc, pfR_enc, Option.bind_some, cI_v, cL_v, cF_v, cD_v, cR_v, cV_v, cI_x, cL_x, cR_x, cV_x, gz_0, gz_1, acc_enc, tI_sI, tL_sI, tR_sI, tN_sI, tZ_sI, tC_sI, tc_sI, tz_sI, tI_sL, tL_sL, tR_sL, tN_sL, tZ_sL, tC_sL, tc_sL, tz_sL, tI_sR, tL_sR, tR_sR, tN_sR, tZ_sR, tC_sR, tc_sR, tz_sR, tI_sZ, tL_sZ, tR_sZ, tN_sZ, tZ_sZ, tC_sZ, tc_sZ, tz_sZ, tI_sC, tL_sC, tR_sC, tN_sC, tZ_sC, tC_sC, tc_sC, tz_sC, tI_aC, tL_aC, tR_aC, tN_aC, tZ_aC, tC_aC, tc_aC, tz_aC, tI_rmL, tL_rmL, tR_rmL, tN_rmL, tZ_rmL, tC_rmL, tc_rmL, tz_rmL, tI_mk, tL_mk, tR_mk, tN_mk, tZ_mk, tC_mk, tc_mk, tz_mk, tI_pushL, tL_pushL, tR_pushL, tN_pushL, tZ_pushL, tC_pushL, tc_pushL, tz_pushL, tI_pushB, tL_pushB, tR_pushB, tN_pushB, tZ_pushB, tC_pushB, tc_pushB, tz_pushB, tI_cpL, tL_cpL, tR_cpL, tN_cpL, tZ_cpL, tC_cpL, tc_cpL, tz_cpL, eq_self, true_and, and_true, false_and, and_false, if_true, if_false, reduceIte, ite_true, ite_false, not_true_eq_false, not_false_eq_true, h36, T9, h19, X405, X402, X404, hn, g1, g2, g3, hk, hR, acc_m hc, hi, gm hc hi, gm i10 hr, m0, m1, m11, t0, t1, t11]
      · rw [if_neg (fun e => c11 e.2.2)]
        simp (config := {decide := true}) only [gfI_enc, gfL_enc, gfR_enc, pfI_enc, pfL_enc, pfR_enc, Option.bind_some, cI_v, cL_v, cF_v, cD_v, cR_v, cV_v, cI_x, cL_x, cR_x, cV_x, gz_0, gz_1, acc_enc, tI_sI, tL_sI, tR_sI, tN_sI, tZ_sI, tC_sI, tc_sI, tz_sI, tI_sL, tL_sL, tR_sL, tN_sL, tZ_sL, tC_sL, tc_sL, tz_sL, tI_sR, tL_sR, tR_sR, tN_sR, tZ_sR, tC_sR, tc_sR, tz_sR, tI_sZ, tL_sZ, tR_sZ, tN_sZ, tZ_sZ, tC_sZ, tc_sZ, tz_sZ, tI_sC, tL_sC, tR_sC, tN_sC, tZ_sC, tC_sC, tc_sC, tz_sC, tI_aC, tL_aC, tR_aC, tN_aC, tZ_aC, tC_aC, tc_aC, tz_aC, tI_rmL, tL_rmL, tR_rmL, tN_rmL, tZ_rmL, tC_rmL, tc_rmL, tz_rmL, tI_mk, tL_mk, tR_mk, tN_mk, tZ_mk, tC_mk, tc_mk, tz_mk, tI_pushL, tL_pushL, tR_pushL, tN_pushL, tZ_pushL, tC_pushL, tc_pushL, tz_pushL, tI_pushB, tL_pushB, tR_pushB, tN_pushB, tZ_pushB, tC_pushB, tc_pushB, tz_pushB, tI_cpL, tL_cpL, tR_cpL, tN_cpL, tZ_cpL, tC_cpL, tc_cpL, tz_cpL, eq_self, true_and, and_true, false_and, and_false, if_true, if_false, reduceIte, ite_true, ite_false, not_true_eq_false, not_false_eq_true, h36, T9, h19, X405, X402, X404, hn, g1, g2, g3, hk, hR, acc_m hc, hi, gm hc hi, gm i10 hr, m0, m1, m11, t0, t1, c11, o_s]
    · rw [if_neg (fun e => c1 e.2.1)]
      simp (config := {decide := true}) only [gfI_enc, gfL_enc, gfR_enc, pfI_enc, pfL_enc, pfR_enc, Option.bind_some, cI_v, cL_v, cF_v, cD_v, cR_v, cV_v, cI_x, cL_x, cR_x, cV_x, gz_0, gz_1, acc_enc, tI_sI, tL_sI, tR_sI, tN_sI, tZ_sI, tC_sI, tc_sI, tz_sI, tI_sL, tL_sL, tR_sL, tN_sL, tZ_sL, tC_sL, tc_sL, tz_sL, tI_sR, tL_sR, tR_sR, tN_sR, tZ_sR, tC_sR, tc_sR, tz_sR, tI_sZ, tL_sZ, tR_sZ, tN_sZ, tZ_sZ, tC_sZ, tc_sZ, tz_sZ, tI_sC, tL_sC, tR_sC, tN_sC, tZ_sC, tC_sC, tc_sC, tz_sC, tI_aC, tL_aC, tR_aC, tN_aC, tZ_aC, tC_aC, tc_aC, tz_aC, tI_rmL, tL_rmL, tR_rmL, tN_rmL, tZ_rmL, tC_rmL, tc_rmL, tz_rmL, tI_mk, tL_mk, tR_mk, tN_mk, tZ_mk, tC_mk, tc_mk, tz_mk, tI_pushL, tL_pushL, tR_pushL, tN_pushL, tZ_pushL, tC_pushL, tc_pushL, tz_pushL, tI_pushB, tL_pushB, tR_pushB, tN_pushB, tZ_pushB, tC_pushB, tc_pushB, tz_pushB, tI_cpL, tL_cpL, tR_cpL, tN_cpL, tZ_cpL, tC_cpL, tc_cpL, tz_cpL, eq_self, true_and, and_true, false_and, and_false, if_true, if_false, reduceIte, ite_true, ite_false, not_true_eq_false, not_false_eq_true, h36, T9, h19, X405, X402, X404, hn, g1, g2, g3, hk, hR, acc_m hc, hi, gm hc hi, gm i10 hr, m0, m1, m11, t0, c1, o_s]
  · rw [if_neg (fun e => c0 e.1)]
    simp (config := {decide := true}) only [gfI_enc, gfL_enc, gfR_enc, pfI_enc, pfL_enc, pfR_enc, Option.bind_some, cI_v, cL_v, cF_v, cD_v, cR_v, cV_v, cI_x, cL_x, cR_x, cV_x, gz_0, gz_1, acc_enc, tI_sI, tL_sI, tR_sI, tN_sI, tZ_sI, tC_sI, tc_sI, tz_sI, tI_sL, tL_sL, tR_sL, tN_sL, tZ_sL, tC_sL, tc_sL, tz_sL, tI_sR, tL_sR, tR_sR, tN_sR, tZ_sR, tC_sR, tc_sR, tz_sR, tI_sZ, tL_sZ, tR_sZ, tN_sZ, tZ_sZ, tC_sZ, tc_sZ, tz_sZ, tI_sC, tL_sC, tR_sC, tN_sC, tZ_sC, tC_sC, tc_sC, tz_sC, tI_aC, tL_aC, tR_aC, tN_aC, tZ_aC, tC_aC, tc_aC, tz_aC, tI_rmL, tL_rmL, tR_rmL, tN_rmL, tZ_rmL, tC_rmL, tc_rmL, tz_rmL, tI_mk, tL_mk, tR_mk, tN_mk, tZ_mk, tC_mk, tc_mk, tz_mk, tI_pushL, tL_pushL, tR_pushL, tN_pushL, tZ_pushL, tC_pushL, tc_pushL, tz_pushL, tI_pushB, tL_pushB, tR_pushB, tN_pushB, tZ_pushB, tC_pushB, tc_pushB, tz_pushB, tI_cpL, tL_cpL, tR_cpL, tN_cpL, tZ_cpL, tC_cpL, tc_cpL, tz_cpL, eq_self, true_and, and_true, false_and, and_false, if_true, if_false, reduceIte, ite_true, ite_false, not_true_eq_false, not_false_eq_true, h36, T9, h19, X405, X402, X404, hn, g1, g2, g3, hk, hR, acc_m hc, hi, gm hc hi, gm i10 hr, m0, m1, m11, c0, o_s]
theorem x73_end {a : TS} {z : Hp} {sh r n : Nat} (h36 : sh < tN a 36) (T9 : tR a 36 sh 7 = some (19, sh)) (h19 : sh < tN a 19) (hn : tZ a 19 sh = n) : Ru 73 2 [(0, aR (some (36, sh))), (1, aR (some (10, r))), (2, aI (Int32.ofNat n))] [] (enc 1 a z) = some (.inl none, enc 1 a z) := by
  have g3 : Int32.ofNat n ≤ Int32.ofNat n := Int32.le_refl _
  rw [lf_73_2]
  simp (config := {decide := true}) only [gfI_enc, gfL_enc, gfR_enc, pfI_enc, pfL_enc, pfR_enc, Option.bind_some, cI_v, cL_v, cF_v, cD_v, cR_v, cV_v, cI_x, cL_x, cR_x, cV_x, gz_0, gz_1, acc_enc, tI_sI, tL_sI, tR_sI, tN_sI, tZ_sI, tC_sI, tc_sI, tz_sI, tI_sL, tL_sL, tR_sL, tN_sL, tZ_sL, tC_sL, tc_sL, tz_sL, tI_sR, tL_sR, tR_sR, tN_sR, tZ_sR, tC_sR, tc_sR, tz_sR, tI_sZ, tL_sZ, tR_sZ, tN_sZ, tZ_sZ, tC_sZ, tc_sZ, tz_sZ, tI_sC, tL_sC, tR_sC, tN_sC, tZ_sC, tC_sC, tc_sC, tz_sC, tI_aC, tL_aC, tR_aC, tN_aC, tZ_aC, tC_aC, tc_aC, tz_aC, tI_rmL, tL_rmL, tR_rmL, tN_rmL, tZ_rmL, tC_rmL, tc_rmL, tz_rmL, tI_mk, tL_mk, tR_mk, tN_mk, tZ_mk, tC_mk, tc_mk, tz_mk, tI_pushL, tL_pushL, tR_pushL, tN_pushL, tZ_pushL, tC_pushL, tc_pushL, tz_pushL, tI_pushB, tL_pushB, tR_pushB, tN_pushB, tZ_pushB, tC_pushB, tc_pushB, tz_pushB, tI_cpL, tL_cpL, tR_cpL, tN_cpL, tZ_cpL, tC_cpL, tc_cpL, tz_cpL, eq_self, true_and, and_true, false_and, and_false, if_true, if_false, reduceIte, ite_true, ite_false, not_true_eq_false, not_false_eq_true, h36, T9, h19, X405, hn, g3]
