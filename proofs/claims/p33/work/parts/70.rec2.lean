/-! ===== the parts, one by one ===== -/
theorem r_FC {a b : TS} (h : R0 a b) : FxC a := h.1
theorem r_FR {a b : TS} (h : R0 a b) : FxR b := h.2.1
theorem r_B {a b : TS} (h : R0 a b) : RB a b := h.2.2.1
theorem r_S {a b : TS} (h : R0 a b) : RS a b := h.2.2.2.1
theorem r_M {a b : TS} (h : R0 a b) : RM a b := h.2.2.2.2.1
theorem r_W {a b : TS} (h : R0 a b) : RW a b := h.2.2.2.2.2.1
theorem r_V {a b : TS} (h : R0 a b) : RV a b := h.2.2.2.2.2.2.1
theorem r_C {a b : TS} (h : R0 a b) : RC a b := h.2.2.2.2.2.2.2.1
theorem r_D {a b : TS} (h : R0 a b) : RD a b := h.2.2.2.2.2.2.2.2.1
theorem r_E {a b : TS} (h : R0 a b) : RE a b := h.2.2.2.2.2.2.2.2.2.1
theorem r_P {a b : TS} (h : R0 a b) : RP a b := h.2.2.2.2.2.2.2.2.2.2.1
theorem r_Q {a b : TS} (h : R0 a b) : RQ a b := h.2.2.2.2.2.2.2.2.2.2.2.1
theorem r_H {a b : TS} (h : R0 a b) : RH a b := h.2.2.2.2.2.2.2.2.2.2.2.2.1
theorem r_K {a b : TS} (h : R0 a b) : RK a b := h.2.2.2.2.2.2.2.2.2.2.2.2.2.1
theorem r_G {a b : TS} (h : R0 a b) : RG a b := h.2.2.2.2.2.2.2.2.2.2.2.2.2.2.1
theorem r_O {a b : TS} (h : R0 a b) : RO a b := h.2.2.2.2.2.2.2.2.2.2.2.2.2.2.2.1
theorem r_Z {a b : TS} (h : R0 a b) : RZ a b := h.2.2.2.2.2.2.2.2.2.2.2.2.2.2.2.2
/-! ===== stamps tell shops and sorts apart ===== -/
theorem lmodM (x : Int64) : (lmod x 999983).toInt = x.toInt.tmod 999983 := by
  unfold lmod
  have e : (999983 : Int64).toInt = 999983 := by decide
  have h1 := Int.tmod_lt_of_pos x.toInt (b := 999983) (by decide)
  have h2 := Int.lt_tmod_of_pos x.toInt (b := 999983) (by decide)
  have h3 : x.toInt.tdiv 999983 * 999983 = x.toInt - x.toInt.tmod 999983 := by
    have := Int.tdiv_mul_add_tmod x.toInt 999983
    omega
  have b1 := Int64.le_toInt x
  have b2 := Int64.toInt_lt x
  have sg : (0 ≤ x.toInt → 0 ≤ x.toInt.tmod 999983) ∧ (x.toInt ≤ 0 → x.toInt.tmod 999983 ≤ 0) := by
    refine ⟨fun h => Int.tmod_nonneg 999983 h, fun h => ?_⟩
    have := Int.tmod_nonneg (a := -x.toInt) 999983 (by omega)
    rw [Int.neg_tmod] at this
    omega
  rw [Int64.toInt_sub, Int64.toInt_mul, Int64.toInt_div, e]
  have h4 : (x.toInt.tdiv 999983).bmod (2 ^ 64) = x.toInt.tdiv 999983 := Int.bmod_eq_of_le (by omega) (by omega)
  rw [h4, h3, Int.bmod_eq_of_le (n := x.toInt - x.toInt.tmod 999983) (by omega) (by omega)]
  rw [Int.bmod_eq_of_le (by omega) (by omega)]
  omega
theorem lmodB (x : Int64) : -999983 < (lmod x 999983).toInt ∧ (lmod x 999983).toInt < 999983 := by
  rw [lmodM]
  exact ⟨Int.lt_tmod_of_pos _ (by decide), Int.tmod_lt_of_pos _ (by decide)⟩
theorem lmodS (y : Int64) (k : Nat) (hy : -999983 < y.toInt ∧ y.toInt < 999983) (hk : k < 10) : (lmod (y * 37 + (Int32.ofNat k).toInt64 + 11) 999983).toInt = (y.toInt * 37 + k + 11).tmod 999983 := by
  rw [lmodM]
  have e1 : (37 : Int64).toInt = 37 := by decide
  have e2 : (11 : Int64).toInt = 11 := by decide
  have e3 : (Int32.ofNat k).toInt64.toInt = k := by rw [Int32.toInt_toInt64, Int32.toInt_ofNat_of_lt (by omega)]
  rw [Int64.toInt_add, Int64.toInt_add, Int64.toInt_mul, e1, e2, e3]
  rw [Int.bmod_eq_of_le (n := y.toInt * 37) (by omega) (by omega), Int.bmod_eq_of_le (n := y.toInt * 37 + k) (by omega) (by omega), Int.bmod_eq_of_le (by omega) (by omega)]
theorem stp_inj {key : Int64} {c m : Int32} {s s' t t' : Nat} (hs : s < 4) (hs' : s' < 4) (ht : t < 4) (ht' : t' < 4) (h : stp key c m (Int32.ofNat s) (Int32.ofNat t) = stp key c m (Int32.ofNat s') (Int32.ofNat t')) : s = s' ∧ t = t' := by
  unfold stp at h
  generalize hX : lmod (lmod (key * 37 + c.toInt64 + 11) 999983 * 37 + m.toInt64 + 11) 999983 = X at h
  have bX : -999983 < X.toInt ∧ X.toInt < 999983 := by rw [← hX]; exact lmodB _
  have h := congrArg Int32.toInt h
  rw [Int64.toInt_toInt32, Int64.toInt_toInt32] at h
  have b1 := lmodB (X * 37 + (Int32.ofNat s).toInt64 + 11)
  have b2 := lmodB (X * 37 + (Int32.ofNat s').toInt64 + 11)
  have b3 := lmodB (lmod (X * 37 + (Int32.ofNat s).toInt64 + 11) 999983 * 37 + (Int32.ofNat t).toInt64 + 11)
  have b4 := lmodB (lmod (X * 37 + (Int32.ofNat s').toInt64 + 11) 999983 * 37 + (Int32.ofNat t').toInt64 + 11)
  rw [Int.bmod_eq_of_le (by omega) (by omega), Int.bmod_eq_of_le (by omega) (by omega)] at h
  rw [lmodS _ _ b1 (by omega), lmodS _ _ b2 (by omega)] at h
  rw [lmodS _ _ bX (by omega)] at h b1
  rw [lmodS _ _ bX (by omega)] at h b2
  have d1 := Int.tdiv_mul_add_tmod (X.toInt * 37 + s + 11) 999983
  have d2 := Int.tdiv_mul_add_tmod (X.toInt * 37 + s' + 11) 999983
  generalize (X.toInt * 37 + s + 11).tmod 999983 = Y at *
  generalize (X.toInt * 37 + s' + 11).tmod 999983 = Y' at *
  have d3 := Int.tdiv_mul_add_tmod (Y * 37 + t + 11) 999983
  have d4 := Int.tdiv_mul_add_tmod (Y' * 37 + t' + 11) 999983
  rw [h] at d3
  generalize (Y' * 37 + t' + 11).tmod 999983 = W at *
  generalize (Y * 37 + t + 11).tdiv 999983 = q1 at *
  generalize (Y' * 37 + t' + 11).tdiv 999983 = q2 at *
  generalize (X.toInt * 37 + s + 11).tdiv 999983 = q3 at *
  generalize (X.toInt * 37 + s' + 11).tdiv 999983 = q4 at *
  generalize X.toInt = x at *
  clear h hX bX b1 b2 b3 b4
  have u : 37 * ((s : Int) - s') + ((t : Int) - t') = 999983 * (q1 - q2 + 37 * (q3 - q4)) := by omega
  generalize q1 - q2 + 37 * (q3 - q4) = w at u
  have w0 : w = 0 := by omega
  rw [w0] at u
  omega

/-! ===== a RECORD is heard ===== -/
theorem sI_self (m : TS) (s i k : Nat) {v : Int32} (h : tI m s i k = v) : sI m s i k v = m := by
  refine Prod.ext ?_ rfl
  funext s' i' k'
  show (if s' = s ∧ i' = i ∧ k' = k then v else tI m s' i' k') = _
  split
  · rename_i e
    rw [e.1, e.2.1, e.2.2]
    exact h.symm
  · rfl
def rejA (a : TS) (j : Nat) : TS := sI (sI a 30 0 4 (if tI a 4 j 6 = 0 then tI a 30 0 4 + 1 else tI a 30 0 4 + 0)) 4 j 6 1
def rejB (b : TS) (j : Nat) : TS := if tI b 61 j 10 = 0 then sI (sI b 61 j 10 1) 94 0 13 (tI b 94 0 13 + 1) else b
theorem x22_rej {a : TS} {z : Hp} {j cd : Nat} (v1 v3 : Option (Nat × Nat)) {v5 s0 : Int32} (hF : FxC a) (hj : j < tN a 4) (h : v5 = 0 ∨ (¬ v5 = 0 ∧ s0 = 0)) :
    Ru 22 93 [(0, aR (some (30, 0))), (1, aR v1), (2, aR (some (4, j))), (3, aR v3), (4, aR (some (37, cd))), (5, aI v5)] [aI s0] (enc 1 a z) = some (.inl none, enc 1 (rejA a j) z) := by
  rw [lf_22_93]
  unfold rejA
  by_cases e : tI a 4 j 6 = 0
  · rcases h with h | ⟨h, h'⟩
    · simp (config := {decide := true}) only [gfI_enc, gfL_enc, gfR_enc, pfI_enc, pfL_enc, pfR_enc, Option.bind_some, cI_v, cL_v, cF_v, cD_v, cR_v, cV_v, cI_x, cL_x, cR_x, cV_x, gz_0, gz_1, acc_enc, tI_sI, tL_sI, tR_sI, tN_sI, tZ_sI, tC_sI, tc_sI, tz_sI, tI_sL, tL_sL, tR_sL, tN_sL, tZ_sL, tC_sL, tc_sL, tz_sL, tI_sR, tL_sR, tR_sR, tN_sR, tZ_sR, tC_sR, tc_sR, tz_sR, tI_sZ, tL_sZ, tR_sZ, tN_sZ, tZ_sZ, tC_sZ, tc_sZ, tz_sZ, tI_sC, tL_sC, tR_sC, tN_sC, tZ_sC, tC_sC, tc_sC, tz_sC, tI_aC, tL_aC, tR_aC, tN_aC, tZ_aC, tC_aC, tc_aC, tz_aC, tI_rmL, tL_rmL, tR_rmL, tN_rmL, tZ_rmL, tC_rmL, tc_rmL, tz_rmL, tI_mk, tL_mk, tR_mk, tN_mk, tZ_mk, tC_mk, tc_mk, tz_mk, tI_pushL, tL_pushL, tR_pushL, tN_pushL, tZ_pushL, tC_pushL, tc_pushL, tz_pushL, tI_pushB, tL_pushB, tR_pushB, tN_pushB, tZ_pushB, tC_pushB, tc_pushB, tz_pushB, tI_cpL, tL_cpL, tR_cpL, tN_cpL, tZ_cpL, tC_cpL, tc_cpL, tz_cpL, eq_self, true_and, and_true, false_and, and_false, if_true, if_false, reduceIte, ite_true, ite_false, not_true_eq_false, not_false_eq_true, hj, fcN_30 hF, h, e, reduceCtorEq]
    · simp (config := {decide := true}) only [gfI_enc, gfL_enc, gfR_enc, pfI_enc, pfL_enc, pfR_enc, Option.bind_some, cI_v, cL_v, cF_v, cD_v, cR_v, cV_v, cI_x, cL_x, cR_x, cV_x, gz_0, gz_1, acc_enc, tI_sI, tL_sI, tR_sI, tN_sI, tZ_sI, tC_sI, tc_sI, tz_sI, tI_sL, tL_sL, tR_sL, tN_sL, tZ_sL, tC_sL, tc_sL, tz_sL, tI_sR, tL_sR, tR_sR, tN_sR, tZ_sR, tC_sR, tc_sR, tz_sR, tI_sZ, tL_sZ, tR_sZ, tN_sZ, tZ_sZ, tC_sZ, tc_sZ, tz_sZ, tI_sC, tL_sC, tR_sC, tN_sC, tZ_sC, tC_sC, tc_sC, tz_sC, tI_aC, tL_aC, tR_aC, tN_aC, tZ_aC, tC_aC, tc_aC, tz_aC, tI_rmL, tL_rmL, tR_rmL, tN_rmL, tZ_rmL, tC_rmL, tc_rmL, tz_rmL, tI_mk, tL_mk, tR_mk, tN_mk, tZ_mk, tC_mk, tc_mk, tz_mk, tI_pushL, tL_pushL, tR_pushL, tN_pushL, tZ_pushL, tC_pushL, tc_pushL, tz_pushL, tI_pushB, tL_pushB, tR_pushB, tN_pushB, tZ_pushB, tC_pushB, tc_pushB, tz_pushB, tI_cpL, tL_cpL, tR_cpL, tN_cpL, tZ_cpL, tC_cpL, tc_cpL, tz_cpL, eq_self, true_and, and_true, false_and, and_false, if_true, if_false, reduceIte, ite_true, ite_false, not_true_eq_false, not_false_eq_true, hj, fcN_30 hF, h, h', e, reduceCtorEq]
  · rcases h with h | ⟨h, h'⟩
    · simp (config := {decide := true}) only [gfI_enc, gfL_enc, gfR_enc, pfI_enc, pfL_enc, pfR_enc, Option.bind_some, cI_v, cL_v, cF_v, cD_v, cR_v, cV_v, cI_x, cL_x, cR_x, cV_x, gz_0, gz_1, acc_enc, tI_sI, tL_sI, tR_sI, tN_sI, tZ_sI, tC_sI, tc_sI, tz_sI, tI_sL, tL_sL, tR_sL, tN_sL, tZ_sL, tC_sL, tc_sL, tz_sL, tI_sR, tL_sR, tR_sR, tN_sR, tZ_sR, tC_sR, tc_sR, tz_sR, tI_sZ, tL_sZ, tR_sZ, tN_sZ, tZ_sZ, tC_sZ, tc_sZ, tz_sZ, tI_sC, tL_sC, tR_sC, tN_sC, tZ_sC, tC_sC, tc_sC, tz_sC, tI_aC, tL_aC, tR_aC, tN_aC, tZ_aC, tC_aC, tc_aC, tz_aC, tI_rmL, tL_rmL, tR_rmL, tN_rmL, tZ_rmL, tC_rmL, tc_rmL, tz_rmL, tI_mk, tL_mk, tR_mk, tN_mk, tZ_mk, tC_mk, tc_mk, tz_mk, tI_pushL, tL_pushL, tR_pushL, tN_pushL, tZ_pushL, tC_pushL, tc_pushL, tz_pushL, tI_pushB, tL_pushB, tR_pushB, tN_pushB, tZ_pushB, tC_pushB, tc_pushB, tz_pushB, tI_cpL, tL_cpL, tR_cpL, tN_cpL, tZ_cpL, tC_cpL, tc_cpL, tz_cpL, eq_self, true_and, and_true, false_and, and_false, if_true, if_false, reduceIte, ite_true, ite_false, not_true_eq_false, not_false_eq_true, hj, fcN_30 hF, h, e, reduceCtorEq]
    · simp (config := {decide := true}) only [gfI_enc, gfL_enc, gfR_enc, pfI_enc, pfL_enc, pfR_enc, Option.bind_some, cI_v, cL_v, cF_v, cD_v, cR_v, cV_v, cI_x, cL_x, cR_x, cV_x, gz_0, gz_1, acc_enc, tI_sI, tL_sI, tR_sI, tN_sI, tZ_sI, tC_sI, tc_sI, tz_sI, tI_sL, tL_sL, tR_sL, tN_sL, tZ_sL, tC_sL, tc_sL, tz_sL, tI_sR, tL_sR, tR_sR, tN_sR, tZ_sR, tC_sR, tc_sR, tz_sR, tI_sZ, tL_sZ, tR_sZ, tN_sZ, tZ_sZ, tC_sZ, tc_sZ, tz_sZ, tI_sC, tL_sC, tR_sC, tN_sC, tZ_sC, tC_sC, tc_sC, tz_sC, tI_aC, tL_aC, tR_aC, tN_aC, tZ_aC, tC_aC, tc_aC, tz_aC, tI_rmL, tL_rmL, tR_rmL, tN_rmL, tZ_rmL, tC_rmL, tc_rmL, tz_rmL, tI_mk, tL_mk, tR_mk, tN_mk, tZ_mk, tC_mk, tc_mk, tz_mk, tI_pushL, tL_pushL, tR_pushL, tN_pushL, tZ_pushL, tC_pushL, tc_pushL, tz_pushL, tI_pushB, tL_pushB, tR_pushB, tN_pushB, tZ_pushB, tC_pushB, tc_pushB, tz_pushB, tI_cpL, tL_cpL, tR_cpL, tN_cpL, tZ_cpL, tC_cpL, tc_cpL, tz_cpL, eq_self, true_and, and_true, false_and, and_false, if_true, if_false, reduceIte, ite_true, ite_false, not_true_eq_false, not_false_eq_true, hj, fcN_30 hF, h, h', e, reduceCtorEq]
theorem bit_1 {x : Int32} (h : bitOk x = true) (h0 : x ≠ 0) : x = 1 := by
  unfold bitOk at h
  have h := of_decide_eq_true h
  have h2 := congrArg (fun y : Int32 => y.toBitVec) h
  rcases x with ⟨⟨x⟩⟩
  have h3 : x &&& 1#32 = x := h2
  have h4 : x ≠ 0#32 := fun e => h0 (by rw [e]; rfl)
  have h5 : x = 1#32 := by
    have := BitVec.toNat_eq.mp h3
    rw [BitVec.toNat_and] at this
    have q : x.toNat &&& 1 = x.toNat := this
    rw [Nat.and_one_is_mod] at q
    have q2 : x.toNat ≠ 0 := fun e => h4 (BitVec.eq_of_toNat_eq e)
    exact BitVec.eq_of_toNat_eq (show x.toNat = 1 by omega)
  rw [h5]
  rfl
theorem rej_R {a b : TS} {n j j' : Nat} (hR : R0 a b) (hn : n < 1000) (h1 : tR a 3 0 n = some (4, j)) (h2 : tR b 53 0 n = some (61, j')) : R0 (rejA a j) (rejB b j') ∧ chF [4] [(30, 4)] a (rejA a j) ∧ chF [61] [(94, 13)] b (rejB b j') ∧ Wr a (rejA a j) ∧ Wr b (rejB b j') := by
  have KN := (r_K hR).2.2 n hn
  obtain ⟨-, ⟨-, -, q6, q6', -⟩, -⟩ := KN
  rw [kI_at h1, hI_at h2] at q6
  rw [hI_at h2] at q6'
  unfold rejA rejB
  by_cases e : tI b 61 j' 10 = 0
  · rw [if_pos e, if_pos (q6.trans e)]
    have ha : chF [4] [(30, 4)] a (sI (sI a 30 0 4 (tI a 30 0 4 + 1)) 4 j 6 1) := chF_I (by simp) (chF_I (by simp) (chF_r _ _ _))
    have hb : chF [61] [(94, 13)] b (sI (sI b 61 j' 10 1) 94 0 13 (tI b 94 0 13 + 1)) := chF_I (by simp) (chF_I (by simp) (chF_r _ _ _))
    have wa : Wr a (sI (sI a 30 0 4 (tI a 30 0 4 + 1)) 4 j 6 1) := ((Wr.rf a).cI _ _ _ _).cI _ _ _ _
    have wb : Wr b (sI (sI b 61 j' 10 1) 94 0 13 (tI b 94 0 13 + 1)) := ((Wr.rf b).cI _ _ _ _).cI _ _ _ _
    refine ⟨?_, ha, hb, wa, wb⟩
    obtain ⟨hFC, hFR, hB, hS, hM, hW, hV, hC, hD, hE, hP, hQ, hH, hK, hG, hO, hZ⟩ := hR
    have c1 : chF [] [(30, 4)] a (sI a 30 0 4 (tI a 30 0 4 + 1)) := chF_I (by simp) (chF_r _ _ _)
    have c2 : chF [] [(94, 13)] b (sI b 94 0 13 (tI b 94 0 13 + 1)) := chF_I (by simp) (chF_r _ _ _)
    have hK1 : RK (sI a 30 0 4 (tI a 30 0 4 + 1)) (sI b 94 0 13 (tI b 94 0 13 + 1)) := RK_c hK c1 c2 (by decide) (by decide) (gro_c c1 (by decide)) (gro_c c1 (by decide)) (gro_c c1 (by decide)) (gro_c c1 (by decide))
    have hK2 := flag6_R hK1 hn h1 h2
    have sw : sI (sI b 94 0 13 (tI b 94 0 13 + 1)) 61 j' 10 1 = sI (sI b 61 j' 10 1) 94 0 13 (tI b 94 0 13 + 1) := by
      refine Prod.ext ?_ rfl
      funext s' i' k'
      show (if s' = 61 ∧ i' = j' ∧ k' = 10 then 1 else if s' = 94 ∧ i' = 0 ∧ k' = 13 then tI b 94 0 13 + 1 else tI b s' i' k') = (if s' = 94 ∧ i' = 0 ∧ k' = 13 then tI b 94 0 13 + 1 else if s' = 61 ∧ i' = j' ∧ k' = 10 then 1 else tI b s' i' k')
      by_cases e1 : s' = 61
      · subst e1
        simp (config := {decide := true}) only [false_and, if_false]
      · rw [if_neg (c := s' = 61 ∧ i' = j' ∧ k' = 10) (fun q => e1 q.1), if_neg (c := s' = 61 ∧ i' = j' ∧ k' = 10) (fun q => e1 q.1)]
    rw [sw] at hK2
    have w8 : ∀ n', n' < 1000 → ∀ f, f ≠ 10 → hI (sI (sI b 61 j' 10 1) 94 0 13 (tI b 94 0 13 + 1)) n' f = hI b n' f := fun n' hn' f hf => by
      rw [hI_o (by decide), hI_sI hK.2.1 hn h2 _ _ hn', if_neg (fun q => hf q.2)]
    have w64 : ∀ n' f, n' < 1000 → hA (sI (sI b 61 j' 10 1) 94 0 13 (tI b 94 0 13 + 1)) n' 64 f = hA b n' 64 f := fun n' f _ => by
      rw [hA_o _ (by decide), hA_o _ (by decide)]
    have hO' : RO (sI (sI a 30 0 4 (tI a 30 0 4 + 1)) 4 j 6 1) (sI (sI b 61 j' 10 1) 94 0 13 (tI b 94 0 13 + 1)) := by
      obtain ⟨o1, o2, o3, o4⟩ := hO
      refine ⟨fun cd c g1 g2 => ?_, fun n' hn' q => ?_, o3, ?_⟩
      · rcases o1 cd c g1 g2 with g | ⟨n', y1, y2, y3, y4, y5⟩
        · left
          simp (config := {decide := true}) only [gfI_enc, gfL_enc, gfR_enc, pfI_enc, pfL_enc, pfR_enc, Option.bind_some, cI_v, cL_v, cF_v, cD_v, cR_v, cV_v, cI_x, cL_x, cR_x, cV_x, gz_0, gz_1, acc_enc, tI_sI, tL_sI, tR_sI, tN_sI, tZ_sI, tC_sI, tc_sI, tz_sI, tI_sL, tL_sL, tR_sL, tN_sL, tZ_sL, tC_sL, tc_sL, tz_sL, tI_sR, tL_sR, tR_sR, tN_sR, tZ_sR, tC_sR, tc_sR, tz_sR, tI_sZ, tL_sZ, tR_sZ, tN_sZ, tZ_sZ, tC_sZ, tc_sZ, tz_sZ, tI_sC, tL_sC, tR_sC, tN_sC, tZ_sC, tC_sC, tc_sC, tz_sC, tI_aC, tL_aC, tR_aC, tN_aC, tZ_aC, tC_aC, tc_aC, tz_aC, tI_rmL, tL_rmL, tR_rmL, tN_rmL, tZ_rmL, tC_rmL, tc_rmL, tz_rmL, tI_mk, tL_mk, tR_mk, tN_mk, tZ_mk, tC_mk, tc_mk, tz_mk, tI_pushL, tL_pushL, tR_pushL, tN_pushL, tZ_pushL, tC_pushL, tc_pushL, tz_pushL, tI_pushB, tL_pushB, tR_pushB, tN_pushB, tZ_pushB, tC_pushB, tc_pushB, tz_pushB, tI_cpL, tL_cpL, tR_cpL, tN_cpL, tZ_cpL, tC_cpL, tc_cpL, tz_cpL, eq_self, true_and, and_true, false_and, and_false, if_true, if_false, reduceIte, ite_true, ite_false, not_true_eq_false, not_false_eq_true]
          exact g
        · refine Or.inr ⟨n', y1, ?_, by rw [w8 n' y1 8 (by decide)]; exact y3, by rw [w64 n' 0 y1]; exact y4, by rw [w64 n' 1 y1]; exact y5⟩
          simp (config := {decide := true}) only [gfI_enc, gfL_enc, gfR_enc, pfI_enc, pfL_enc, pfR_enc, Option.bind_some, cI_v, cL_v, cF_v, cD_v, cR_v, cV_v, cI_x, cL_x, cR_x, cV_x, gz_0, gz_1, acc_enc, tI_sI, tL_sI, tR_sI, tN_sI, tZ_sI, tC_sI, tc_sI, tz_sI, tI_sL, tL_sL, tR_sL, tN_sL, tZ_sL, tC_sL, tc_sL, tz_sL, tI_sR, tL_sR, tR_sR, tN_sR, tZ_sR, tC_sR, tc_sR, tz_sR, tI_sZ, tL_sZ, tR_sZ, tN_sZ, tZ_sZ, tC_sZ, tc_sZ, tz_sZ, tI_sC, tL_sC, tR_sC, tN_sC, tZ_sC, tC_sC, tc_sC, tz_sC, tI_aC, tL_aC, tR_aC, tN_aC, tZ_aC, tC_aC, tc_aC, tz_aC, tI_rmL, tL_rmL, tR_rmL, tN_rmL, tZ_rmL, tC_rmL, tc_rmL, tz_rmL, tI_mk, tL_mk, tR_mk, tN_mk, tZ_mk, tC_mk, tc_mk, tz_mk, tI_pushL, tL_pushL, tR_pushL, tN_pushL, tZ_pushL, tC_pushL, tc_pushL, tz_pushL, tI_pushB, tL_pushB, tR_pushB, tN_pushB, tZ_pushB, tC_pushB, tc_pushB, tz_pushB, tI_cpL, tL_cpL, tR_cpL, tN_cpL, tZ_cpL, tC_cpL, tc_cpL, tz_cpL, eq_self, true_and, and_true, false_and, and_false, if_true, if_false, reduceIte, ite_true, ite_false, not_true_eq_false, not_false_eq_true]
          exact y2
      · rw [w8 n' hn' 8 (by decide)] at q
        obtain ⟨cd, c, g1, g2, g3, g4, g5⟩ := o2 n' hn' q
        refine ⟨cd, c, g1, g2, by rw [w64 n' 0 hn']; exact g3, by rw [w64 n' 1 hn']; exact g4, ?_⟩
        simp (config := {decide := true}) only [gfI_enc, gfL_enc, gfR_enc, pfI_enc, pfL_enc, pfR_enc, Option.bind_some, cI_v, cL_v, cF_v, cD_v, cR_v, cV_v, cI_x, cL_x, cR_x, cV_x, gz_0, gz_1, acc_enc, tI_sI, tL_sI, tR_sI, tN_sI, tZ_sI, tC_sI, tc_sI, tz_sI, tI_sL, tL_sL, tR_sL, tN_sL, tZ_sL, tC_sL, tc_sL, tz_sL, tI_sR, tL_sR, tR_sR, tN_sR, tZ_sR, tC_sR, tc_sR, tz_sR, tI_sZ, tL_sZ, tR_sZ, tN_sZ, tZ_sZ, tC_sZ, tc_sZ, tz_sZ, tI_sC, tL_sC, tR_sC, tN_sC, tZ_sC, tC_sC, tc_sC, tz_sC, tI_aC, tL_aC, tR_aC, tN_aC, tZ_aC, tC_aC, tc_aC, tz_aC, tI_rmL, tL_rmL, tR_rmL, tN_rmL, tZ_rmL, tC_rmL, tc_rmL, tz_rmL, tI_mk, tL_mk, tR_mk, tN_mk, tZ_mk, tC_mk, tc_mk, tz_mk, tI_pushL, tL_pushL, tR_pushL, tN_pushL, tZ_pushL, tC_pushL, tc_pushL, tz_pushL, tI_pushB, tL_pushB, tR_pushB, tN_pushB, tZ_pushB, tC_pushB, tc_pushB, tz_pushB, tI_cpL, tL_cpL, tR_cpL, tN_cpL, tZ_cpL, tC_cpL, tc_cpL, tz_cpL, eq_self, true_and, and_true, false_and, and_false, if_true, if_false, reduceIte, ite_true, ite_false, not_true_eq_false, not_false_eq_true]
        exact g5
      · simp (config := {decide := true}) only [gfI_enc, gfL_enc, gfR_enc, pfI_enc, pfL_enc, pfR_enc, Option.bind_some, cI_v, cL_v, cF_v, cD_v, cR_v, cV_v, cI_x, cL_x, cR_x, cV_x, gz_0, gz_1, acc_enc, tI_sI, tL_sI, tR_sI, tN_sI, tZ_sI, tC_sI, tc_sI, tz_sI, tI_sL, tL_sL, tR_sL, tN_sL, tZ_sL, tC_sL, tc_sL, tz_sL, tI_sR, tL_sR, tR_sR, tN_sR, tZ_sR, tC_sR, tc_sR, tz_sR, tI_sZ, tL_sZ, tR_sZ, tN_sZ, tZ_sZ, tC_sZ, tc_sZ, tz_sZ, tI_sC, tL_sC, tR_sC, tN_sC, tZ_sC, tC_sC, tc_sC, tz_sC, tI_aC, tL_aC, tR_aC, tN_aC, tZ_aC, tC_aC, tc_aC, tz_aC, tI_rmL, tL_rmL, tR_rmL, tN_rmL, tZ_rmL, tC_rmL, tc_rmL, tz_rmL, tI_mk, tL_mk, tR_mk, tN_mk, tZ_mk, tC_mk, tc_mk, tz_mk, tI_pushL, tL_pushL, tR_pushL, tN_pushL, tZ_pushL, tC_pushL, tc_pushL, tz_pushL, tI_pushB, tL_pushB, tR_pushB, tN_pushB, tZ_pushB, tC_pushB, tc_pushB, tz_pushB, tI_cpL, tL_cpL, tR_cpL, tN_cpL, tZ_cpL, tC_cpL, tc_cpL, tz_cpL, eq_self, true_and, and_true, false_and, and_false, if_true, if_false, reduceIte, ite_true, ite_false, not_true_eq_false, not_false_eq_true]
        rw [o4]
    have hZ' : RZ (sI (sI a 30 0 4 (tI a 30 0 4 + 1)) 4 j 6 1) (sI (sI b 61 j' 10 1) 94 0 13 (tI b 94 0 13 + 1)) := RZ_v hZ (fun n' hn' => w8 n' hn' 8 (by decide)) w64 (fun n' hn' => w8 n' hn' 14 (by decide)) (fun _ _ => rfl) (dIS ha (S := [7]) (P := []) (by decide) (by simp)) (dIS hb (S := [87]) (P := []) (by decide) (by simp)) rfl rfl
    have hK := hK2
    exact ⟨FxC_s hFC wa ha (by decide), FxR_s hFR wb hb (by decide), RB_c hB ha hb (by decide) (by decide), RS_c hS ha hb (by decide) (by decide), RM_c hM ha hb (by decide) (by decide), RW_c hW ha hb (by decide) (by decide), RV_c hV ha hb (by decide) (by decide), RC_c hC ha hb (by decide) (by decide), RD_c hD ha hb (by decide) (by decide), RE_c hE ha hb (by decide) (by decide), RP_c hP ha hb (by decide) (by decide), RQ_c hQ ha hb (by decide) (by decide), RH_c hH ha hb (by decide) (by decide), hK2, RG_c hG ha hb (by decide) (by decide), hO', hZ'⟩
  · have e1 := bit_1 q6' e
    have e2 : tI a 4 j 6 = 1 := q6.trans e1
    have e3 : ¬ tI a 4 j 6 = 0 := by rw [e2]; decide
    rw [if_neg e, if_neg e3, Int32.add_zero, sI_self a 30 0 4 rfl, sI_self a 4 j 6 e2]
    exact ⟨hR, chF_r _ _ _, chF_r _ _ _, Wr.rf _, Wr.rf _⟩
theorem y176 {b : TS} {z : Hp} {j' : Nat} (v1 v3 v4 v5 : Int32) (hF : FxR b) (hj : j' < tN b 61) : Ru 171 176 [(0, aR (some (94, 0))), (1, aI v1), (3, aI v3), (4, aI v4), (5, aI v5), (8, aR (some (61, j'))), (9, aI 0)] [] (enc 2 b z) = some (.inl none, enc 2 (rejB b j') z) := by
  rw [lf_171_176]
  unfold rejB
  by_cases e : tI b 61 j' 10 = 0 <;> simp (config := {decide := true}) only [gfI_enc, gfL_enc, gfR_enc, pfI_enc, pfL_enc, pfR_enc, Option.bind_some, cI_v, cL_v, cF_v, cD_v, cR_v, cV_v, cI_x, cL_x, cR_x, cV_x, gz_0, gz_1, acc_enc, tI_sI, tL_sI, tR_sI, tN_sI, tZ_sI, tC_sI, tc_sI, tz_sI, tI_sL, tL_sL, tR_sL, tN_sL, tZ_sL, tC_sL, tc_sL, tz_sL, tI_sR, tL_sR, tR_sR, tN_sR, tZ_sR, tC_sR, tc_sR, tz_sR, tI_sZ, tL_sZ, tR_sZ, tN_sZ, tZ_sZ, tC_sZ, tc_sZ, tz_sZ, tI_sC, tL_sC, tR_sC, tN_sC, tZ_sC, tC_sC, tc_sC, tz_sC, tI_aC, tL_aC, tR_aC, tN_aC, tZ_aC, tC_aC, tc_aC, tz_aC, tI_rmL, tL_rmL, tR_rmL, tN_rmL, tZ_rmL, tC_rmL, tc_rmL, tz_rmL, tI_mk, tL_mk, tR_mk, tN_mk, tZ_mk, tC_mk, tc_mk, tz_mk, tI_pushL, tL_pushL, tR_pushL, tN_pushL, tZ_pushL, tC_pushL, tc_pushL, tz_pushL, tI_pushB, tL_pushB, tR_pushB, tN_pushB, tZ_pushB, tC_pushB, tc_pushB, tz_pushB, tI_cpL, tL_cpL, tR_cpL, tN_cpL, tZ_cpL, tC_cpL, tc_cpL, tz_cpL, eq_self, true_and, and_true, false_and, and_false, if_true, if_false, reduceIte, ite_true, ite_false, not_true_eq_false, not_false_eq_true, hj, frN_94 hF, e]
