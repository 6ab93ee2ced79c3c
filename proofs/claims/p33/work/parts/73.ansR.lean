/-! ===== an ANSWER in what is known ===== -/
def ansA (a : TS) (j cd i r p : Nat) : TS :=
  let B0 := cpL (mk (sI a 37 cd 13 0) 6 0 0 15) 6 (tN a 6) (iniM 1 (Int32.ofNat p)) [2, 3, 4, 5, 6, 7, 8, 9, 10, 11, 12, 13, 14, 0, 1]
  let B1 := cpL B0 6 (tN a 6) (tI B0 10 r) [0, 1, 2, 3, 4, 5, 6, 7, 8, 9, 10, 11, 14]
  sR (sR B1 4 j 0 (some (6, tN a 6))) 4 j 1 (some (5, i))
def ansB (b : TS) (j cd c : Nat) (m rs w st told : Int32) : TS :=
  let B1 := sI (sI (sI (sI b 61 j 1 rs) 61 j 0 w) 61 j 2 0) 61 j 3 0
  let B2 := sI (sI (sI B1 62 j 0 (Int32.ofNat cd)) 62 j 1 (Int32.ofNat c)) 62 j 2 m
  sI (sI (sI B2 61 j 2 st) 61 j 3 told) 57 0 cd 0
theorem ansA_ch (a : TS) (j cd i r p : Nat) : chF [4, 6] [(37, 13)] a (ansA a j cd i r p) := by
  unfold ansA
  exact chF_R (by simp) (chF_R (by simp) (chF_cp (by simp) (chF_cp (by simp) (chF_mk (by simp) (chF_I (by simp) (chF_r _ _ _))))))
theorem ansB_ch (b : TS) (j cd c : Nat) (m rs w st told : Int32) : chF [57, 61, 62] [] b (ansB b j cd c m rs w st told) := by
  unfold ansB
  exact chF_I (by simp) (chF_I (by simp) (chF_I (by simp) (chF_I (by simp) (chF_I (by simp) (chF_I (by simp) (chF_I (by simp) (chF_I (by simp) (chF_I (by simp) (chF_I (by simp) (chF_r _ _ _))))))))))
theorem ansA_wr (a : TS) (j cd i r p : Nat) : Wr a (ansA a j cd i r p) := by
  unfold ansA
  exact Wr.cR _ _ _ _ (Wr.cR _ _ _ _ (Wr.cpL (Wr.cpL (Wr.cM _ _ _ (by decide +kernel) (by decide) (Wr.cI _ _ _ _ (Wr.rf _))) _ _ _ _) _ _ _ _))
theorem ansB_wr (b : TS) (j cd c : Nat) (m rs w st told : Int32) : Wr b (ansB b j cd c m rs w st told) := by
  unfold ansB
  exact Wr.cI _ _ _ _ (Wr.cI _ _ _ _ (Wr.cI _ _ _ _ (Wr.cI _ _ _ _ (Wr.cI _ _ _ _ (Wr.cI _ _ _ _ (Wr.cI _ _ _ _ (Wr.cI _ _ _ _ (Wr.cI _ _ _ _ (Wr.cI _ _ _ _ (Wr.rf _))))))))))
set_option maxHeartbeats 4000000 in
theorem ans_R {a b : TS} {p j j' cd c i r : Nat} {m rs w st told : Int32} (hR : R0 a b) (hp : p < 1000) (h1 : tR a 3 0 p = some (4, j)) (h2 : tR b 53 0 p = some (61, j')) (hcd : cd < tZ a 28 0) (hr : r < tN a 10) (m2 : tI a 10 r 2 = Int32.ofNat cd) (m4 : tI a 10 r 4 = Int32.ofNat c) (m5 : tI a 10 r 5 = m)
    (hi : i < tN a 5) (u0 : tI a 5 i 0 = 5) (u1 : tI a 5 i 1 = Int32.ofNat p) (u6 : tI a 5 i 6 = st) (u7 : tI a 5 i 7 = 1) (u8 : tI a 5 i 8 = w) (hw : w = 1 ∨ w = 2) (u9 : tI a 5 i 9 = rs) (u10 : tI a 5 i 10 = told) (u11 : tI a 5 i 11 = 0) (u14 : tI a 5 i 14 = 0) :
    R0 (ansA a j cd i r p) (ansB b j' cd c m rs w st told) := by
  have ha := ansA_ch a j cd i r p
  have hb := ansB_ch b j' cd c m rs w st told
  have wa := ansA_wr a j cd i r p
  have wb := ansB_wr b j' cd c m rs w st told
  obtain ⟨hFC, hFR, hB, hS, hM, hW, hV, hC, hD, hE, hP, hQ, hH, hK, hG, hO, hZ⟩ := hR
  obtain ⟨KA, KB, KN⟩ := hK
  have eR3 : ∀ k, tR (ansA a j cd i r p) 3 0 k = tR a 3 0 k := fun k => dR ha (S := [3]) (P := []) (s := 3) (by decide) (by simp) 0 k
  have eN4 : tN (ansA a j cd i r p) 4 = tN a 4 := by unfold ansA; simp (config := {decide := true}) only [gfI_enc, gfL_enc, gfR_enc, pfI_enc, pfL_enc, pfR_enc, Option.bind_some, cI_v, cL_v, cF_v, cD_v, cR_v, cV_v, cI_x, cL_x, cR_x, cV_x, gz_0, gz_1, acc_enc, tI_sI, tL_sI, tR_sI, tN_sI, tZ_sI, tC_sI, tc_sI, tz_sI, tI_sL, tL_sL, tR_sL, tN_sL, tZ_sL, tC_sL, tc_sL, tz_sL, tI_sR, tL_sR, tR_sR, tN_sR, tZ_sR, tC_sR, tc_sR, tz_sR, tI_sZ, tL_sZ, tR_sZ, tN_sZ, tZ_sZ, tC_sZ, tc_sZ, tz_sZ, tI_sC, tL_sC, tR_sC, tN_sC, tZ_sC, tC_sC, tc_sC, tz_sC, tI_aC, tL_aC, tR_aC, tN_aC, tZ_aC, tC_aC, tc_aC, tz_aC, tI_rmL, tL_rmL, tR_rmL, tN_rmL, tZ_rmL, tC_rmL, tc_rmL, tz_rmL, tI_mk, tL_mk, tR_mk, tN_mk, tZ_mk, tC_mk, tc_mk, tz_mk, tI_pushL, tL_pushL, tR_pushL, tN_pushL, tZ_pushL, tC_pushL, tc_pushL, tz_pushL, tI_pushB, tL_pushB, tR_pushB, tN_pushB, tZ_pushB, tC_pushB, tc_pushB, tz_pushB, tI_cpL, tL_cpL, tR_cpL, tN_cpL, tZ_cpL, tC_cpL, tc_cpL, tz_cpL, eq_self, true_and, and_true, false_and, and_false, if_true, if_false, reduceIte, ite_true, ite_false, not_true_eq_false, not_false_eq_true]
  have n6 : tN (ansA a j cd i r p) 6 = tN a 6 + 1 := by unfold ansA; simp (config := {decide := true}) only [gfI_enc, gfL_enc, gfR_enc, pfI_enc, pfL_enc, pfR_enc, Option.bind_some, cI_v, cL_v, cF_v, cD_v, cR_v, cV_v, cI_x, cL_x, cR_x, cV_x, gz_0, gz_1, acc_enc, tI_sI, tL_sI, tR_sI, tN_sI, tZ_sI, tC_sI, tc_sI, tz_sI, tI_sL, tL_sL, tR_sL, tN_sL, tZ_sL, tC_sL, tc_sL, tz_sL, tI_sR, tL_sR, tR_sR, tN_sR, tZ_sR, tC_sR, tc_sR, tz_sR, tI_sZ, tL_sZ, tR_sZ, tN_sZ, tZ_sZ, tC_sZ, tc_sZ, tz_sZ, tI_sC, tL_sC, tR_sC, tN_sC, tZ_sC, tC_sC, tc_sC, tz_sC, tI_aC, tL_aC, tR_aC, tN_aC, tZ_aC, tC_aC, tc_aC, tz_aC, tI_rmL, tL_rmL, tR_rmL, tN_rmL, tZ_rmL, tC_rmL, tc_rmL, tz_rmL, tI_mk, tL_mk, tR_mk, tN_mk, tZ_mk, tC_mk, tc_mk, tz_mk, tI_pushL, tL_pushL, tR_pushL, tN_pushL, tZ_pushL, tC_pushL, tc_pushL, tz_pushL, tI_pushB, tL_pushB, tR_pushB, tN_pushB, tZ_pushB, tC_pushB, tc_pushB, tz_pushB, tI_cpL, tL_cpL, tR_cpL, tN_cpL, tZ_cpL, tC_cpL, tc_cpL, tz_cpL, eq_self, true_and, and_true, false_and, and_false, if_true, if_false, reduceIte, ite_true, ite_false, not_true_eq_false, not_false_eq_true]
  have KA' : KsA (ansA a j cd i r p) := by
    unfold KsA
    simp only [eR3, eN4]
    exact KA
  have KB' : KsB (ansB b j' cd c m rs w st told) := KB
  have a4I : ∀ x f, tI (ansA a j cd i r p) 4 x f = tI a 4 x f := fun x f => by unfold ansA; simp (config := {decide := true}) only [gfI_enc, gfL_enc, gfR_enc, pfI_enc, pfL_enc, pfR_enc, Option.bind_some, cI_v, cL_v, cF_v, cD_v, cR_v, cV_v, cI_x, cL_x, cR_x, cV_x, gz_0, gz_1, acc_enc, tI_sI, tL_sI, tR_sI, tN_sI, tZ_sI, tC_sI, tc_sI, tz_sI, tI_sL, tL_sL, tR_sL, tN_sL, tZ_sL, tC_sL, tc_sL, tz_sL, tI_sR, tL_sR, tR_sR, tN_sR, tZ_sR, tC_sR, tc_sR, tz_sR, tI_sZ, tL_sZ, tR_sZ, tN_sZ, tZ_sZ, tC_sZ, tc_sZ, tz_sZ, tI_sC, tL_sC, tR_sC, tN_sC, tZ_sC, tC_sC, tc_sC, tz_sC, tI_aC, tL_aC, tR_aC, tN_aC, tZ_aC, tC_aC, tc_aC, tz_aC, tI_rmL, tL_rmL, tR_rmL, tN_rmL, tZ_rmL, tC_rmL, tc_rmL, tz_rmL, tI_mk, tL_mk, tR_mk, tN_mk, tZ_mk, tC_mk, tc_mk, tz_mk, tI_pushL, tL_pushL, tR_pushL, tN_pushL, tZ_pushL, tC_pushL, tc_pushL, tz_pushL, tI_pushB, tL_pushB, tR_pushB, tN_pushB, tZ_pushB, tC_pushB, tc_pushB, tz_pushB, tI_cpL, tL_cpL, tR_cpL, tN_cpL, tZ_cpL, tC_cpL, tc_cpL, tz_cpL, eq_self, true_and, and_true, false_and, and_false, if_true, if_false, reduceIte, ite_true, ite_false, not_true_eq_false, not_false_eq_true]
  have a4R : ∀ x f, tR (ansA a j cd i r p) 4 x f = if x = j ∧ f = 1 then some (5, i) else if x = j ∧ f = 0 then some (6, tN a 6) else tR a 4 x f := fun x f => by unfold ansA; simp (config := {decide := true}) only [gfI_enc, gfL_enc, gfR_enc, pfI_enc, pfL_enc, pfR_enc, Option.bind_some, cI_v, cL_v, cF_v, cD_v, cR_v, cV_v, cI_x, cL_x, cR_x, cV_x, gz_0, gz_1, acc_enc, tI_sI, tL_sI, tR_sI, tN_sI, tZ_sI, tC_sI, tc_sI, tz_sI, tI_sL, tL_sL, tR_sL, tN_sL, tZ_sL, tC_sL, tc_sL, tz_sL, tI_sR, tL_sR, tR_sR, tN_sR, tZ_sR, tC_sR, tc_sR, tz_sR, tI_sZ, tL_sZ, tR_sZ, tN_sZ, tZ_sZ, tC_sZ, tc_sZ, tz_sZ, tI_sC, tL_sC, tR_sC, tN_sC, tZ_sC, tC_sC, tc_sC, tz_sC, tI_aC, tL_aC, tR_aC, tN_aC, tZ_aC, tC_aC, tc_aC, tz_aC, tI_rmL, tL_rmL, tR_rmL, tN_rmL, tZ_rmL, tC_rmL, tc_rmL, tz_rmL, tI_mk, tL_mk, tR_mk, tN_mk, tZ_mk, tC_mk, tc_mk, tz_mk, tI_pushL, tL_pushL, tR_pushL, tN_pushL, tZ_pushL, tC_pushL, tc_pushL, tz_pushL, tI_pushB, tL_pushB, tR_pushB, tN_pushB, tZ_pushB, tC_pushB, tc_pushB, tz_pushB, tI_cpL, tL_cpL, tR_cpL, tN_cpL, tZ_cpL, tC_cpL, tc_cpL, tz_cpL, eq_self, true_and, and_true, false_and, and_false, if_true, if_false, reduceIte, ite_true, ite_false, not_true_eq_false, not_false_eq_true]
  have b61 : ∀ x f, tI (ansB b j' cd c m rs w st told) 61 x f = if x = j' ∧ f = 3 then told else if x = j' ∧ f = 2 then st else if x = j' ∧ f = 0 then w else if x = j' ∧ f = 1 then rs else tI b 61 x f := fun x f => by
    unfold ansB
    simp (config := {decide := true}) only [gfI_enc, gfL_enc, gfR_enc, pfI_enc, pfL_enc, pfR_enc, Option.bind_some, cI_v, cL_v, cF_v, cD_v, cR_v, cV_v, cI_x, cL_x, cR_x, cV_x, gz_0, gz_1, acc_enc, tI_sI, tL_sI, tR_sI, tN_sI, tZ_sI, tC_sI, tc_sI, tz_sI, tI_sL, tL_sL, tR_sL, tN_sL, tZ_sL, tC_sL, tc_sL, tz_sL, tI_sR, tL_sR, tR_sR, tN_sR, tZ_sR, tC_sR, tc_sR, tz_sR, tI_sZ, tL_sZ, tR_sZ, tN_sZ, tZ_sZ, tC_sZ, tc_sZ, tz_sZ, tI_sC, tL_sC, tR_sC, tN_sC, tZ_sC, tC_sC, tc_sC, tz_sC, tI_aC, tL_aC, tR_aC, tN_aC, tZ_aC, tC_aC, tc_aC, tz_aC, tI_rmL, tL_rmL, tR_rmL, tN_rmL, tZ_rmL, tC_rmL, tc_rmL, tz_rmL, tI_mk, tL_mk, tR_mk, tN_mk, tZ_mk, tC_mk, tc_mk, tz_mk, tI_pushL, tL_pushL, tR_pushL, tN_pushL, tZ_pushL, tC_pushL, tc_pushL, tz_pushL, tI_pushB, tL_pushB, tR_pushB, tN_pushB, tZ_pushB, tC_pushB, tc_pushB, tz_pushB, tI_cpL, tL_cpL, tR_cpL, tN_cpL, tZ_cpL, tC_cpL, tc_cpL, tz_cpL, eq_self, true_and, and_true, false_and, and_false, if_true, if_false, reduceIte, ite_true, ite_false, not_true_eq_false, not_false_eq_true]
    by_cases e : x = j'
    · by_cases e3 : f = 3
      · simp only [e, e3, true_and, if_true]
      · by_cases e2 : f = 2
        · simp (config := {decide := true}) only [e, e2, true_and, if_true, if_false]
        · simp only [e, e3, e2, true_and, if_false]
    · simp only [e, false_and, if_false]
  have b62 : ∀ x f, tI (ansB b j' cd c m rs w st told) 62 x f = if x = j' ∧ f = 2 then m else if x = j' ∧ f = 1 then Int32.ofNat c else if x = j' ∧ f = 0 then Int32.ofNat cd else tI b 62 x f := fun x f => by unfold ansB; simp (config := {decide := true}) only [gfI_enc, gfL_enc, gfR_enc, pfI_enc, pfL_enc, pfR_enc, Option.bind_some, cI_v, cL_v, cF_v, cD_v, cR_v, cV_v, cI_x, cL_x, cR_x, cV_x, gz_0, gz_1, acc_enc, tI_sI, tL_sI, tR_sI, tN_sI, tZ_sI, tC_sI, tc_sI, tz_sI, tI_sL, tL_sL, tR_sL, tN_sL, tZ_sL, tC_sL, tc_sL, tz_sL, tI_sR, tL_sR, tR_sR, tN_sR, tZ_sR, tC_sR, tc_sR, tz_sR, tI_sZ, tL_sZ, tR_sZ, tN_sZ, tZ_sZ, tC_sZ, tc_sZ, tz_sZ, tI_sC, tL_sC, tR_sC, tN_sC, tZ_sC, tC_sC, tc_sC, tz_sC, tI_aC, tL_aC, tR_aC, tN_aC, tZ_aC, tC_aC, tc_aC, tz_aC, tI_rmL, tL_rmL, tR_rmL, tN_rmL, tZ_rmL, tC_rmL, tc_rmL, tz_rmL, tI_mk, tL_mk, tR_mk, tN_mk, tZ_mk, tC_mk, tc_mk, tz_mk, tI_pushL, tL_pushL, tR_pushL, tN_pushL, tZ_pushL, tC_pushL, tc_pushL, tz_pushL, tI_pushB, tL_pushB, tR_pushB, tN_pushB, tZ_pushB, tC_pushB, tc_pushB, tz_pushB, tI_cpL, tL_cpL, tR_cpL, tN_cpL, tZ_cpL, tC_cpL, tc_cpL, tz_cpL, eq_self, true_and, and_true, false_and, and_false, if_true, if_false, reduceIte, ite_true, ite_false, not_true_eq_false, not_false_eq_true]
  have b6x : ∀ s x f, ¬ s = 61 → ¬ s = 62 → ¬ s = 57 → tI (ansB b j' cd c m rs w st told) s x f = tI b s x f := fun s x f g1 g2 g3 => by unfold ansB; simp (config := {decide := true}) only [gfI_enc, gfL_enc, gfR_enc, pfI_enc, pfL_enc, pfR_enc, Option.bind_some, cI_v, cL_v, cF_v, cD_v, cR_v, cV_v, cI_x, cL_x, cR_x, cV_x, gz_0, gz_1, acc_enc, tI_sI, tL_sI, tR_sI, tN_sI, tZ_sI, tC_sI, tc_sI, tz_sI, tI_sL, tL_sL, tR_sL, tN_sL, tZ_sL, tC_sL, tc_sL, tz_sL, tI_sR, tL_sR, tR_sR, tN_sR, tZ_sR, tC_sR, tc_sR, tz_sR, tI_sZ, tL_sZ, tR_sZ, tN_sZ, tZ_sZ, tC_sZ, tc_sZ, tz_sZ, tI_sC, tL_sC, tR_sC, tN_sC, tZ_sC, tC_sC, tc_sC, tz_sC, tI_aC, tL_aC, tR_aC, tN_aC, tZ_aC, tC_aC, tc_aC, tz_aC, tI_rmL, tL_rmL, tR_rmL, tN_rmL, tZ_rmL, tC_rmL, tc_rmL, tz_rmL, tI_mk, tL_mk, tR_mk, tN_mk, tZ_mk, tC_mk, tc_mk, tz_mk, tI_pushL, tL_pushL, tR_pushL, tN_pushL, tZ_pushL, tC_pushL, tc_pushL, tz_pushL, tI_pushB, tL_pushB, tR_pushB, tN_pushB, tZ_pushB, tC_pushB, tc_pushB, tz_pushB, tI_cpL, tL_cpL, tR_cpL, tN_cpL, tZ_cpL, tC_cpL, tc_cpL, tz_cpL, eq_self, true_and, and_true, false_and, and_false, if_true, if_false, reduceIte, ite_true, ite_false, not_true_eq_false, not_false_eq_true, g1, g2, g3]
  have vI : ∀ n f, n < 1000 → kI (ansA a j cd i r p) n f = kI a n f := fun n f hn => by
    unfold kI
    rw [eR3]
    split
    · exact a4I _ _
    · rfl
  have vR : ∀ n f, n < 1000 → kR (ansA a j cd i r p) n f = if n = p ∧ f = 1 then some (5, i) else if n = p ∧ f = 0 then some (6, tN a 6) else kR a n f := fun n f hn => by
    rcases KA.1 n hn with e | ⟨j2, e1, e2⟩
    · have ne : n ≠ p := fun q => by rw [q, h1] at e; cases e
      rw [if_neg (fun q => ne q.1), if_neg (fun q => ne q.1)]
      unfold kR
      rw [eR3, e]
    · rw [kR_at (by rw [eR3]; exact e2), kR_at e2, a4R]
      simp only [kn_inj KA hp hn h1 e2]
  have wI : ∀ n f, n < 1000 → hI (ansB b j' cd c m rs w st told) n f = if n = p ∧ f = 3 then told else if n = p ∧ f = 2 then st else if n = p ∧ f = 0 then w else if n = p ∧ f = 1 then rs else hI b n f := fun n f hn => by
    rcases KB.1 n hn with e | ⟨j2, e1, e2⟩
    · have ne : n ≠ p := fun q => by rw [q, h2] at e; cases e
      rw [if_neg (fun q => ne q.1), if_neg (fun q => ne q.1), if_neg (fun q => ne q.1), if_neg (fun q => ne q.1)]
      unfold hI
      rw [show tR (ansB b j' cd c m rs w st told) 53 0 n = tR b 53 0 n from rfl, e]
    · rw [hI_at (b := ansB b j' cd c m rs w st told) e2, hI_at e2, b61]
      simp only [hn_inj KB hp hn h2 e2]
  have wA62 : ∀ n f, n < 1000 → hA (ansB b j' cd c m rs w st told) n 62 f = if n = p ∧ f = 2 then m else if n = p ∧ f = 1 then Int32.ofNat c else if n = p ∧ f = 0 then Int32.ofNat cd else hA b n 62 f := fun n f hn => by
    rcases KB.1 n hn with e | ⟨j2, e1, e2⟩
    · have ne : n ≠ p := fun q => by rw [q, h2] at e; cases e
      rw [if_neg (fun q => ne q.1), if_neg (fun q => ne q.1), if_neg (fun q => ne q.1)]
      unfold hA
      rw [show tR (ansB b j' cd c m rs w st told) 53 0 n = tR b 53 0 n from rfl, e]
    · rw [hA_at (b := ansB b j' cd c m rs w st told) e2, hA_at e2, b62]
      simp only [hn_inj KB hp hn h2 e2]
  have wAo : ∀ n u f, (u = 63 ∨ u = 64) → hA (ansB b j' cd c m rs w st told) n u f = hA b n u f := fun n u f hu => by
    unfold hA
    rw [show tR (ansB b j' cd c m rs w st told) 53 0 n = tR b 53 0 n from rfl]
    split
    · exact b6x _ _ _ (by omega) (by omega) (by omega)
    · rfl
  have oI : ∀ s x k, ¬ (s = 6 ∧ x = tN a 6) → ¬ s = 37 → tI (ansA a j cd i r p) s x k = tI a s x k := fun s x k g1 g2 => by
    have g3 : ∀ q : Prop, ¬ (s = 6 ∧ x = tN a 6 ∧ q) := fun q z => g1 ⟨z.1, z.2.1⟩
    unfold ansA
    simp (config := {decide := true}) only [gfI_enc, gfL_enc, gfR_enc, pfI_enc, pfL_enc, pfR_enc, Option.bind_some, cI_v, cL_v, cF_v, cD_v, cR_v, cV_v, cI_x, cL_x, cR_x, cV_x, gz_0, gz_1, acc_enc, tI_sI, tL_sI, tR_sI, tN_sI, tZ_sI, tC_sI, tc_sI, tz_sI, tI_sL, tL_sL, tR_sL, tN_sL, tZ_sL, tC_sL, tc_sL, tz_sL, tI_sR, tL_sR, tR_sR, tN_sR, tZ_sR, tC_sR, tc_sR, tz_sR, tI_sZ, tL_sZ, tR_sZ, tN_sZ, tZ_sZ, tC_sZ, tc_sZ, tz_sZ, tI_sC, tL_sC, tR_sC, tN_sC, tZ_sC, tC_sC, tc_sC, tz_sC, tI_aC, tL_aC, tR_aC, tN_aC, tZ_aC, tC_aC, tc_aC, tz_aC, tI_rmL, tL_rmL, tR_rmL, tN_rmL, tZ_rmL, tC_rmL, tc_rmL, tz_rmL, tI_mk, tL_mk, tR_mk, tN_mk, tZ_mk, tC_mk, tc_mk, tz_mk, tI_pushL, tL_pushL, tR_pushL, tN_pushL, tZ_pushL, tC_pushL, tc_pushL, tz_pushL, tI_pushB, tL_pushB, tR_pushB, tN_pushB, tZ_pushB, tC_pushB, tc_pushB, tz_pushB, tI_cpL, tL_cpL, tR_cpL, tN_cpL, tZ_cpL, tC_cpL, tc_cpL, tz_cpL, eq_self, true_and, and_true, false_and, and_false, if_true, if_false, reduceIte, ite_true, ite_false, not_true_eq_false, not_false_eq_true, g1, g2, g3]
  have g5 : gro a (ansA a j cd i r p) 5 := ⟨wa.N 5, fun x _ k => oI 5 x k (fun q => absurd q.1 (by decide)) (by decide)⟩
  have g6 : gro a (ansA a j cd i r p) 6 := ⟨wa.N 6, fun x hx k => oI 6 x k (fun q => by omega) (by decide)⟩
  have g7 : gro a (ansA a j cd i r p) 7 := ⟨wa.N 7, fun x _ k => oI 7 x k (fun q => absurd q.1 (by decide)) (by decide)⟩
  have g17 : gro a (ansA a j cd i r p) 17 := ⟨wa.N 17, fun x _ k => oI 17 x k (fun q => absurd q.1 (by decide)) (by decide)⟩
  have z26 : tZ (ansA a j cd i r p) 26 0 = tZ a 26 0 := dZ ha (S := [26]) (P := []) (s := 26) (by decide) (by simp) 0
  have z27 : tZ (ansA a j cd i r p) 27 0 = tZ a 27 0 := dZ ha (S := [27]) (P := []) (s := 27) (by decide) (by simp) 0
  have z28 : tZ (ansA a j cd i r p) 28 0 = tZ a 28 0 := dZ ha (S := [28]) (P := []) (s := 28) (by decide) (by simp) 0
  have z29 : tZ (ansA a j cd i r p) 29 0 = tZ a 29 0 := dZ ha (S := [29]) (P := []) (s := 29) (by decide) (by simp) 0
  have w86 : ∀ k, tI (ansB b j' cd c m rs w st told) 86 0 k = tI b 86 0 k := fun k => b6x _ _ _ (by decide) (by decide) (by decide)
  have r6 : ∀ f, f = 2 ∨ f = 4 ∨ f = 5 → tI (ansA a j cd i r p) 6 (tN a 6) f = tI a 10 r f := fun f hf => by
    unfold ansA
    rcases hf with e | e | e <;> subst e <;> simp (config := {decide := true}) only [gfI_enc, gfL_enc, gfR_enc, pfI_enc, pfL_enc, pfR_enc, Option.bind_some, cI_v, cL_v, cF_v, cD_v, cR_v, cV_v, cI_x, cL_x, cR_x, cV_x, gz_0, gz_1, acc_enc, tI_sI, tL_sI, tR_sI, tN_sI, tZ_sI, tC_sI, tc_sI, tz_sI, tI_sL, tL_sL, tR_sL, tN_sL, tZ_sL, tC_sL, tc_sL, tz_sL, tI_sR, tL_sR, tR_sR, tN_sR, tZ_sR, tC_sR, tc_sR, tz_sR, tI_sZ, tL_sZ, tR_sZ, tN_sZ, tZ_sZ, tC_sZ, tc_sZ, tz_sZ, tI_sC, tL_sC, tR_sC, tN_sC, tZ_sC, tC_sC, tc_sC, tz_sC, tI_aC, tL_aC, tR_aC, tN_aC, tZ_aC, tC_aC, tc_aC, tz_aC, tI_rmL, tL_rmL, tR_rmL, tN_rmL, tZ_rmL, tC_rmL, tc_rmL, tz_rmL, tI_mk, tL_mk, tR_mk, tN_mk, tZ_mk, tC_mk, tc_mk, tz_mk, tI_pushL, tL_pushL, tR_pushL, tN_pushL, tZ_pushL, tC_pushL, tc_pushL, tz_pushL, tI_pushB, tL_pushB, tR_pushB, tN_pushB, tZ_pushB, tC_pushB, tc_pushB, tz_pushB, tI_cpL, tL_cpL, tR_cpL, tN_cpL, tZ_cpL, tC_cpL, tc_cpL, tz_cpL, eq_self, true_and, and_true, false_and, and_false, if_true, if_false, reduceIte, ite_true, ite_false, not_true_eq_false, not_false_eq_true]
  have i6 : tN a 6 < tN (ansA a j cd i r p) 6 := by omega
  have hK' : RK (ansA a j cd i r p) (ansB b j' cd c m rs w st told) := by
    refine ⟨KA', KB', fun n hn => ?_⟩
    by_cases e : n = p
    · subst e
      obtain ⟨q1, q2, -, ⟨q4, q4', q4''⟩, ⟨q5, q5', q5''⟩⟩ := KN n hn
      have w0 : w ≠ 0 := by rcases hw with z | z <;> rw [z] <;> decide
      refine ⟨?_, ?_, ?_, ?_, ?_⟩
      · simp (config := {decide := true}) only [vI n _ hn, vR n _ hn, wI n _ hn, true_and, if_true, if_false, and_false, z26]
        exact q1
      · simp (config := {decide := true}) only [vI n _ hn, vR n _ hn, wI n _ hn, true_and, if_true, if_false, and_false]
        exact q2
      · simp (config := {decide := true}) only [vI n _ hn, vR n _ hn, wI n _ hn, wA62 n _ hn, true_and, if_true, if_false, and_false]
        refine ⟨fun z => absurd z w0, fun _ => ⟨i, tN a 6, Nat.lt_of_lt_of_le hi g5.1, i6, rfl, rfl, ?_⟩⟩
        rw [g5.2 i hi, g5.2 i hi, g5.2 i hi, g5.2 i hi, g5.2 i hi, g5.2 i hi, g5.2 i hi, g5.2 i hi, g5.2 i hi]
        exact ⟨u0, u1, u6, u7, u8, hw, u9, u10, u11, u14, (r6 2 (by omega)).trans m2, (r6 4 (by omega)).trans m4, (r6 5 (by omega)).trans m5⟩
      · simp (config := {decide := true}) only [vI n _ hn, vR n _ hn, wI n _ hn, wAo n 63 _ (Or.inl rfl), true_and, if_true, if_false, and_false]
        refine ⟨q4, q4', fun z => ?_⟩
        obtain ⟨x, i1, i2, i3⟩ := q4'' z
        refine ⟨x, Nat.lt_of_lt_of_le i1 g17.1, i2, ?_⟩
        rw [g17.2 x i1, g17.2 x i1, g17.2 x i1]
        exact i3
      · simp (config := {decide := true}) only [vI n _ hn, vR n _ hn, wI n _ hn, wAo n 64 _ (Or.inr rfl), true_and, if_true, if_false, and_false, w86, z26, z27, z28]
        refine ⟨q5, q5', fun z => ?_⟩
        obtain ⟨x, k, t, s, i1, i2, i3, i4, i5, i7⟩ := q5'' z
        refine ⟨x, k, t, s, Nat.lt_of_lt_of_le i1 g7.1, i2, i3, i4, i5, ?_⟩
        rw [g7.2 x i1, g7.2 x i1, g7.2 x i1]
        exact i7
    · refine KnR_v (KN n hn) (fun f => vI n f hn) (fun f => ?_) (fun f => ?_) (fun u f hu => ?_) z26 z27 z28 w86 g5 g6 g7 g17
      · rw [vR n f hn, if_neg (fun q => e q.1), if_neg (fun q => e q.1)]
      · rw [wI n f hn, if_neg (fun q => e q.1), if_neg (fun q => e q.1), if_neg (fun q => e q.1), if_neg (fun q => e q.1)]
      · rcases hu with q | q | q
        · subst q; rw [wA62 n f hn, if_neg (fun q => e q.1), if_neg (fun q => e q.1), if_neg (fun q => e q.1)]
        · subst q; exact wAo n 63 f (Or.inl rfl)
        · subst q; exact wAo n 64 f (Or.inr rfl)
  have hE' : RE (ansA a j cd i r p) (ansB b j' cd c m rs w st told) := by
    obtain ⟨e1, e2⟩ := hE
    have a37 : ∀ x f, tI (ansA a j cd i r p) 37 x f = if x = cd ∧ f = 13 then 0 else tI a 37 x f := fun x f => by unfold ansA; simp (config := {decide := true}) only [gfI_enc, gfL_enc, gfR_enc, pfI_enc, pfL_enc, pfR_enc, Option.bind_some, cI_v, cL_v, cF_v, cD_v, cR_v, cV_v, cI_x, cL_x, cR_x, cV_x, gz_0, gz_1, acc_enc, tI_sI, tL_sI, tR_sI, tN_sI, tZ_sI, tC_sI, tc_sI, tz_sI, tI_sL, tL_sL, tR_sL, tN_sL, tZ_sL, tC_sL, tc_sL, tz_sL, tI_sR, tL_sR, tR_sR, tN_sR, tZ_sR, tC_sR, tc_sR, tz_sR, tI_sZ, tL_sZ, tR_sZ, tN_sZ, tZ_sZ, tC_sZ, tc_sZ, tz_sZ, tI_sC, tL_sC, tR_sC, tN_sC, tZ_sC, tC_sC, tc_sC, tz_sC, tI_aC, tL_aC, tR_aC, tN_aC, tZ_aC, tC_aC, tc_aC, tz_aC, tI_rmL, tL_rmL, tR_rmL, tN_rmL, tZ_rmL, tC_rmL, tc_rmL, tz_rmL, tI_mk, tL_mk, tR_mk, tN_mk, tZ_mk, tC_mk, tc_mk, tz_mk, tI_pushL, tL_pushL, tR_pushL, tN_pushL, tZ_pushL, tC_pushL, tc_pushL, tz_pushL, tI_pushB, tL_pushB, tR_pushB, tN_pushB, tZ_pushB, tC_pushB, tc_pushB, tz_pushB, tI_cpL, tL_cpL, tR_cpL, tN_cpL, tZ_cpL, tC_cpL, tc_cpL, tz_cpL, eq_self, true_and, and_true, false_and, and_false, if_true, if_false, reduceIte, ite_true, ite_false, not_true_eq_false, not_false_eq_true]
    have b57 : ∀ f, tI (ansB b j' cd c m rs w st told) 57 0 f = if f = cd then 0 else tI b 57 0 f := fun f => by unfold ansB; simp (config := {decide := true}) only [gfI_enc, gfL_enc, gfR_enc, pfI_enc, pfL_enc, pfR_enc, Option.bind_some, cI_v, cL_v, cF_v, cD_v, cR_v, cV_v, cI_x, cL_x, cR_x, cV_x, gz_0, gz_1, acc_enc, tI_sI, tL_sI, tR_sI, tN_sI, tZ_sI, tC_sI, tc_sI, tz_sI, tI_sL, tL_sL, tR_sL, tN_sL, tZ_sL, tC_sL, tc_sL, tz_sL, tI_sR, tL_sR, tR_sR, tN_sR, tZ_sR, tC_sR, tc_sR, tz_sR, tI_sZ, tL_sZ, tR_sZ, tN_sZ, tZ_sZ, tC_sZ, tc_sZ, tz_sZ, tI_sC, tL_sC, tR_sC, tN_sC, tZ_sC, tC_sC, tc_sC, tz_sC, tI_aC, tL_aC, tR_aC, tN_aC, tZ_aC, tC_aC, tc_aC, tz_aC, tI_rmL, tL_rmL, tR_rmL, tN_rmL, tZ_rmL, tC_rmL, tc_rmL, tz_rmL, tI_mk, tL_mk, tR_mk, tN_mk, tZ_mk, tC_mk, tc_mk, tz_mk, tI_pushL, tL_pushL, tR_pushL, tN_pushL, tZ_pushL, tC_pushL, tc_pushL, tz_pushL, tI_pushB, tL_pushB, tR_pushB, tN_pushB, tZ_pushB, tC_pushB, tc_pushB, tz_pushB, tI_cpL, tL_cpL, tR_cpL, tN_cpL, tZ_cpL, tC_cpL, tc_cpL, tz_cpL, eq_self, true_and, and_true, false_and, and_false, if_true, if_false, reduceIte, ite_true, ite_false, not_true_eq_false, not_false_eq_true]
    have b58 : ∀ f, tI (ansB b j' cd c m rs w st told) 58 0 f = tI b 58 0 f := fun f => b6x _ _ _ (by decide) (by decide) (by decide)
    refine ⟨fun k hk => ?_, fun k hk => ?_⟩
    · rw [z28] at hk
      obtain ⟨k1, k2, k3, k4⟩ := e1 k hk
      rw [a37, a37, b57, b58, if_neg (c := k = cd ∧ 12 = 13) (fun q => absurd q.2 (by decide))]
      refine ⟨k1, k2, ?_⟩
      by_cases e : k = cd
      · rw [if_pos ⟨e, rfl⟩, if_pos e]
        exact ⟨rfl, by decide⟩
      · rw [if_neg (fun q => e q.1), if_neg e]
        exact ⟨k3, k4⟩
    · rw [z28] at hk
      rw [b58, b57, if_neg (by omega)]
      exact e2 k hk
  have w8 : ∀ f, (f ≠ 0 ∧ f ≠ 1 ∧ f ≠ 2 ∧ f ≠ 3) → ∀ n, n < 1000 → hI (ansB b j' cd c m rs w st told) n f = hI b n f := fun f hf n hn => by rw [wI n f hn, if_neg (fun q => hf.2.2.2 q.2), if_neg (fun q => hf.2.2.1 q.2), if_neg (fun q => hf.1 q.2), if_neg (fun q => hf.2.1 q.2)]
  have w64 : ∀ n f, n < 1000 → hA (ansB b j' cd c m rs w st told) n 64 f = hA b n 64 f := fun n f _ => wAo n 64 f (Or.inr rfl)
  have hO' : RO (ansA a j cd i r p) (ansB b j' cd c m rs w st told) := RO_v hO (w8 8 (by decide)) w64 (dIS ha (S := [2]) (P := []) (by decide) (by simp)) z28 (dIS ha (S := [30]) (P := []) (by decide) (by simp) 0 3) (dIS ha (S := [30]) (P := []) (by decide) (by simp) 0 4) (dIS hb (S := [94]) (P := []) (by decide) (by simp) 0 12) (dIS hb (S := [94]) (P := []) (by decide) (by simp) 0 13)
  have hZ' : RZ (ansA a j cd i r p) (ansB b j' cd c m rs w st told) := RZ_v hZ (w8 8 (by decide)) w64 (w8 14 (by decide)) (fun n hn => by rw [vR n 8 hn, if_neg (fun q => absurd q.2 (by decide)), if_neg (fun q => absurd q.2 (by decide))]) (dIS ha (S := [7]) (P := []) (by decide) (by simp)) (dIS hb (S := [87]) (P := []) (by decide) (by simp)) z29 (by unfold ansA; simp (config := {decide := true}) only [gfI_enc, gfL_enc, gfR_enc, pfI_enc, pfL_enc, pfR_enc, Option.bind_some, cI_v, cL_v, cF_v, cD_v, cR_v, cV_v, cI_x, cL_x, cR_x, cV_x, gz_0, gz_1, acc_enc, tI_sI, tL_sI, tR_sI, tN_sI, tZ_sI, tC_sI, tc_sI, tz_sI, tI_sL, tL_sL, tR_sL, tN_sL, tZ_sL, tC_sL, tc_sL, tz_sL, tI_sR, tL_sR, tR_sR, tN_sR, tZ_sR, tC_sR, tc_sR, tz_sR, tI_sZ, tL_sZ, tR_sZ, tN_sZ, tZ_sZ, tC_sZ, tc_sZ, tz_sZ, tI_sC, tL_sC, tR_sC, tN_sC, tZ_sC, tC_sC, tc_sC, tz_sC, tI_aC, tL_aC, tR_aC, tN_aC, tZ_aC, tC_aC, tc_aC, tz_aC, tI_rmL, tL_rmL, tR_rmL, tN_rmL, tZ_rmL, tC_rmL, tc_rmL, tz_rmL, tI_mk, tL_mk, tR_mk, tN_mk, tZ_mk, tC_mk, tc_mk, tz_mk, tI_pushL, tL_pushL, tR_pushL, tN_pushL, tZ_pushL, tC_pushL, tc_pushL, tz_pushL, tI_pushB, tL_pushB, tR_pushB, tN_pushB, tZ_pushB, tC_pushB, tc_pushB, tz_pushB, tI_cpL, tL_cpL, tR_cpL, tN_cpL, tZ_cpL, tC_cpL, tc_cpL, tz_cpL, eq_self, true_and, and_true, false_and, and_false, if_true, if_false, reduceIte, ite_true, ite_false, not_true_eq_false, not_false_eq_true])
  have hK := hK'
  exact ⟨FxC_s hFC wa ha (by decide), FxR_s hFR wb hb (by decide), RB_c hB ha hb (by decide) (by decide), RS_c hS ha hb (by decide) (by decide), RM_c hM ha hb (by decide) (by decide), RW_c hW ha hb (by decide) (by decide), RV_c hV ha hb (by decide) (by decide), RC_c hC ha hb (by decide) (by decide), RD_c hD ha hb (by decide) (by decide), hE', RP_c hP ha hb (by decide) (by decide), RQ_c hQ ha hb (by decide) (by decide), RH_c hH ha hb (by decide) (by decide), hK', RG_c hG ha hb (by decide) (by decide), hO', hZ'⟩
