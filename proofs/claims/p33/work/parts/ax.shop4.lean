/-! ===== a shop comes: what is left as it was; the reference's cells ===== -/
theorem liA_c {D : List Nat} {F : List (Nat × Nat)} {a m : TS} {sl j f c : Nat} (h : chF D F a m) (h8 : 8 ∈ D) (h9 : 9 ∈ D) (hs : sl ∈ D) : chF D F a (liA m sl j f c) := by
  unfold liA
  exact chF_t h (chF_R hs (chF_I (Or.inl hs) (chF_R hs (chF_mk h9 (chF_R hs (chF_mk h8 (chF_r _ _ _)))))))
theorem chF_Rt {D : List Nat} {F : List (Nat × Nat)} {a b : TS} {s i k : Nat} {v : Option (Nat × Nat)} (hs : s ∈ D) (h : chF D F a b) : chF D F a (sR b s i k v) := chF_t h (chF_R hs (chF_r _ _ _))
theorem chF_Mt {D : List Nat} {F : List (Nat × Nat)} {a b : TS} {s z c n : Nat} (hs : s ∈ D) (h : chF D F a b) : chF D F a (mk b s z c n) := chF_t h (chF_mk hs (chF_r _ _ _))
theorem liA_w {a m : TS} {sl j f c : Nat} (h : Wr a m) : Wr a (liA m sl j f c) := by
  unfold liA
  exact (((Wr.cM _ _ _ (by decide +kernel) (by decide) ((Wr.cM _ _ _ (by decide +kernel) (by decide) h).cR _ _ _ _)).cR _ _ _ _).cI _ _ _ _).cR _ _ _ _
theorem shA_eq {a : TS} {n : Nat} (p0 p1 : Int32) (h27 : 0 < tN a 27) (hz : tZ a 27 0 ≤ tC a 27 0) (hN : ShN a n) : chF [8, 9, 18, 19, 20, 21, 22, 27, 36] [] a (shA a n p0 p1) ∧ Wr a (shA a n p0 p1) := by
  have c0 : chF [8, 9, 18, 19, 20, 21, 22, 27, 36] [] a (shI a n p0 p1) := by
    unfold shI
    exact chF_R (by simp) (chF_I (by simp) (chF_I (by simp) (chF_I (by simp) (chF_L (by simp) (chF_L (by simp) (chF_I (by simp) (chF_I (by simp) (chF_Rt (by simp) (chF_Mt (by simp) (chF_Rt (by simp) (chF_Mt (by simp) (chF_Rt (by simp) (chF_Mt (by simp) (chF_Mt (by simp) (chF_r _ _ _)))))))))))))))
  have c1 : chF [8, 9, 18, 19, 20, 21, 22, 27, 36] [] a (shJ a n p0 p1) := by
    unfold shJ
    exact chF_Rt (by simp) (liA_c (chF_Mt (by simp) (chF_Rt (by simp) (liA_c (chF_Mt (by simp) c0) (by simp) (by simp) (by simp)))) (by simp) (by simp) (by simp))
  have w0 : Wr a (shI a n p0 p1) := by
    unfold shI
    exact ((((((((Wr.cM _ _ _ (by decide +kernel) (by decide) ((Wr.cM _ _ _ (by decide +kernel) (by decide) ((Wr.cM _ _ _ (by decide +kernel) (by decide) (Wr.cM _ _ _ (by decide +kernel) (by decide) (Wr.rf _))).cR _ _ _ _)).cR _ _ _ _)).cR _ _ _ _).cI _ _ _ _).cI _ _ _ _).cL _ _ _ _).cL _ _ _ _).cI _ _ _ _).cI _ _ _ _).cI _ _ _ _ |>.cR _ _ _ _
  have w1 : Wr a (shJ a n p0 p1) := by
    unfold shJ
    exact (liA_w (Wr.cM _ _ _ (by decide +kernel) (by decide) ((liA_w (Wr.cM _ _ _ (by decide +kernel) (by decide) w0)).cR _ _ _ _))).cR _ _ _ _
  have o27 := shJ_old hN p0 p1 27 0 (fun q => by rcases q with ⟨q, -⟩ | ⟨q, -⟩ <;> omega)
  have n27 : tN (shJ a n p0 p1) 27 = tN a 27 := by rw [shJ_N, if_neg (by decide), if_neg (by decide)]
  unfold shA
  exact ⟨chF_t c1 (chF_g (chg_pushL (by simp) (chg_r _ _))), Wr.cP _ _ _ (by decide +kernel) (by decide) (by rw [n27]; exact h27) (by rw [o27.2.2.1, o27.2.2.2.1]; exact hz) w1⟩
/-- the reference's -/
def cbD (m : TS) (cb j f d e : Nat) : TS := sR (mk (sR (mk (sR (mk m 48 3 0 3) cb j 0 (some (48, f))) 49 32 0 32) cb j 2 (some (49, d))) 50 32 0 32) cb j 3 (some (50, e))
theorem y153_74 {m : TS} {z : Hp} {j f d e : Nat} (hj : j < tN m 74) (hf : tN m 48 = f) (hd : tN m 49 = d) (he : tN m 50 = e) : Ex 153 [aR (some (74, j))] (enc 2 m z) = some (.inl none, enc 2 (cbD m 74 j f d e) z) := by
  have i3 : (3 : Int32).toNatClampNeg = 3 := rfl
  have i32 : (32 : Int32).toNatClampNeg = 32 := rfl
  refine (X_in (by decide +kernel) (hj) rfl).trans ((lf_153_0 ..).trans ?_)
  rw [X420 (by decide +kernel) hj, cV_v, nwa_enc (t := 0) (by decide +kernel) (by decide) (fun _ => rfl)]
  simp (config := {decide := true}) only [gfI_enc, gfL_enc, gfR_enc, pfI_enc, pfL_enc, pfR_enc, Option.bind_some, cI_v, cL_v, cF_v, cD_v, cR_v, cV_v, cI_x, cL_x, cR_x, cV_x, gz_0, gz_1, acc_enc, tI_sI, tL_sI, tR_sI, tN_sI, tZ_sI, tC_sI, tc_sI, tz_sI, tI_sL, tL_sL, tR_sL, tN_sL, tZ_sL, tC_sL, tc_sL, tz_sL, tI_sR, tL_sR, tR_sR, tN_sR, tZ_sR, tC_sR, tc_sR, tz_sR, tI_sZ, tL_sZ, tR_sZ, tN_sZ, tZ_sZ, tC_sZ, tc_sZ, tz_sZ, tI_sC, tL_sC, tR_sC, tN_sC, tZ_sC, tC_sC, tc_sC, tz_sC, tI_aC, tL_aC, tR_aC, tN_aC, tZ_aC, tC_aC, tc_aC, tz_aC, tI_rmL, tL_rmL, tR_rmL, tN_rmL, tZ_rmL, tC_rmL, tc_rmL, tz_rmL, tI_mk, tL_mk, tR_mk, tN_mk, tZ_mk, tC_mk, tc_mk, tz_mk, tI_pushL, tL_pushL, tR_pushL, tN_pushL, tZ_pushL, tC_pushL, tc_pushL, tz_pushL, tI_pushB, tL_pushB, tR_pushB, tN_pushB, tZ_pushB, tC_pushB, tc_pushB, tz_pushB, tI_cpL, tL_cpL, tR_cpL, tN_cpL, tZ_cpL, tC_cpL, tc_cpL, tz_cpL, eq_self, true_and, and_true, false_and, and_false, if_true, if_false, reduceIte, ite_true, ite_false, not_true_eq_false, not_false_eq_true, i3, hj, hf]
  rw [nwa_enc (t := 0) (by decide +kernel) (by decide) (fun _ => rfl)]
  simp (config := {decide := true}) only [gfI_enc, gfL_enc, gfR_enc, pfI_enc, pfL_enc, pfR_enc, Option.bind_some, cI_v, cL_v, cF_v, cD_v, cR_v, cV_v, cI_x, cL_x, cR_x, cV_x, gz_0, gz_1, acc_enc, tI_sI, tL_sI, tR_sI, tN_sI, tZ_sI, tC_sI, tc_sI, tz_sI, tI_sL, tL_sL, tR_sL, tN_sL, tZ_sL, tC_sL, tc_sL, tz_sL, tI_sR, tL_sR, tR_sR, tN_sR, tZ_sR, tC_sR, tc_sR, tz_sR, tI_sZ, tL_sZ, tR_sZ, tN_sZ, tZ_sZ, tC_sZ, tc_sZ, tz_sZ, tI_sC, tL_sC, tR_sC, tN_sC, tZ_sC, tC_sC, tc_sC, tz_sC, tI_aC, tL_aC, tR_aC, tN_aC, tZ_aC, tC_aC, tc_aC, tz_aC, tI_rmL, tL_rmL, tR_rmL, tN_rmL, tZ_rmL, tC_rmL, tc_rmL, tz_rmL, tI_mk, tL_mk, tR_mk, tN_mk, tZ_mk, tC_mk, tc_mk, tz_mk, tI_pushL, tL_pushL, tR_pushL, tN_pushL, tZ_pushL, tC_pushL, tc_pushL, tz_pushL, tI_pushB, tL_pushB, tR_pushB, tN_pushB, tZ_pushB, tC_pushB, tc_pushB, tz_pushB, tI_cpL, tL_cpL, tR_cpL, tN_cpL, tZ_cpL, tC_cpL, tc_cpL, tz_cpL, eq_self, true_and, and_true, false_and, and_false, if_true, if_false, reduceIte, ite_true, ite_false, not_true_eq_false, not_false_eq_true, i32, hj, hd]
  rw [nwa_enc (t := 4) (by decide +kernel) (by decide) (fun _ => rfl)]
  simp (config := {decide := true}) only [gfI_enc, gfL_enc, gfR_enc, pfI_enc, pfL_enc, pfR_enc, Option.bind_some, cI_v, cL_v, cF_v, cD_v, cR_v, cV_v, cI_x, cL_x, cR_x, cV_x, gz_0, gz_1, acc_enc, tI_sI, tL_sI, tR_sI, tN_sI, tZ_sI, tC_sI, tc_sI, tz_sI, tI_sL, tL_sL, tR_sL, tN_sL, tZ_sL, tC_sL, tc_sL, tz_sL, tI_sR, tL_sR, tR_sR, tN_sR, tZ_sR, tC_sR, tc_sR, tz_sR, tI_sZ, tL_sZ, tR_sZ, tN_sZ, tZ_sZ, tC_sZ, tc_sZ, tz_sZ, tI_sC, tL_sC, tR_sC, tN_sC, tZ_sC, tC_sC, tc_sC, tz_sC, tI_aC, tL_aC, tR_aC, tN_aC, tZ_aC, tC_aC, tc_aC, tz_aC, tI_rmL, tL_rmL, tR_rmL, tN_rmL, tZ_rmL, tC_rmL, tc_rmL, tz_rmL, tI_mk, tL_mk, tR_mk, tN_mk, tZ_mk, tC_mk, tc_mk, tz_mk, tI_pushL, tL_pushL, tR_pushL, tN_pushL, tZ_pushL, tC_pushL, tc_pushL, tz_pushL, tI_pushB, tL_pushB, tR_pushB, tN_pushB, tZ_pushB, tC_pushB, tc_pushB, tz_pushB, tI_cpL, tL_cpL, tR_cpL, tN_cpL, tZ_cpL, tC_cpL, tc_cpL, tz_cpL, eq_self, true_and, and_true, false_and, and_false, if_true, if_false, reduceIte, ite_true, ite_false, not_true_eq_false, not_false_eq_true, i32, hj, he]
  rfl
theorem y153_75 {m : TS} {z : Hp} {j f d e : Nat} (hj : j < tN m 75) (hf : tN m 48 = f) (hd : tN m 49 = d) (he : tN m 50 = e) : Ex 153 [aR (some (75, j))] (enc 2 m z) = some (.inl none, enc 2 (cbD m 75 j f d e) z) := by
  have i3 : (3 : Int32).toNatClampNeg = 3 := rfl
  have i32 : (32 : Int32).toNatClampNeg = 32 := rfl
  refine (X_in (by decide +kernel) (hj) rfl).trans ((lf_153_0 ..).trans ?_)
  rw [X420 (by decide +kernel) hj, cV_v, nwa_enc (t := 0) (by decide +kernel) (by decide) (fun _ => rfl)]
  simp (config := {decide := true}) only [gfI_enc, gfL_enc, gfR_enc, pfI_enc, pfL_enc, pfR_enc, Option.bind_some, cI_v, cL_v, cF_v, cD_v, cR_v, cV_v, cI_x, cL_x, cR_x, cV_x, gz_0, gz_1, acc_enc, tI_sI, tL_sI, tR_sI, tN_sI, tZ_sI, tC_sI, tc_sI, tz_sI, tI_sL, tL_sL, tR_sL, tN_sL, tZ_sL, tC_sL, tc_sL, tz_sL, tI_sR, tL_sR, tR_sR, tN_sR, tZ_sR, tC_sR, tc_sR, tz_sR, tI_sZ, tL_sZ, tR_sZ, tN_sZ, tZ_sZ, tC_sZ, tc_sZ, tz_sZ, tI_sC, tL_sC, tR_sC, tN_sC, tZ_sC, tC_sC, tc_sC, tz_sC, tI_aC, tL_aC, tR_aC, tN_aC, tZ_aC, tC_aC, tc_aC, tz_aC, tI_rmL, tL_rmL, tR_rmL, tN_rmL, tZ_rmL, tC_rmL, tc_rmL, tz_rmL, tI_mk, tL_mk, tR_mk, tN_mk, tZ_mk, tC_mk, tc_mk, tz_mk, tI_pushL, tL_pushL, tR_pushL, tN_pushL, tZ_pushL, tC_pushL, tc_pushL, tz_pushL, tI_pushB, tL_pushB, tR_pushB, tN_pushB, tZ_pushB, tC_pushB, tc_pushB, tz_pushB, tI_cpL, tL_cpL, tR_cpL, tN_cpL, tZ_cpL, tC_cpL, tc_cpL, tz_cpL, eq_self, true_and, and_true, false_and, and_false, if_true, if_false, reduceIte, ite_true, ite_false, not_true_eq_false, not_false_eq_true, i3, hj, hf]
  rw [nwa_enc (t := 0) (by decide +kernel) (by decide) (fun _ => rfl)]
  simp (config := {decide := true}) only [gfI_enc, gfL_enc, gfR_enc, pfI_enc, pfL_enc, pfR_enc, Option.bind_some, cI_v, cL_v, cF_v, cD_v, cR_v, cV_v, cI_x, cL_x, cR_x, cV_x, gz_0, gz_1, acc_enc, tI_sI, tL_sI, tR_sI, tN_sI, tZ_sI, tC_sI, tc_sI, tz_sI, tI_sL, tL_sL, tR_sL, tN_sL, tZ_sL, tC_sL, tc_sL, tz_sL, tI_sR, tL_sR, tR_sR, tN_sR, tZ_sR, tC_sR, tc_sR, tz_sR, tI_sZ, tL_sZ, tR_sZ, tN_sZ, tZ_sZ, tC_sZ, tc_sZ, tz_sZ, tI_sC, tL_sC, tR_sC, tN_sC, tZ_sC, tC_sC, tc_sC, tz_sC, tI_aC, tL_aC, tR_aC, tN_aC, tZ_aC, tC_aC, tc_aC, tz_aC, tI_rmL, tL_rmL, tR_rmL, tN_rmL, tZ_rmL, tC_rmL, tc_rmL, tz_rmL, tI_mk, tL_mk, tR_mk, tN_mk, tZ_mk, tC_mk, tc_mk, tz_mk, tI_pushL, tL_pushL, tR_pushL, tN_pushL, tZ_pushL, tC_pushL, tc_pushL, tz_pushL, tI_pushB, tL_pushB, tR_pushB, tN_pushB, tZ_pushB, tC_pushB, tc_pushB, tz_pushB, tI_cpL, tL_cpL, tR_cpL, tN_cpL, tZ_cpL, tC_cpL, tc_cpL, tz_cpL, eq_self, true_and, and_true, false_and, and_false, if_true, if_false, reduceIte, ite_true, ite_false, not_true_eq_false, not_false_eq_true, i32, hj, hd]
  rw [nwa_enc (t := 4) (by decide +kernel) (by decide) (fun _ => rfl)]
  simp (config := {decide := true}) only [gfI_enc, gfL_enc, gfR_enc, pfI_enc, pfL_enc, pfR_enc, Option.bind_some, cI_v, cL_v, cF_v, cD_v, cR_v, cV_v, cI_x, cL_x, cR_x, cV_x, gz_0, gz_1, acc_enc, tI_sI, tL_sI, tR_sI, tN_sI, tZ_sI, tC_sI, tc_sI, tz_sI, tI_sL, tL_sL, tR_sL, tN_sL, tZ_sL, tC_sL, tc_sL, tz_sL, tI_sR, tL_sR, tR_sR, tN_sR, tZ_sR, tC_sR, tc_sR, tz_sR, tI_sZ, tL_sZ, tR_sZ, tN_sZ, tZ_sZ, tC_sZ, tc_sZ, tz_sZ, tI_sC, tL_sC, tR_sC, tN_sC, tZ_sC, tC_sC, tc_sC, tz_sC, tI_aC, tL_aC, tR_aC, tN_aC, tZ_aC, tC_aC, tc_aC, tz_aC, tI_rmL, tL_rmL, tR_rmL, tN_rmL, tZ_rmL, tC_rmL, tc_rmL, tz_rmL, tI_mk, tL_mk, tR_mk, tN_mk, tZ_mk, tC_mk, tc_mk, tz_mk, tI_pushL, tL_pushL, tR_pushL, tN_pushL, tZ_pushL, tC_pushL, tc_pushL, tz_pushL, tI_pushB, tL_pushB, tR_pushB, tN_pushB, tZ_pushB, tC_pushB, tc_pushB, tz_pushB, tI_cpL, tL_cpL, tR_cpL, tN_cpL, tZ_cpL, tC_cpL, tc_cpL, tz_cpL, eq_self, true_and, and_true, false_and, and_false, if_true, if_false, reduceIte, ite_true, ite_false, not_true_eq_false, not_false_eq_true, i32, hj, he]
  rfl
theorem cbD_N (m : TS) (cb j f d e s : Nat) : tN (cbD m cb j f d e) s = if s = 48 ∨ s = 49 ∨ s = 50 then tN m s + 1 else tN m s := by
  unfold cbD
  simp only [tN_sR, tN_mk]
  by_cases e1 : s = 48
  · subst e1; simp (config := {decide := true}) only [if_true, if_false, true_or]
  by_cases e2 : s = 49
  · subst e2; simp (config := {decide := true}) only [if_true, if_false]
  by_cases e3 : s = 50
  · subst e3; simp (config := {decide := true}) only [if_true, if_false]
  simp only [e1, e2, e3, or_self, if_false]
def shB0 (b : TS) (n : Nat) (p0 p1 : Int32) : TS := sI (sI (sI (sI b 93 0 10 0) 88 0 n p0) 89 0 n p1) 93 0 7 (Int32.ofNat (n + 1))
def shB1 (m : TS) (n d e : Nat) : TS := sI (sR (cbD (mk (sR (cbD (mk m 74 0 0 4) 74 n (2 * n) d e) 65 0 (2 * n) (some (74, n))) 75 0 0 4) 75 n (2 * n + 1) (d + 1) (e + 1)) 65 0 (2 * n + 1) (some (75, n))) 95 0 9 (Int32.ofNat (n + 1))
/-- how many cables there are -/
def CbN (b : TS) (n d e : Nat) : Prop := tN b 74 = n ∧ tN b 75 = n ∧ tN b 48 = 2 * n ∧ tN b 49 = d ∧ tN b 50 = e
theorem cbD_w {a m : TS} {cb j f d e : Nat} (h : Wr a m) : Wr a (cbD m cb j f d e) := by
  unfold cbD
  exact (Wr.cM _ _ _ (by decide +kernel) (by decide) ((Wr.cM _ _ _ (by decide +kernel) (by decide) ((Wr.cM _ _ _ (by decide +kernel) (by decide) h).cR _ _ _ _)).cR _ _ _ _)).cR _ _ _ _
theorem cbD_c {D : List Nat} {F : List (Nat × Nat)} {a m : TS} {cb j f d e : Nat} (h : chF D F a m) (h8 : 48 ∈ D) (h9 : 49 ∈ D) (h0 : 50 ∈ D) (hs : cb ∈ D) : chF D F a (cbD m cb j f d e) := by
  unfold cbD
  exact chF_Rt hs (chF_Mt h0 (chF_Rt hs (chF_Mt h9 (chF_Rt hs (chF_Mt h8 h)))))
theorem shB1_eq (m : TS) (n d e : Nat) : chF [48, 49, 50, 65, 74, 75] [(95, 9)] m (shB1 m n d e) ∧ Wr m (shB1 m n d e) := by
  unfold shB1
  exact ⟨chF_I (by simp) (chF_Rt (by simp) (cbD_c (chF_Mt (by simp) (chF_Rt (by simp) (cbD_c (chF_Mt (by simp) (chF_r _ _ _)) (by simp) (by simp) (by simp) (by simp)))) (by simp) (by simp) (by simp) (by simp))),
    ((cbD_w (Wr.cM _ _ _ (by decide +kernel) (by decide) ((cbD_w (Wr.cM _ _ _ (by decide +kernel) (by decide) (Wr.rf _))).cR _ _ _ _))).cR _ _ _ _).cI _ _ _ _⟩
theorem y190s {m : TS} {z : Hp} {n d e : Nat} (hF : FxR m) (hn : n < 4) (h9 : tI m 95 0 9 = Int32.ofNat n) (hN : CbN m n d e) : Ex 190 [aR (some (95, 0))] (enc 2 m z) = some (.inl none, enc 2 (shB1 m n d e) z) := by
  obtain ⟨n74, n75, n48, n49, n50⟩ := hN
  have g1 : (Int32.ofNat (2 * n)).toNatClampNeg = 2 * n := o_ix (by omega)
  have g2 : ¬ Int32.ofNat (2 * n) < 0 := o_lt0 (by omega)
  have g3 : (Int32.ofNat (2 * n + 1)).toNatClampNeg = 2 * n + 1 := o_ix (by omega)
  have g4 : ¬ Int32.ofNat (2 * n + 1) < 0 := o_lt0 (by omega)
  have l1 : n < n + 1 := Nat.lt_succ_self n
  have i1 : 2 * n < 8 := by omega
  have i2 : 2 * n + 1 < 8 := by omega
  have ix : (2 : Int32) * Int32.ofNat n + 1 = Int32.ofNat (2 * n + 1) := by rw [← o_s, Int32.ofNat_mul]; rfl
  have hnF : nF 13 = 4 := rfl
  have n95 := frN_95 hF
  have n65 := frN_65 hF
  have r10 := frR_95_10 hF
  have z65 := frZ_65 hF
  have f1 := fun z => y153_74 (m := mk m 74 0 0 4) (z := z) (j := n) (f := 2 * n) (d := d) (e := e) (by rw [tN_mk, if_pos rfl]; omega) (by rw [tN_mk, if_neg (by decide)]; exact n48) (by rw [tN_mk, if_neg (by decide)]; exact n49) (by rw [tN_mk, if_neg (by decide)]; exact n50)
  have c1 : chF [48, 49, 50, 65, 74, 75] [] m (cbD (mk m 74 0 0 4) 74 n (2 * n) d e) := cbD_c (chF_Mt (by simp) (chF_r _ _ _)) (by simp) (by simp) (by simp) (by simp)
  have C65 : tR (cbD (mk m 74 0 0 4) 74 n (2 * n) d e) 95 0 10 = some (65, 0) := (dR c1 (S := [95]) (P := []) (s := 95) (by decide) (by simp) 0 10).trans r10
  have C9 : tI (cbD (mk m 74 0 0 4) 74 n (2 * n) d e) 95 0 9 = Int32.ofNat n := (dIS c1 (S := [95]) (P := []) (s := 95) (by decide) (by simp) 0 9).trans h9
  have CN : ∀ s, tN (cbD (mk m 74 0 0 4) 74 n (2 * n) d e) s = if s = 48 ∨ s = 49 ∨ s = 50 then tN m s + 1 else if s = 74 then tN m s + 1 else tN m s := fun s => by
    rw [cbD_N, tN_mk]
    by_cases q : s = 74
    · subst q; rfl
    · rw [if_neg q, if_neg q]
  have CZ : tZ (cbD (mk m 74 0 0 4) 74 n (2 * n) d e) 65 0 = 8 := by
    unfold cbD
    simp (config := {decide := true}) only [tZ_sR, tZ_mk, false_and, if_false]
    exact z65
  have k95 : 0 < tN (cbD (mk m 74 0 0 4) 74 n (2 * n) d e) 95 := by rw [CN, if_neg (by decide), if_neg (by decide)]; exact n95
  have k65 : 0 < tN (cbD (mk m 74 0 0 4) 74 n (2 * n) d e) 65 := by rw [CN, if_neg (by decide), if_neg (by decide)]; exact n65
  have k74 : n < tN (cbD (mk m 74 0 0 4) 74 n (2 * n) d e) 74 := by rw [CN, if_neg (by decide), if_pos rfl]; omega
  have k75 : tN (cbD (mk m 74 0 0 4) 74 n (2 * n) d e) 75 = n := by rw [CN, if_neg (by decide), if_neg (by decide)]; exact n75
  refine (X_in (by decide +kernel) (n95) rfl).trans ((lf_190_0 ..).trans ?_)
  rw [nob_enc (by decide +kernel), hnF]
  simp (config := {decide := true}) only [gfI_enc, gfL_enc, gfR_enc, pfI_enc, pfL_enc, pfR_enc, Option.bind_some, cI_v, cL_v, cF_v, cD_v, cR_v, cV_v, cI_x, cL_x, cR_x, cV_x, gz_0, gz_1, acc_enc, tI_sI, tL_sI, tR_sI, tN_sI, tZ_sI, tC_sI, tc_sI, tz_sI, tI_sL, tL_sL, tR_sL, tN_sL, tZ_sL, tC_sL, tc_sL, tz_sL, tI_sR, tL_sR, tR_sR, tN_sR, tZ_sR, tC_sR, tc_sR, tz_sR, tI_sZ, tL_sZ, tR_sZ, tN_sZ, tZ_sZ, tC_sZ, tc_sZ, tz_sZ, tI_sC, tL_sC, tR_sC, tN_sC, tZ_sC, tC_sC, tc_sC, tz_sC, tI_aC, tL_aC, tR_aC, tN_aC, tZ_aC, tC_aC, tc_aC, tz_aC, tI_rmL, tL_rmL, tR_rmL, tN_rmL, tZ_rmL, tC_rmL, tc_rmL, tz_rmL, tI_mk, tL_mk, tR_mk, tN_mk, tZ_mk, tC_mk, tc_mk, tz_mk, tI_pushL, tL_pushL, tR_pushL, tN_pushL, tZ_pushL, tC_pushL, tc_pushL, tz_pushL, tI_pushB, tL_pushB, tR_pushB, tN_pushB, tZ_pushB, tC_pushB, tc_pushB, tz_pushB, tI_cpL, tL_cpL, tR_cpL, tN_cpL, tZ_cpL, tC_cpL, tc_cpL, tz_cpL, eq_self, true_and, and_true, false_and, and_false, if_true, if_false, reduceIte, ite_true, ite_false, not_true_eq_false, not_false_eq_true, n95, r10, h9, n74, f1]
  unfold shB1
  generalize cbD (mk m 74 0 0 4) 74 n (2 * n) d e = L at *
  have hv : okV 2 L 65 (some (74, n)) := ⟨(by decide +kernel : ow 74 = 2), k74, (by decide +kernel : kd 74 < 24), (by decide +kernel : kd 65 = 1011 + kd 74)⟩
  rw [two_o]
  simp (config := {decide := true}) only [gfI_enc, gfL_enc, gfR_enc, pfI_enc, pfL_enc, pfR_enc, Option.bind_some, cI_v, cL_v, cF_v, cD_v, cR_v, cV_v, cI_x, cL_x, cR_x, cV_x, gz_0, gz_1, acc_enc, tI_sI, tL_sI, tR_sI, tN_sI, tZ_sI, tC_sI, tc_sI, tz_sI, tI_sL, tL_sL, tR_sL, tN_sL, tZ_sL, tC_sL, tc_sL, tz_sL, tI_sR, tL_sR, tR_sR, tN_sR, tZ_sR, tC_sR, tc_sR, tz_sR, tI_sZ, tL_sZ, tR_sZ, tN_sZ, tZ_sZ, tC_sZ, tc_sZ, tz_sZ, tI_sC, tL_sC, tR_sC, tN_sC, tZ_sC, tC_sC, tc_sC, tz_sC, tI_aC, tL_aC, tR_aC, tN_aC, tZ_aC, tC_aC, tc_aC, tz_aC, tI_rmL, tL_rmL, tR_rmL, tN_rmL, tZ_rmL, tC_rmL, tc_rmL, tz_rmL, tI_mk, tL_mk, tR_mk, tN_mk, tZ_mk, tC_mk, tc_mk, tz_mk, tI_pushL, tL_pushL, tR_pushL, tN_pushL, tZ_pushL, tC_pushL, tc_pushL, tz_pushL, tI_pushB, tL_pushB, tR_pushB, tN_pushB, tZ_pushB, tC_pushB, tc_pushB, tz_pushB, tI_cpL, tL_cpL, tR_cpL, tN_cpL, tZ_cpL, tC_cpL, tc_cpL, tz_cpL, eq_self, true_and, and_true, false_and, and_false, if_true, if_false, reduceIte, ite_true, ite_false, not_true_eq_false, not_false_eq_true, paR_enc, k65, g1, g2, CZ, i1, hv, k95, C65, C9]
  have f2 := fun z => y153_75 (m := mk (sR L 65 0 (2 * n) (some (74, n))) 75 0 0 4) (z := z) (j := n) (f := 2 * n + 1) (d := d + 1) (e := e + 1) (by rw [tN_mk, if_pos rfl, tN_sR]; omega) (by rw [tN_mk, if_neg (by decide), tN_sR, CN, if_pos (by decide)]; omega) (by rw [tN_mk, if_neg (by decide), tN_sR, CN, if_pos (by decide)]; omega) (by rw [tN_mk, if_neg (by decide), tN_sR, CN, if_pos (by decide)]; omega)
  rw [nob_enc (by decide +kernel), hnF]
  simp (config := {decide := true}) only [gfI_enc, gfL_enc, gfR_enc, pfI_enc, pfL_enc, pfR_enc, Option.bind_some, cI_v, cL_v, cF_v, cD_v, cR_v, cV_v, cI_x, cL_x, cR_x, cV_x, gz_0, gz_1, acc_enc, tI_sI, tL_sI, tR_sI, tN_sI, tZ_sI, tC_sI, tc_sI, tz_sI, tI_sL, tL_sL, tR_sL, tN_sL, tZ_sL, tC_sL, tc_sL, tz_sL, tI_sR, tL_sR, tR_sR, tN_sR, tZ_sR, tC_sR, tc_sR, tz_sR, tI_sZ, tL_sZ, tR_sZ, tN_sZ, tZ_sZ, tC_sZ, tc_sZ, tz_sZ, tI_sC, tL_sC, tR_sC, tN_sC, tZ_sC, tC_sC, tc_sC, tz_sC, tI_aC, tL_aC, tR_aC, tN_aC, tZ_aC, tC_aC, tc_aC, tz_aC, tI_rmL, tL_rmL, tR_rmL, tN_rmL, tZ_rmL, tC_rmL, tc_rmL, tz_rmL, tI_mk, tL_mk, tR_mk, tN_mk, tZ_mk, tC_mk, tc_mk, tz_mk, tI_pushL, tL_pushL, tR_pushL, tN_pushL, tZ_pushL, tC_pushL, tc_pushL, tz_pushL, tI_pushB, tL_pushB, tR_pushB, tN_pushB, tZ_pushB, tC_pushB, tc_pushB, tz_pushB, tI_cpL, tL_cpL, tR_cpL, tN_cpL, tZ_cpL, tC_cpL, tc_cpL, tz_cpL, eq_self, true_and, and_true, false_and, and_false, if_true, if_false, reduceIte, ite_true, ite_false, not_true_eq_false, not_false_eq_true, k75, f2]
  have c2 : chF [48, 49, 50, 74, 75] [] (sR L 65 0 (2 * n) (some (74, n))) (cbD (mk (sR L 65 0 (2 * n) (some (74, n))) 75 0 0 4) 75 n (2 * n + 1) (d + 1) (e + 1)) := cbD_c (chF_Mt (by simp) (chF_r _ _ _)) (by simp) (by simp) (by simp) (by simp)
  have E9 : tI (cbD (mk (sR L 65 0 (2 * n) (some (74, n))) 75 0 0 4) 75 n (2 * n + 1) (d + 1) (e + 1)) 95 0 9 = Int32.ofNat n := by rw [dIS c2 (S := [95]) (P := []) (s := 95) (by decide) (by simp) 0 9, tI_sR]; exact C9
  have EN : ∀ s, s ≠ 48 → s ≠ 49 → s ≠ 50 → s ≠ 75 → tN (cbD (mk (sR L 65 0 (2 * n) (some (74, n))) 75 0 0 4) 75 n (2 * n + 1) (d + 1) (e + 1)) s = tN L s := fun s h1 h2 h3 h4 => by rw [cbD_N, if_neg (by omega), tN_mk, if_neg h4, tN_sR]
  have E75 : n < tN (cbD (mk (sR L 65 0 (2 * n) (some (74, n))) 75 0 0 4) 75 n (2 * n + 1) (d + 1) (e + 1)) 75 := by rw [cbD_N, if_neg (by decide), tN_mk, if_pos rfl, tN_sR]; omega
  have EZ : tZ (cbD (mk (sR L 65 0 (2 * n) (some (74, n))) 75 0 0 4) 75 n (2 * n + 1) (d + 1) (e + 1)) 65 0 = 8 := by
    unfold cbD
    simp (config := {decide := true}) only [tZ_sR, tZ_mk, false_and, if_false]
    exact CZ
  have E95 : 0 < tN (cbD (mk (sR L 65 0 (2 * n) (some (74, n))) 75 0 0 4) 75 n (2 * n + 1) (d + 1) (e + 1)) 95 := by rw [EN 95 (by decide) (by decide) (by decide) (by decide)]; exact k95
  have E65 : 0 < tN (cbD (mk (sR L 65 0 (2 * n) (some (74, n))) 75 0 0 4) 75 n (2 * n + 1) (d + 1) (e + 1)) 65 := by rw [EN 65 (by decide) (by decide) (by decide) (by decide)]; exact k65
  generalize cbD (mk (sR L 65 0 (2 * n) (some (74, n))) 75 0 0 4) 75 n (2 * n + 1) (d + 1) (e + 1) = M at *
  have hv2 : okV 2 M 65 (some (75, n)) := ⟨(by decide +kernel : ow 75 = 2), E75, (by decide +kernel : kd 75 < 24), (by decide +kernel : kd 65 = 1011 + kd 75)⟩
  rw [ix]
  simp (config := {decide := true}) only [gfI_enc, gfL_enc, gfR_enc, pfI_enc, pfL_enc, pfR_enc, Option.bind_some, cI_v, cL_v, cF_v, cD_v, cR_v, cV_v, cI_x, cL_x, cR_x, cV_x, gz_0, gz_1, acc_enc, tI_sI, tL_sI, tR_sI, tN_sI, tZ_sI, tC_sI, tc_sI, tz_sI, tI_sL, tL_sL, tR_sL, tN_sL, tZ_sL, tC_sL, tc_sL, tz_sL, tI_sR, tL_sR, tR_sR, tN_sR, tZ_sR, tC_sR, tc_sR, tz_sR, tI_sZ, tL_sZ, tR_sZ, tN_sZ, tZ_sZ, tC_sZ, tc_sZ, tz_sZ, tI_sC, tL_sC, tR_sC, tN_sC, tZ_sC, tC_sC, tc_sC, tz_sC, tI_aC, tL_aC, tR_aC, tN_aC, tZ_aC, tC_aC, tc_aC, tz_aC, tI_rmL, tL_rmL, tR_rmL, tN_rmL, tZ_rmL, tC_rmL, tc_rmL, tz_rmL, tI_mk, tL_mk, tR_mk, tN_mk, tZ_mk, tC_mk, tc_mk, tz_mk, tI_pushL, tL_pushL, tR_pushL, tN_pushL, tZ_pushL, tC_pushL, tc_pushL, tz_pushL, tI_pushB, tL_pushB, tR_pushB, tN_pushB, tZ_pushB, tC_pushB, tc_pushB, tz_pushB, tI_cpL, tL_cpL, tR_cpL, tN_cpL, tZ_cpL, tC_cpL, tc_cpL, tz_cpL, eq_self, true_and, and_true, false_and, and_false, if_true, if_false, reduceIte, ite_true, ite_false, not_true_eq_false, not_false_eq_true, paR_enc, E65, g3, g4, EZ, i2, hv2, E95, E9, o_s]
