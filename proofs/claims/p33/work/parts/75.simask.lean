/-! ===== an ASK is answered: the class and the reference ===== -/
def hldB (b : TS) (j t : Nat) (m : Int32) : TS := sL (sI (sI b 61 j 12 m) 61 j 13 (Int32.ofNat t)) 44 0 t (tL b 44 0 t + m.toInt64)
theorem hold_R0 {a b : TS} {p j j' t : Nat} {m : Int32} (hR : R0 a b) (hp : p < 1000) (h1 : tR a 3 0 p = some (4, j)) (h2 : tR b 53 0 p = some (61, j')) (ht : t < tZ a 26 0) (hm : 0 < m) :
    R0 (sL (sR (sI a 4 j 3 m) 4 j 4 (some (35, t))) 35 t 1 (tL a 35 t 1 + m.toInt64)) (hldB b j' t m) ∧ chF [4] [(35, 1)] a (sL (sR (sI a 4 j 3 m) 4 j 4 (some (35, t))) 35 t 1 (tL a 35 t 1 + m.toInt64)) ∧ chF [44, 61] [] b (hldB b j' t m) ∧ Wr a (sL (sR (sI a 4 j 3 m) 4 j 4 (some (35, t))) 35 t 1 (tL a 35 t 1 + m.toInt64)) ∧ Wr b (hldB b j' t m) := by
  obtain ⟨hK5, hB5⟩ := hold_R (m := m) (r_K hR) (r_B hR) hp h1 h2 ht hm
  have ha : chF [4] [(35, 1)] a (sL (sR (sI a 4 j 3 m) 4 j 4 (some (35, t))) 35 t 1 (tL a 35 t 1 + m.toInt64)) := chF_L (by simp) (chF_R (by simp) (chF_I (by simp) (chF_r _ _ _)))
  have hb : chF [44, 61] [] b (hldB b j' t m) := chF_L (by simp) (chF_I (by simp) (chF_I (by simp) (chF_r _ _ _)))
  have wa : Wr a (sL (sR (sI a 4 j 3 m) 4 j 4 (some (35, t))) 35 t 1 (tL a 35 t 1 + m.toInt64)) := (((Wr.rf _).cI _ _ _ _).cR _ _ _ _).cL _ _ _ _
  have wb : Wr b (hldB b j' t m) := (((Wr.rf _).cI _ _ _ _).cI _ _ _ _).cL _ _ _ _
  have w : ∀ f, f ≠ 12 → f ≠ 13 → ∀ n, n < 1000 → hI (hldB b j' t m) n f = hI b n f := fun f g1 g2 n hn => by
    show hI (sI (sI b 61 j' 12 m) 61 j' 13 (Int32.ofNat t)) n f = _
    rw [hI_sI (b := sI b 61 j' 12 m) (r_K hR).2.1 hp h2 _ _ hn, if_neg (fun q => g2 q.2), hI_sI (r_K hR).2.1 hp h2 _ _ hn, if_neg (fun q => g1 q.2)]
  refine ⟨R0_kn hR hK5 hB5 ha (chF_m hb (by simp) (by simp)) wa wb (w 8 (by decide) (by decide)) (w 14 (by decide) (by decide)) (fun n hn => ?_), ha, hb, wa, wb⟩
  show kR (sR (sI a 4 j 3 m) 4 j 4 (some (35, t))) n 8 = _
  rw [kR_sR (a := sI a 4 j 3 m) (r_K hR).1 hp h1 _ _ hn, if_neg (fun q => absurd q.2 (by decide))]
  rfl
def outB (b : TS) (j : Nat) : TS := sI (sI (sI (sI b 94 0 14 (if tI b 61 j 0 = 1 then 1 else 0)) 94 0 15 (tI b 61 j 1)) 94 0 16 (tI b 61 j 2)) 94 0 17 (tI b 61 j 3)
theorem y167_158 {b : TS} {z : Hp} {j : Nat} (hF : FxR b) (hj : j < tN b 61) : Ru 167 158 [(0, aR (some (94, 0))), (7, aR (some (61, j)))] [] (enc 2 b z) = some (.inl none, enc 2 (outB b j) z) := by
  rw [lf_167_158]
  unfold outB
  by_cases e : tI b 61 j 0 = 1 <;> simp (config := {decide := true}) only [gfI_enc, gfL_enc, gfR_enc, pfI_enc, pfL_enc, pfR_enc, Option.bind_some, cI_v, cL_v, cF_v, cD_v, cR_v, cV_v, cI_x, cL_x, cR_x, cV_x, gz_0, gz_1, acc_enc, tI_sI, tL_sI, tR_sI, tN_sI, tZ_sI, tC_sI, tc_sI, tz_sI, tI_sL, tL_sL, tR_sL, tN_sL, tZ_sL, tC_sL, tc_sL, tz_sL, tI_sR, tL_sR, tR_sR, tN_sR, tZ_sR, tC_sR, tc_sR, tz_sR, tI_sZ, tL_sZ, tR_sZ, tN_sZ, tZ_sZ, tC_sZ, tc_sZ, tz_sZ, tI_sC, tL_sC, tR_sC, tN_sC, tZ_sC, tC_sC, tc_sC, tz_sC, tI_aC, tL_aC, tR_aC, tN_aC, tZ_aC, tC_aC, tc_aC, tz_aC, tI_rmL, tL_rmL, tR_rmL, tN_rmL, tZ_rmL, tC_rmL, tc_rmL, tz_rmL, tI_mk, tL_mk, tR_mk, tN_mk, tZ_mk, tC_mk, tc_mk, tz_mk, tI_pushL, tL_pushL, tR_pushL, tN_pushL, tZ_pushL, tC_pushL, tc_pushL, tz_pushL, tI_pushB, tL_pushB, tR_pushB, tN_pushB, tZ_pushB, tC_pushB, tc_pushB, tz_pushB, tI_cpL, tL_cpL, tR_cpL, tN_cpL, tZ_cpL, tC_cpL, tc_cpL, tz_cpL, eq_self, true_and, and_true, false_and, and_false, if_true, if_false, reduceIte, ite_true, ite_false, not_true_eq_false, not_false_eq_true, frN_94 hF, hj, e]
theorem outB_ch (b : TS) (j : Nat) : chF [] [(94, 14), (94, 15), (94, 16), (94, 17)] b (outB b j) := chF_I (by simp) (chF_I (by simp) (chF_I (by simp) (chF_I (by simp) (chF_r _ _ _))))
theorem outB_wr (b : TS) (j : Nat) : Wr b (outB b j) := ((((Wr.rf b).cI _ _ _ _).cI _ _ _ _).cI _ _ _ _).cI _ _ _ _
theorem out_R {a b : TS} (j : Nat) (hR : R0 a b) : R0 a (outB b j) := by
  have ha : chF [] [] a a := chF_r _ _ _
  have wa : Wr a a := Wr.rf a
  have hb := outB_ch b j
  have wb := outB_wr b j
  obtain ⟨hFC, hFR, hB, hS, hM, hW, hV, hC, hD, hE, hP, hQ, hH, hK, hG, hO, hZ⟩ := hR
  exact ⟨FxC_s hFC wa ha (by decide), FxR_s hFR wb hb (by decide), RB_c hB ha hb (by decide) (by decide), RS_c hS ha hb (by decide) (by decide), RM_c hM ha hb (by decide) (by decide), RW_c hW ha hb (by decide) (by decide), RV_c hV ha hb (by decide) (by decide), RC_c hC ha hb (by decide) (by decide), RD_c hD ha hb (by decide) (by decide), RE_c hE ha hb (by decide) (by decide), RP_c hP ha hb (by decide) (by decide), RQ_c hQ ha hb (by decide) (by decide), RH_c hH ha hb (by decide) (by decide), RK_c hK ha hb (by decide) (by decide) (gro_c ha (by decide)) (gro_c ha (by decide)) (gro_c ha (by decide)) (gro_c ha (by decide)), RG_c hG ha hb (by decide) (by decide), RO_c hO ha hb (by decide) (by decide), RZ_c hZ ha hb (by decide) (by decide)⟩
theorem sI_comm (m : TS) {s i k s' i' k' : Nat} (v v' : Int32) (h : ¬ (s = s' ∧ i = i' ∧ k = k')) : sI (sI m s i k v) s' i' k' v' = sI (sI m s' i' k' v') s i k v := by
  refine Prod.ext ?_ rfl
  funext x y w
  show (if x = s' ∧ y = i' ∧ w = k' then v' else if x = s ∧ y = i ∧ w = k then v else tI m x y w) = (if x = s ∧ y = i ∧ w = k then v else if x = s' ∧ y = i' ∧ w = k' then v' else tI m x y w)
  by_cases e1 : x = s ∧ y = i ∧ w = k
  · have e2 : ¬ (x = s' ∧ y = i' ∧ w = k') := fun q => h ⟨e1.1.symm.trans q.1, e1.2.1.symm.trans q.2.1, e1.2.2.symm.trans q.2.2⟩
    rw [if_neg e2, if_pos e1, if_pos e1]
  · rw [if_neg (c := x = s ∧ y = i ∧ w = k) e1, if_neg (c := x = s ∧ y = i ∧ w = k) e1]
theorem hld_comm (b : TS) (j t cd : Nat) (m st told : Int32) : sI (sI (sI (hldB b j t m) 61 j 2 st) 61 j 3 told) 57 0 cd 0 = hldB (sI (sI (sI b 61 j 2 st) 61 j 3 told) 57 0 cd 0) j t m := by
  show sL (sI (sI (sI (sI (sI b 61 j 12 m) 61 j 13 (Int32.ofNat t)) 61 j 2 st) 61 j 3 told) 57 0 cd 0) 44 0 t (tL b 44 0 t + m.toInt64) = sL (sI (sI (sI (sI (sI b 61 j 2 st) 61 j 3 told) 57 0 cd 0) 61 j 12 m) 61 j 13 (Int32.ofNat t)) 44 0 t (tL b 44 0 t + m.toInt64)
  congr 1
  have d : ∀ x, ¬ ((61 : Nat) = 57 ∧ x) := fun x q => absurd q.1 (by decide)
  have e1 : ∀ (x : Nat) (y : Nat), x ≠ y → ¬ ((61 : Nat) = 61 ∧ j = j ∧ x = y) := fun x y h q => h q.2.2
  rw [sI_comm (sI b 61 j 12 m) (k := 13) (k' := 2) _ _ (e1 _ _ (by decide))]
  rw [sI_comm b (k := 12) (k' := 2) _ _ (e1 _ _ (by decide))]
  rw [sI_comm (sI (sI b 61 j 2 st) 61 j 12 m) (k := 13) (k' := 3) _ _ (e1 _ _ (by decide))]
  rw [sI_comm (sI b 61 j 2 st) (k := 12) (k' := 3) _ _ (e1 _ _ (by decide))]
  rw [sI_comm (sI (sI (sI b 61 j 2 st) 61 j 3 told) 61 j 12 m) (s := 61) (s' := 57) (i' := 0) (k := 13) (k' := cd) _ _ (d _)]
  rw [sI_comm (sI (sI b 61 j 2 st) 61 j 3 told) (s := 61) (s' := 57) (i' := 0) (k := 12) (k' := cd) _ _ (d _)]
/-- what the class's answer says -/
def AnsF (a b : TS) (i p : Nat) : Prop := i < tN a 5 ∧ tI a 5 i 0 = 5 ∧ tI a 5 i 1 = Int32.ofNat p ∧ tI a 5 i 6 = tI b 94 0 16 ∧ tI a 5 i 7 = 1 ∧ (tI a 5 i 8 = 1 ∧ tI b 94 0 14 = 1 ∨ tI a 5 i 8 = 2 ∧ tI b 94 0 14 = 0) ∧ tI a 5 i 9 = tI b 94 0 15 ∧ tI a 5 i 10 = tI b 94 0 17 ∧ tI a 5 i 11 = 0 ∧ tI a 5 i 14 = 0
theorem ansF_of {a b : TS} {p j' : Nat} (hR : R0 a b) (hp : p < 1000) (h2 : tR b 53 0 p = some (61, j')) (h0 : hI b p 0 ≠ 0) : ∃ i, kR a p 1 = some (5, i) ∧ AnsF a (outB b j') i p := by
  obtain ⟨-, -, ⟨-, q⟩, -⟩ := (r_K hR).2.2 p hp
  obtain ⟨i, j, i1, i2, i3, i4, i5, i6, i7, i8, i9, i10, i11, i12, i13, i14, -⟩ := q h0
  rw [hI_at h2] at i7 i9 i10 i11 i12
  refine ⟨i, i3, i1, i5, i6, ?_, i8, ?_, ?_, ?_, i13, i14⟩ <;> unfold outB
  · simp (config := {decide := true}) only [gfI_enc, gfL_enc, gfR_enc, pfI_enc, pfL_enc, pfR_enc, Option.bind_some, cI_v, cL_v, cF_v, cD_v, cR_v, cV_v, cI_x, cL_x, cR_x, cV_x, gz_0, gz_1, acc_enc, tI_sI, tL_sI, tR_sI, tN_sI, tZ_sI, tC_sI, tc_sI, tz_sI, tI_sL, tL_sL, tR_sL, tN_sL, tZ_sL, tC_sL, tc_sL, tz_sL, tI_sR, tL_sR, tR_sR, tN_sR, tZ_sR, tC_sR, tc_sR, tz_sR, tI_sZ, tL_sZ, tR_sZ, tN_sZ, tZ_sZ, tC_sZ, tc_sZ, tz_sZ, tI_sC, tL_sC, tR_sC, tN_sC, tZ_sC, tC_sC, tc_sC, tz_sC, tI_aC, tL_aC, tR_aC, tN_aC, tZ_aC, tC_aC, tc_aC, tz_aC, tI_rmL, tL_rmL, tR_rmL, tN_rmL, tZ_rmL, tC_rmL, tc_rmL, tz_rmL, tI_mk, tL_mk, tR_mk, tN_mk, tZ_mk, tC_mk, tc_mk, tz_mk, tI_pushL, tL_pushL, tR_pushL, tN_pushL, tZ_pushL, tC_pushL, tc_pushL, tz_pushL, tI_pushB, tL_pushB, tR_pushB, tN_pushB, tZ_pushB, tC_pushB, tc_pushB, tz_pushB, tI_cpL, tL_cpL, tR_cpL, tN_cpL, tZ_cpL, tC_cpL, tc_cpL, tz_cpL, eq_self, true_and, and_true, false_and, and_false, if_true, if_false, reduceIte, ite_true, ite_false, not_true_eq_false, not_false_eq_true]
    exact i7
  · simp (config := {decide := true}) only [gfI_enc, gfL_enc, gfR_enc, pfI_enc, pfL_enc, pfR_enc, Option.bind_some, cI_v, cL_v, cF_v, cD_v, cR_v, cV_v, cI_x, cL_x, cR_x, cV_x, gz_0, gz_1, acc_enc, tI_sI, tL_sI, tR_sI, tN_sI, tZ_sI, tC_sI, tc_sI, tz_sI, tI_sL, tL_sL, tR_sL, tN_sL, tZ_sL, tC_sL, tc_sL, tz_sL, tI_sR, tL_sR, tR_sR, tN_sR, tZ_sR, tC_sR, tc_sR, tz_sR, tI_sZ, tL_sZ, tR_sZ, tN_sZ, tZ_sZ, tC_sZ, tc_sZ, tz_sZ, tI_sC, tL_sC, tR_sC, tN_sC, tZ_sC, tC_sC, tc_sC, tz_sC, tI_aC, tL_aC, tR_aC, tN_aC, tZ_aC, tC_aC, tc_aC, tz_aC, tI_rmL, tL_rmL, tR_rmL, tN_rmL, tZ_rmL, tC_rmL, tc_rmL, tz_rmL, tI_mk, tL_mk, tR_mk, tN_mk, tZ_mk, tC_mk, tc_mk, tz_mk, tI_pushL, tL_pushL, tR_pushL, tN_pushL, tZ_pushL, tC_pushL, tc_pushL, tz_pushL, tI_pushB, tL_pushB, tR_pushB, tN_pushB, tZ_pushB, tC_pushB, tc_pushB, tz_pushB, tI_cpL, tL_cpL, tR_cpL, tN_cpL, tZ_cpL, tC_cpL, tc_cpL, tz_cpL, eq_self, true_and, and_true, false_and, and_false, if_true, if_false, reduceIte, ite_true, ite_false, not_true_eq_false, not_false_eq_true]
    rcases i10 with e | e
    · exact Or.inl ⟨i9.trans e, by rw [if_pos e]⟩
    · exact Or.inr ⟨i9.trans e, by rw [if_neg (by rw [e]; decide)]⟩
  · simp (config := {decide := true}) only [gfI_enc, gfL_enc, gfR_enc, pfI_enc, pfL_enc, pfR_enc, Option.bind_some, cI_v, cL_v, cF_v, cD_v, cR_v, cV_v, cI_x, cL_x, cR_x, cV_x, gz_0, gz_1, acc_enc, tI_sI, tL_sI, tR_sI, tN_sI, tZ_sI, tC_sI, tc_sI, tz_sI, tI_sL, tL_sL, tR_sL, tN_sL, tZ_sL, tC_sL, tc_sL, tz_sL, tI_sR, tL_sR, tR_sR, tN_sR, tZ_sR, tC_sR, tc_sR, tz_sR, tI_sZ, tL_sZ, tR_sZ, tN_sZ, tZ_sZ, tC_sZ, tc_sZ, tz_sZ, tI_sC, tL_sC, tR_sC, tN_sC, tZ_sC, tC_sC, tc_sC, tz_sC, tI_aC, tL_aC, tR_aC, tN_aC, tZ_aC, tC_aC, tc_aC, tz_aC, tI_rmL, tL_rmL, tR_rmL, tN_rmL, tZ_rmL, tC_rmL, tc_rmL, tz_rmL, tI_mk, tL_mk, tR_mk, tN_mk, tZ_mk, tC_mk, tc_mk, tz_mk, tI_pushL, tL_pushL, tR_pushL, tN_pushL, tZ_pushL, tC_pushL, tc_pushL, tz_pushL, tI_pushB, tL_pushB, tR_pushB, tN_pushB, tZ_pushB, tC_pushB, tc_pushB, tz_pushB, tI_cpL, tL_cpL, tR_cpL, tN_cpL, tZ_cpL, tC_cpL, tc_cpL, tz_cpL, eq_self, true_and, and_true, false_and, and_false, if_true, if_false, reduceIte, ite_true, ite_false, not_true_eq_false, not_false_eq_true]
    exact i11
  · simp (config := {decide := true}) only [gfI_enc, gfL_enc, gfR_enc, pfI_enc, pfL_enc, pfR_enc, Option.bind_some, cI_v, cL_v, cF_v, cD_v, cR_v, cV_v, cI_x, cL_x, cR_x, cV_x, gz_0, gz_1, acc_enc, tI_sI, tL_sI, tR_sI, tN_sI, tZ_sI, tC_sI, tc_sI, tz_sI, tI_sL, tL_sL, tR_sL, tN_sL, tZ_sL, tC_sL, tc_sL, tz_sL, tI_sR, tL_sR, tR_sR, tN_sR, tZ_sR, tC_sR, tc_sR, tz_sR, tI_sZ, tL_sZ, tR_sZ, tN_sZ, tZ_sZ, tC_sZ, tc_sZ, tz_sZ, tI_sC, tL_sC, tR_sC, tN_sC, tZ_sC, tC_sC, tc_sC, tz_sC, tI_aC, tL_aC, tR_aC, tN_aC, tZ_aC, tC_aC, tc_aC, tz_aC, tI_rmL, tL_rmL, tR_rmL, tN_rmL, tZ_rmL, tC_rmL, tc_rmL, tz_rmL, tI_mk, tL_mk, tR_mk, tN_mk, tZ_mk, tC_mk, tc_mk, tz_mk, tI_pushL, tL_pushL, tR_pushL, tN_pushL, tZ_pushL, tC_pushL, tc_pushL, tz_pushL, tI_pushB, tL_pushB, tR_pushB, tN_pushB, tZ_pushB, tC_pushB, tc_pushB, tz_pushB, tI_cpL, tL_cpL, tR_cpL, tN_cpL, tZ_cpL, tC_cpL, tc_cpL, tz_cpL, eq_self, true_and, and_true, false_and, and_false, if_true, if_false, reduceIte, ite_true, ite_false, not_true_eq_false, not_false_eq_true]
    exact i12
