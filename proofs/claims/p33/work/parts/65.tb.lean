/-! ===== flags, a taking back ===== -/
theorem freA_v {a : TS} {p j t : Nat} (hK : KsA a) (hp : p < 1000) (h1 : tR a 3 0 p = some (4, j)) {n : Nat} (hn : n < 1000) {f : Nat} (hf : f ≠ 4) : kR (freA a j t) n f = kR a n f := by
  unfold freA
  split
  · rfl
  · rw [kR_sR (a := sI (sL a 35 t 1 (tL a 35 t 1 - (tI a 4 j 3).toInt64)) 4 j 3 0) hK hp h1 _ _ hn, if_neg (fun q => hf q.2)]
    rfl
theorem freB_v {b : TS} {p j t : Nat} (hK : KsB b) (hp : p < 1000) (h1 : tR b 53 0 p = some (61, j)) {n : Nat} (hn : n < 1000) {f : Nat} (hf : f ≠ 12) : hI (freB b j t) n f = hI b n f := by
  unfold freB
  split
  · rfl
  · rw [hI_sI (b := sL b 44 0 t (tL b 44 0 t - (tI b 61 j 12).toInt64)) hK hp h1 _ _ hn, if_neg (fun q => hf q.2)]
    rfl
theorem R0_kn {a a' b b' : TS} (hR : R0 a b) (hK' : RK a' b') (hB' : RB a' b') (ha : chF [4] [(35, 1)] a a') (hb : chF [44, 61, 62, 63] [] b b') (wa : Wr a a') (wb : Wr b b')
    (w8 : ∀ n, n < 1000 → hI b' n 8 = hI b n 8) (w14 : ∀ n, n < 1000 → hI b' n 14 = hI b n 14) (v8 : ∀ n, n < 1000 → kR a' n 8 = kR a n 8) : R0 a' b' := by
  obtain ⟨hFC, hFR, hB, hS, hM, hW, hV, hC, hD, hE, hP, hQ, hH, hK, hG, hO, hZ⟩ := hR
  have w64 : ∀ n f, n < 1000 → hA b' n 64 f = hA b n 64 f := fun n f _ => by
    unfold hA
    rw [dR hb (S := [53]) (P := []) (by decide) (by simp)]
    split
    · exact dIS hb (S := [64]) (P := []) (by decide) (by simp) _ _
    · rfl
  have hO' : RO a' b' := RO_v hO w8 w64 (dIS ha (S := [2]) (P := []) (by decide) (by simp)) (dZ ha (S := [28]) (P := []) (by decide) (by simp) 0) (dIS ha (S := [30]) (P := []) (by decide) (by simp) 0 3) (dIS ha (S := [30]) (P := []) (by decide) (by simp) 0 4) (dIS hb (S := [94]) (P := []) (by decide) (by simp) 0 12) (dIS hb (S := [94]) (P := []) (by decide) (by simp) 0 13)
  have hZ' : RZ a' b' := RZ_v hZ w8 w64 w14 v8 (dIS ha (S := [7]) (P := []) (by decide) (by simp)) (dIS hb (S := [87]) (P := []) (by decide) (by simp)) (dZ ha (S := [29]) (P := []) (by decide) (by simp) 0) (dN ha (S := [7]) (P := []) (by decide) (by simp))
  exact ⟨FxC_s hFC wa ha (by decide), FxR_s hFR wb hb (by decide), hB', RS_c hS ha hb (by decide) (by decide), RM_c hM ha hb (by decide) (by decide), RW_c hW ha hb (by decide) (by decide), RV_c hV ha hb (by decide) (by decide), RC_c hC ha hb (by decide) (by decide), RD_c hD ha hb (by decide) (by decide), RE_c hE ha hb (by decide) (by decide), RP_c hP ha hb (by decide) (by decide), RQ_c hQ ha hb (by decide) (by decide), RH_c hH ha hb (by decide) (by decide), hK', RG_c hG ha hb (by decide) (by decide), hO', hZ'⟩
theorem flag5_R {a b : TS} {p j j' : Nat} (hK : RK a b) (hp : p < 1000) (h1 : tR a 3 0 p = some (4, j)) (h2 : tR b 53 0 p = some (61, j')) : RK (sI a 4 j 5 1) (sI b 61 j' 9 1) := by
  obtain ⟨KA, KB, KN⟩ := hK
  have vI : ∀ n f, n < 1000 → kI (sI a 4 j 5 1) n f = if n = p ∧ f = 5 then 1 else kI a n f := fun n f hn => kI_sI KA hp h1 _ _ hn _
  have vR : ∀ n f, n < 1000 → kR (sI a 4 j 5 1) n f = kR a n f := fun n f hn => rfl
  have wI : ∀ n f, n < 1000 → hI (sI b 61 j' 9 1) n f = if n = p ∧ f = 9 then 1 else hI b n f := fun n f hn => hI_sI KB hp h2 _ _ hn _
  have wA : ∀ n t' f, (t' = 62 ∨ t' = 63 ∨ t' = 64) → hA (sI b 61 j' 9 1) n t' f = hA b n t' f := fun n t' f h => by rw [hA_o _ (by omega)]
  have o : ∀ s, s ≠ 4 → gro a (sI a 4 j 5 1) s := fun s hs => gro_o rfl (fun i k => by simp (config := {decide := true}) only [gfI_enc, gfL_enc, gfR_enc, pfI_enc, pfL_enc, pfR_enc, Option.bind_some, cI_v, cL_v, cF_v, cD_v, cR_v, cV_v, cI_x, cL_x, cR_x, cV_x, gz_0, gz_1, acc_enc, tI_sI, tL_sI, tR_sI, tN_sI, tZ_sI, tC_sI, tc_sI, tz_sI, tI_sL, tL_sL, tR_sL, tN_sL, tZ_sL, tC_sL, tc_sL, tz_sL, tI_sR, tL_sR, tR_sR, tN_sR, tZ_sR, tC_sR, tc_sR, tz_sR, tI_sZ, tL_sZ, tR_sZ, tN_sZ, tZ_sZ, tC_sZ, tc_sZ, tz_sZ, tI_sC, tL_sC, tR_sC, tN_sC, tZ_sC, tC_sC, tc_sC, tz_sC, tI_aC, tL_aC, tR_aC, tN_aC, tZ_aC, tC_aC, tc_aC, tz_aC, tI_rmL, tL_rmL, tR_rmL, tN_rmL, tZ_rmL, tC_rmL, tc_rmL, tz_rmL, tI_mk, tL_mk, tR_mk, tN_mk, tZ_mk, tC_mk, tc_mk, tz_mk, tI_pushL, tL_pushL, tR_pushL, tN_pushL, tZ_pushL, tC_pushL, tc_pushL, tz_pushL, tI_pushB, tL_pushB, tR_pushB, tN_pushB, tZ_pushB, tC_pushB, tc_pushB, tz_pushB, tI_cpL, tL_cpL, tR_cpL, tN_cpL, tZ_cpL, tC_cpL, tc_cpL, tz_cpL, eq_self, true_and, and_true, false_and, and_false, if_true, if_false, reduceIte, ite_true, ite_false, not_true_eq_false, not_false_eq_true, hs])
  refine ⟨KA, KB, fun n hn => ?_⟩
  by_cases e : n = p
  · subst e
    obtain ⟨q1, ⟨r1, r2, r3, r4, r5, r6, r7, r8⟩, q3⟩ := KN n hn
    have b1 : bitOk 1 = true := rfl
    refine ⟨?_, ?_, ?_⟩
    · simp (config := {decide := true}) only [vI n _ hn, vR n _ hn, wI n _ hn, true_and, if_true, if_false, and_false]
      exact q1
    · simp (config := {decide := true}) only [vI n _ hn, vR n _ hn, wI n _ hn, true_and, if_true, if_false, and_false]
      simp only [r1, r2, r3, r4, r5, r6, r7, r8, and_true, true_and, not_false_eq_true]
    · simp (config := {decide := true}) only [vI n _ hn, vR n _ hn, wI n _ hn, wA n 62 _ (Or.inl rfl), wA n 63 _ (Or.inr (Or.inl rfl)), wA n 64 _ (Or.inr (Or.inr rfl)), true_and, if_true, if_false, and_false]
      exact q3
  · refine KnR_v (KN n hn) (fun f => ?_) (fun f => rfl) (fun f => ?_) (fun t f => wA n t f) rfl rfl rfl (fun k => rfl) (o 5 (by decide)) (o 6 (by decide)) (o 7 (by decide)) (o 17 (by decide))
    · rw [vI n f hn, if_neg (fun q => e q.1)]
    · rw [wI n f hn, if_neg (fun q => e q.1)]
theorem flag6_R {a b : TS} {p j j' : Nat} (hK : RK a b) (hp : p < 1000) (h1 : tR a 3 0 p = some (4, j)) (h2 : tR b 53 0 p = some (61, j')) : RK (sI a 4 j 6 1) (sI b 61 j' 10 1) := by
  obtain ⟨KA, KB, KN⟩ := hK
  have vI : ∀ n f, n < 1000 → kI (sI a 4 j 6 1) n f = if n = p ∧ f = 6 then 1 else kI a n f := fun n f hn => kI_sI KA hp h1 _ _ hn _
  have vR : ∀ n f, n < 1000 → kR (sI a 4 j 6 1) n f = kR a n f := fun n f hn => rfl
  have wI : ∀ n f, n < 1000 → hI (sI b 61 j' 10 1) n f = if n = p ∧ f = 10 then 1 else hI b n f := fun n f hn => hI_sI KB hp h2 _ _ hn _
  have wA : ∀ n t' f, (t' = 62 ∨ t' = 63 ∨ t' = 64) → hA (sI b 61 j' 10 1) n t' f = hA b n t' f := fun n t' f h => by rw [hA_o _ (by omega)]
  have o : ∀ s, s ≠ 4 → gro a (sI a 4 j 6 1) s := fun s hs => gro_o rfl (fun i k => by simp (config := {decide := true}) only [gfI_enc, gfL_enc, gfR_enc, pfI_enc, pfL_enc, pfR_enc, Option.bind_some, cI_v, cL_v, cF_v, cD_v, cR_v, cV_v, cI_x, cL_x, cR_x, cV_x, gz_0, gz_1, acc_enc, tI_sI, tL_sI, tR_sI, tN_sI, tZ_sI, tC_sI, tc_sI, tz_sI, tI_sL, tL_sL, tR_sL, tN_sL, tZ_sL, tC_sL, tc_sL, tz_sL, tI_sR, tL_sR, tR_sR, tN_sR, tZ_sR, tC_sR, tc_sR, tz_sR, tI_sZ, tL_sZ, tR_sZ, tN_sZ, tZ_sZ, tC_sZ, tc_sZ, tz_sZ, tI_sC, tL_sC, tR_sC, tN_sC, tZ_sC, tC_sC, tc_sC, tz_sC, tI_aC, tL_aC, tR_aC, tN_aC, tZ_aC, tC_aC, tc_aC, tz_aC, tI_rmL, tL_rmL, tR_rmL, tN_rmL, tZ_rmL, tC_rmL, tc_rmL, tz_rmL, tI_mk, tL_mk, tR_mk, tN_mk, tZ_mk, tC_mk, tc_mk, tz_mk, tI_pushL, tL_pushL, tR_pushL, tN_pushL, tZ_pushL, tC_pushL, tc_pushL, tz_pushL, tI_pushB, tL_pushB, tR_pushB, tN_pushB, tZ_pushB, tC_pushB, tc_pushB, tz_pushB, tI_cpL, tL_cpL, tR_cpL, tN_cpL, tZ_cpL, tC_cpL, tc_cpL, tz_cpL, eq_self, true_and, and_true, false_and, and_false, if_true, if_false, reduceIte, ite_true, ite_false, not_true_eq_false, not_false_eq_true, hs])
  refine ⟨KA, KB, fun n hn => ?_⟩
  by_cases e : n = p
  · subst e
    obtain ⟨q1, ⟨r1, r2, r3, r4, r5, r6, r7, r8⟩, q3⟩ := KN n hn
    have b1 : bitOk 1 = true := rfl
    refine ⟨?_, ?_, ?_⟩
    · simp (config := {decide := true}) only [vI n _ hn, vR n _ hn, wI n _ hn, true_and, if_true, if_false, and_false]
      exact q1
    · simp (config := {decide := true}) only [vI n _ hn, vR n _ hn, wI n _ hn, true_and, if_true, if_false, and_false]
      simp only [r1, r2, r3, r4, r5, r6, r7, r8, and_true, true_and, not_false_eq_true]
    · simp (config := {decide := true}) only [vI n _ hn, vR n _ hn, wI n _ hn, wA n 62 _ (Or.inl rfl), wA n 63 _ (Or.inr (Or.inl rfl)), wA n 64 _ (Or.inr (Or.inr rfl)), true_and, if_true, if_false, and_false]
      exact q3
  · refine KnR_v (KN n hn) (fun f => ?_) (fun f => rfl) (fun f => ?_) (fun t f => wA n t f) rfl rfl rfl (fun k => rfl) (o 5 (by decide)) (o 6 (by decide)) (o 7 (by decide)) (o 17 (by decide))
    · rw [vI n f hn, if_neg (fun q => e q.1)]
    · rw [wI n f hn, if_neg (fun q => e q.1)]
theorem flag7_R {a b : TS} {p j j' : Nat} (hK : RK a b) (hp : p < 1000) (h1 : tR a 3 0 p = some (4, j)) (h2 : tR b 53 0 p = some (61, j')) : RK (sI a 4 j 7 1) (sI b 61 j' 11 1) := by
  obtain ⟨KA, KB, KN⟩ := hK
  have vI : ∀ n f, n < 1000 → kI (sI a 4 j 7 1) n f = if n = p ∧ f = 7 then 1 else kI a n f := fun n f hn => kI_sI KA hp h1 _ _ hn _
  have vR : ∀ n f, n < 1000 → kR (sI a 4 j 7 1) n f = kR a n f := fun n f hn => rfl
  have wI : ∀ n f, n < 1000 → hI (sI b 61 j' 11 1) n f = if n = p ∧ f = 11 then 1 else hI b n f := fun n f hn => hI_sI KB hp h2 _ _ hn _
  have wA : ∀ n t' f, (t' = 62 ∨ t' = 63 ∨ t' = 64) → hA (sI b 61 j' 11 1) n t' f = hA b n t' f := fun n t' f h => by rw [hA_o _ (by omega)]
  have o : ∀ s, s ≠ 4 → gro a (sI a 4 j 7 1) s := fun s hs => gro_o rfl (fun i k => by simp (config := {decide := true}) only [gfI_enc, gfL_enc, gfR_enc, pfI_enc, pfL_enc, pfR_enc, Option.bind_some, cI_v, cL_v, cF_v, cD_v, cR_v, cV_v, cI_x, cL_x, cR_x, cV_x, gz_0, gz_1, acc_enc, tI_sI, tL_sI, tR_sI, tN_sI, tZ_sI, tC_sI, tc_sI, tz_sI, tI_sL, tL_sL, tR_sL, tN_sL, tZ_sL, tC_sL, tc_sL, tz_sL, tI_sR, tL_sR, tR_sR, tN_sR, tZ_sR, tC_sR, tc_sR, tz_sR, tI_sZ, tL_sZ, tR_sZ, tN_sZ, tZ_sZ, tC_sZ, tc_sZ, tz_sZ, tI_sC, tL_sC, tR_sC, tN_sC, tZ_sC, tC_sC, tc_sC, tz_sC, tI_aC, tL_aC, tR_aC, tN_aC, tZ_aC, tC_aC, tc_aC, tz_aC, tI_rmL, tL_rmL, tR_rmL, tN_rmL, tZ_rmL, tC_rmL, tc_rmL, tz_rmL, tI_mk, tL_mk, tR_mk, tN_mk, tZ_mk, tC_mk, tc_mk, tz_mk, tI_pushL, tL_pushL, tR_pushL, tN_pushL, tZ_pushL, tC_pushL, tc_pushL, tz_pushL, tI_pushB, tL_pushB, tR_pushB, tN_pushB, tZ_pushB, tC_pushB, tc_pushB, tz_pushB, tI_cpL, tL_cpL, tR_cpL, tN_cpL, tZ_cpL, tC_cpL, tc_cpL, tz_cpL, eq_self, true_and, and_true, false_and, and_false, if_true, if_false, reduceIte, ite_true, ite_false, not_true_eq_false, not_false_eq_true, hs])
  refine ⟨KA, KB, fun n hn => ?_⟩
  by_cases e : n = p
  · subst e
    obtain ⟨q1, ⟨r1, r2, r3, r4, r5, r6, r7, r8⟩, q3⟩ := KN n hn
    have b1 : bitOk 1 = true := rfl
    refine ⟨?_, ?_, ?_⟩
    · simp (config := {decide := true}) only [vI n _ hn, vR n _ hn, wI n _ hn, true_and, if_true, if_false, and_false]
      exact q1
    · simp (config := {decide := true}) only [vI n _ hn, vR n _ hn, wI n _ hn, true_and, if_true, if_false, and_false]
      simp only [r1, r2, r3, r4, r5, r6, r7, r8, and_true, true_and, not_false_eq_true]
    · simp (config := {decide := true}) only [vI n _ hn, vR n _ hn, wI n _ hn, wA n 62 _ (Or.inl rfl), wA n 63 _ (Or.inr (Or.inl rfl)), wA n 64 _ (Or.inr (Or.inr rfl)), true_and, if_true, if_false, and_false]
      exact q3
  · refine KnR_v (KN n hn) (fun f => ?_) (fun f => rfl) (fun f => ?_) (fun t f => wA n t f) rfl rfl rfl (fun k => rfl) (o 5 (by decide)) (o 6 (by decide)) (o 7 (by decide)) (o 17 (by decide))
    · rw [vI n f hn, if_neg (fun q => e q.1)]
    · rw [wI n f hn, if_neg (fun q => e q.1)]
/-- what a TAKE BACK of p changes -/
def TbP (b b' : TS) (p : Nat) : Prop :=
  (∀ n f, n < 1000 → hI b' n f = if n = p ∧ f = 12 then 0 else if n = p ∧ f = 9 ∧ hI b p 8 = 0 then 1 else hI b n f) ∧
  (∀ n t f, n < 1000 → (t = 62 ∨ t = 63 ∨ t = 64) → hA b' n t f = hA b n t f) ∧
  (∀ t, t < 8 → tL b' 44 0 t = if hI b p 12 ≠ 0 ∧ hI b p 13 = Int32.ofNat t then tL b 44 0 t - (hI b p 12).toInt64 else tL b 44 0 t)
theorem le0_iff {x : Int32} (h : ¬ x < 0) : x ≤ 0 ↔ x = 0 := by
  rw [Int32.le_iff_toInt_le, Int32.lt_iff_toInt_lt] at *
  have h : ¬ x.toInt < 0 := h
  refine ⟨fun q => ?_, fun q => by rw [q]; exact Int.le_refl _⟩
  have q : x.toInt ≤ 0 := q
  exact Int32.toInt_inj.mp (by show x.toInt = 0; omega)
theorem freB_x {b : TS} {p j t : Nat} (hK : KsB b) (hp : p < 1000) (h1 : tR b 53 0 p = some (61, j)) (h0 : ¬ hI b p 12 < 0) (ht : hI b p 12 ≠ 0 → hI b p 13 = Int32.ofNat t ∧ t < 8) :
    (∀ n f, n < 1000 → hI (freB b j t) n f = if n = p ∧ f = 12 then 0 else hI b n f) ∧ (∀ n u f, (u = 62 ∨ u = 63 ∨ u = 64) → hA (freB b j t) n u f = hA b n u f) ∧
    (∀ u, u < 8 → tL (freB b j t) 44 0 u = if hI b p 12 ≠ 0 ∧ hI b p 13 = Int32.ofNat u then tL b 44 0 u - (hI b p 12).toInt64 else tL b 44 0 u) := by
  have e12 : tI b 61 j 12 = hI b p 12 := (hI_at h1).symm
  unfold freB
  by_cases c : tI b 61 j 12 ≤ 0
  · rw [if_pos c]
    rw [e12] at c
    have c0 := (le0_iff h0).mp c
    refine ⟨fun n f hn => ?_, fun _ _ _ _ => rfl, fun u hu => ?_⟩
    · split
      · rename_i q
        rw [q.1, q.2]; exact c0
      · rfl
    · rw [if_neg (fun q => q.1 c0)]
  · rw [if_neg c]
    have cn : hI b p 12 ≠ 0 := fun q => c (by rw [e12]; exact (le0_iff h0).mpr q)
    obtain ⟨t1, t2⟩ := ht cn
    refine ⟨fun n f hn => ?_, fun n u f hu => ?_, fun u hu => ?_⟩
    · rw [hI_sI (b := sL b 44 0 t (tL b 44 0 t - (tI b 61 j 12).toInt64)) hK hp h1 _ _ hn]
      rfl
    · rw [hA_o _ (by omega)]
      rfl
    · rw [tL_sI, tL_sL, e12]
      by_cases e : u = t
      · rw [if_pos ⟨rfl, rfl, e⟩, if_pos ⟨cn, by rw [e]; exact t1⟩, e]
      · rw [if_neg (fun q => e q.2.2), if_neg (fun q => e (o_inj (by omega) (by omega) (t1.symm.trans q.2)).symm)]
/-- a TAKE BACK is heard -/
theorem sim_tb {a b : TS} {p s r : Nat} (sh : Option (Nat × Nat)) (hR : R0 a b) (hp : p < 1000) (hs : isM s) (hr : r < tN a s) (h34 : s ≠ 3 ∧ s ≠ 4) (m0 : tI a s r 0 = 2) (m1 : tI a s r 1 = Int32.ofNat p) :
    ∃ a' b', (∀ z, Ex 18 [aR (some (30, 0)), aR (some (s, r)), aR sh] (enc 1 a z) = some (.inl none, enc 1 a' z)) ∧ (∀ z, Ex 170 [aR (some (94, 0)), aI (Int32.ofNat p)] (enc 2 b z) = some (.inl none, enc 2 b' z)) ∧
      R0 a' b' ∧ chF [3, 4] [(35, 1)] a a' ∧ chF [44, 53, 61, 62, 63, 64] [] b b' ∧ Wr a a' ∧ Wr b b' ∧ TbP b b' p := by
  obtain ⟨a1, b1, j, j', x, y, hR1, x1, x2, y1, y2, vI, vR, wI, wA, ca, cb, wa, wb⟩ := look hR hp
  have hfc := hR.1
  have hfr := hR.2.1
  have hR1' := hR1
  obtain ⟨hFC, hFR, hB, hS, hM, hW, hV, hC, hD, hE, hP, hQ, hH, hK, hG, hO, hZ⟩ := hR1
  have KN := hK.2.2 p hp
  obtain ⟨⟨q1, q2, q3, q4⟩, q5, q6, q7, q8, q9, q10⟩ := KN
  have m0' : tI a1 s r 0 = 2 := by rw [((ca s (by simp only [List.mem_cons, List.not_mem_nil, or_false]; omega)).1 r 0 (by simp))]; exact m0
  have hr1 : r < tN a1 s := Nat.lt_of_lt_of_le hr (wa.N s)
  obtain ⟨t, ht⟩ : ∃ t, (hI b1 p 12 ≠ 0 → t < tZ a1 26 0 ∧ tR a1 4 j 4 = some (35, t) ∧ hI b1 p 13 = Int32.ofNat t) := by
    by_cases e : hI b1 p 12 = 0
    · exact ⟨0, fun z => absurd e z⟩
    · obtain ⟨t, t1, t2, t3⟩ := q4 e
      exact ⟨t, fun _ => ⟨t1, by rw [← kR_at x1]; exact t2, t3⟩⟩
  have hx : tR a1 4 j 4 = none ∨ tR a1 4 j 4 = some (35, t) ∧ t < tN a1 35 := by
    by_cases e : hI b1 p 12 = 0
    · exact Or.inl (by rw [← kR_at x1]; exact q3 e)
    · obtain ⟨t1, t2, t3⟩ := ht e
      exact Or.inr ⟨t2, by rw [hB.2.2.1]; exact t1⟩
  have hpost : tR a1 4 j 8 = none ↔ tI b1 61 j' 8 = 0 := by
    rw [← kR_at x1, ← hI_at y1]
    refine ⟨fun z => ?_, q9⟩
    by_cases e : hI b1 p 8 = 0
    · exact e
    · obtain ⟨i, k, t, s, -, -, -, -, u, -⟩ := q10 e
      rw [z] at u
      cases u
  have hEx : ∀ z, Ex 18 [aR (some (30, 0)), aR (some (s, r)), aR sh] (enc 1 a z) = some (.inl none, enc 1 (freA (if tR a1 4 j 8 = none then sI a1 4 j 5 1 else a1) j t) z) := fun z => by
    refine (X_in (by decide +kernel) (fcN_30 hfc) rfl).trans ((lf_18_0 ..).trans ?_)
    simp (config := {decide := true}) only [gfI_enc, gfL_enc, gfR_enc, pfI_enc, pfL_enc, pfR_enc, Option.bind_some, cI_v, cL_v, cF_v, cD_v, cR_v, cV_v, cI_x, cL_x, cR_x, cV_x, gz_0, gz_1, acc_enc, tI_sI, tL_sI, tR_sI, tN_sI, tZ_sI, tC_sI, tc_sI, tz_sI, tI_sL, tL_sL, tR_sL, tN_sL, tZ_sL, tC_sL, tc_sL, tz_sL, tI_sR, tL_sR, tR_sR, tN_sR, tZ_sR, tC_sR, tc_sR, tz_sR, tI_sZ, tL_sZ, tR_sZ, tN_sZ, tZ_sZ, tC_sZ, tc_sZ, tz_sZ, tI_sC, tL_sC, tR_sC, tN_sC, tZ_sC, tC_sC, tc_sC, tz_sC, tI_aC, tL_aC, tR_aC, tN_aC, tZ_aC, tC_aC, tc_aC, tz_aC, tI_rmL, tL_rmL, tR_rmL, tN_rmL, tZ_rmL, tC_rmL, tc_rmL, tz_rmL, tI_mk, tL_mk, tR_mk, tN_mk, tZ_mk, tC_mk, tc_mk, tz_mk, tI_pushL, tL_pushL, tR_pushL, tN_pushL, tZ_pushL, tC_pushL, tc_pushL, tz_pushL, tI_pushB, tL_pushB, tR_pushB, tN_pushB, tZ_pushB, tC_pushB, tc_pushB, tz_pushB, tI_cpL, tL_cpL, tR_cpL, tN_cpL, tZ_cpL, tC_cpL, tc_cpL, tz_cpL, eq_self, true_and, and_true, false_and, and_false, if_true, if_false, reduceIte, ite_true, ite_false, not_true_eq_false, not_false_eq_true, gm hs hr, m1, x, gm hs hr1, m0', reduceCtorEq, x32 x2 hx]
    unfold freA
    have e : tR (if tR a1 4 j 8 = none then sI a1 4 j 5 1 else a1) 4 j 4 = tR a1 4 j 4 := by split <;> rfl
    have e2 : tI (if tR a1 4 j 8 = none then sI a1 4 j 5 1 else a1) 4 j 3 = tI a1 4 j 3 := by split <;> simp (config := {decide := true}) only [gfI_enc, gfL_enc, gfR_enc, pfI_enc, pfL_enc, pfR_enc, Option.bind_some, cI_v, cL_v, cF_v, cD_v, cR_v, cV_v, cI_x, cL_x, cR_x, cV_x, gz_0, gz_1, acc_enc, tI_sI, tL_sI, tR_sI, tN_sI, tZ_sI, tC_sI, tc_sI, tz_sI, tI_sL, tL_sL, tR_sL, tN_sL, tZ_sL, tC_sL, tc_sL, tz_sL, tI_sR, tL_sR, tR_sR, tN_sR, tZ_sR, tC_sR, tc_sR, tz_sR, tI_sZ, tL_sZ, tR_sZ, tN_sZ, tZ_sZ, tC_sZ, tc_sZ, tz_sZ, tI_sC, tL_sC, tR_sC, tN_sC, tZ_sC, tC_sC, tc_sC, tz_sC, tI_aC, tL_aC, tR_aC, tN_aC, tZ_aC, tC_aC, tc_aC, tz_aC, tI_rmL, tL_rmL, tR_rmL, tN_rmL, tZ_rmL, tC_rmL, tc_rmL, tz_rmL, tI_mk, tL_mk, tR_mk, tN_mk, tZ_mk, tC_mk, tc_mk, tz_mk, tI_pushL, tL_pushL, tR_pushL, tN_pushL, tZ_pushL, tC_pushL, tc_pushL, tz_pushL, tI_pushB, tL_pushB, tR_pushB, tN_pushB, tZ_pushB, tC_pushB, tc_pushB, tz_pushB, tI_cpL, tL_cpL, tR_cpL, tN_cpL, tZ_cpL, tC_cpL, tc_cpL, tz_cpL, eq_self, true_and, and_true, false_and, and_false, if_true, if_false, reduceIte, ite_true, ite_false, not_true_eq_false, not_false_eq_true]
    have e3 : tL (if tR a1 4 j 8 = none then sI a1 4 j 5 1 else a1) 35 t 1 = tL a1 35 t 1 := by split <;> rfl
    rw [e, e2, e3]
  have hEy : ∀ z, Ex 170 [aR (some (94, 0)), aI (Int32.ofNat p)] (enc 2 b z) = some (.inl none, enc 2 (freB (if tI b1 61 j' 8 = 0 then sI b1 61 j' 9 1 else b1) j' t) z) := fun z => by
    refine (X_in (by decide +kernel) (frN_94 hfr) rfl).trans ((lf_170_0 ..).trans ?_)
    have hk : ∀ b2 : TS, tI b2 61 j' 12 = tI b1 61 j' 12 → tI b2 61 j' 13 = tI b1 61 j' 13 → (0 < tI b2 61 j' 12 → tI b2 61 j' 13 = Int32.ofNat t ∧ t < 8) := fun b2 e1 e2 q => by
      rw [e1] at q
      have q := (z_lt q).1
      rw [← hI_at y1] at q
      obtain ⟨t1, t2, t3⟩ := ht q
      rw [e2, ← hI_at y1]
      exact ⟨t3, by have := hB.1; omega⟩
    by_cases e : tI b1 61 j' 8 = 0
    · simp (config := {decide := true}) only [gfI_enc, gfL_enc, gfR_enc, pfI_enc, pfL_enc, pfR_enc, Option.bind_some, cI_v, cL_v, cF_v, cD_v, cR_v, cV_v, cI_x, cL_x, cR_x, cV_x, gz_0, gz_1, acc_enc, tI_sI, tL_sI, tR_sI, tN_sI, tZ_sI, tC_sI, tc_sI, tz_sI, tI_sL, tL_sL, tR_sL, tN_sL, tZ_sL, tC_sL, tc_sL, tz_sL, tI_sR, tL_sR, tR_sR, tN_sR, tZ_sR, tC_sR, tc_sR, tz_sR, tI_sZ, tL_sZ, tR_sZ, tN_sZ, tZ_sZ, tC_sZ, tc_sZ, tz_sZ, tI_sC, tL_sC, tR_sC, tN_sC, tZ_sC, tC_sC, tc_sC, tz_sC, tI_aC, tL_aC, tR_aC, tN_aC, tZ_aC, tC_aC, tc_aC, tz_aC, tI_rmL, tL_rmL, tR_rmL, tN_rmL, tZ_rmL, tC_rmL, tc_rmL, tz_rmL, tI_mk, tL_mk, tR_mk, tN_mk, tZ_mk, tC_mk, tc_mk, tz_mk, tI_pushL, tL_pushL, tR_pushL, tN_pushL, tZ_pushL, tC_pushL, tc_pushL, tz_pushL, tI_pushB, tL_pushB, tR_pushB, tN_pushB, tZ_pushB, tC_pushB, tc_pushB, tz_pushB, tI_cpL, tL_cpL, tR_cpL, tN_cpL, tZ_cpL, tC_cpL, tc_cpL, tz_cpL, eq_self, true_and, and_true, false_and, and_false, if_true, if_false, reduceIte, ite_true, ite_false, not_true_eq_false, not_false_eq_true, y, y2, e]
      rw [y166 (k := t) (b := sI b1 61 j' 9 1) hFR y2 (hk _ (by simp (config := {decide := true}) only [gfI_enc, gfL_enc, gfR_enc, pfI_enc, pfL_enc, pfR_enc, Option.bind_some, cI_v, cL_v, cF_v, cD_v, cR_v, cV_v, cI_x, cL_x, cR_x, cV_x, gz_0, gz_1, acc_enc, tI_sI, tL_sI, tR_sI, tN_sI, tZ_sI, tC_sI, tc_sI, tz_sI, tI_sL, tL_sL, tR_sL, tN_sL, tZ_sL, tC_sL, tc_sL, tz_sL, tI_sR, tL_sR, tR_sR, tN_sR, tZ_sR, tC_sR, tc_sR, tz_sR, tI_sZ, tL_sZ, tR_sZ, tN_sZ, tZ_sZ, tC_sZ, tc_sZ, tz_sZ, tI_sC, tL_sC, tR_sC, tN_sC, tZ_sC, tC_sC, tc_sC, tz_sC, tI_aC, tL_aC, tR_aC, tN_aC, tZ_aC, tC_aC, tc_aC, tz_aC, tI_rmL, tL_rmL, tR_rmL, tN_rmL, tZ_rmL, tC_rmL, tc_rmL, tz_rmL, tI_mk, tL_mk, tR_mk, tN_mk, tZ_mk, tC_mk, tc_mk, tz_mk, tI_pushL, tL_pushL, tR_pushL, tN_pushL, tZ_pushL, tC_pushL, tc_pushL, tz_pushL, tI_pushB, tL_pushB, tR_pushB, tN_pushB, tZ_pushB, tC_pushB, tc_pushB, tz_pushB, tI_cpL, tL_cpL, tR_cpL, tN_cpL, tZ_cpL, tC_cpL, tc_cpL, tz_cpL, eq_self, true_and, and_true, false_and, and_false, if_true, if_false, reduceIte, ite_true, ite_false, not_true_eq_false, not_false_eq_true]) (by simp (config := {decide := true}) only [gfI_enc, gfL_enc, gfR_enc, pfI_enc, pfL_enc, pfR_enc, Option.bind_some, cI_v, cL_v, cF_v, cD_v, cR_v, cV_v, cI_x, cL_x, cR_x, cV_x, gz_0, gz_1, acc_enc, tI_sI, tL_sI, tR_sI, tN_sI, tZ_sI, tC_sI, tc_sI, tz_sI, tI_sL, tL_sL, tR_sL, tN_sL, tZ_sL, tC_sL, tc_sL, tz_sL, tI_sR, tL_sR, tR_sR, tN_sR, tZ_sR, tC_sR, tc_sR, tz_sR, tI_sZ, tL_sZ, tR_sZ, tN_sZ, tZ_sZ, tC_sZ, tc_sZ, tz_sZ, tI_sC, tL_sC, tR_sC, tN_sC, tZ_sC, tC_sC, tc_sC, tz_sC, tI_aC, tL_aC, tR_aC, tN_aC, tZ_aC, tC_aC, tc_aC, tz_aC, tI_rmL, tL_rmL, tR_rmL, tN_rmL, tZ_rmL, tC_rmL, tc_rmL, tz_rmL, tI_mk, tL_mk, tR_mk, tN_mk, tZ_mk, tC_mk, tc_mk, tz_mk, tI_pushL, tL_pushL, tR_pushL, tN_pushL, tZ_pushL, tC_pushL, tc_pushL, tz_pushL, tI_pushB, tL_pushB, tR_pushB, tN_pushB, tZ_pushB, tC_pushB, tc_pushB, tz_pushB, tI_cpL, tL_cpL, tR_cpL, tN_cpL, tZ_cpL, tC_cpL, tc_cpL, tz_cpL, eq_self, true_and, and_true, false_and, and_false, if_true, if_false, reduceIte, ite_true, ite_false, not_true_eq_false, not_false_eq_true]))]
      rfl
    · simp (config := {decide := true}) only [gfI_enc, gfL_enc, gfR_enc, pfI_enc, pfL_enc, pfR_enc, Option.bind_some, cI_v, cL_v, cF_v, cD_v, cR_v, cV_v, cI_x, cL_x, cR_x, cV_x, gz_0, gz_1, acc_enc, tI_sI, tL_sI, tR_sI, tN_sI, tZ_sI, tC_sI, tc_sI, tz_sI, tI_sL, tL_sL, tR_sL, tN_sL, tZ_sL, tC_sL, tc_sL, tz_sL, tI_sR, tL_sR, tR_sR, tN_sR, tZ_sR, tC_sR, tc_sR, tz_sR, tI_sZ, tL_sZ, tR_sZ, tN_sZ, tZ_sZ, tC_sZ, tc_sZ, tz_sZ, tI_sC, tL_sC, tR_sC, tN_sC, tZ_sC, tC_sC, tc_sC, tz_sC, tI_aC, tL_aC, tR_aC, tN_aC, tZ_aC, tC_aC, tc_aC, tz_aC, tI_rmL, tL_rmL, tR_rmL, tN_rmL, tZ_rmL, tC_rmL, tc_rmL, tz_rmL, tI_mk, tL_mk, tR_mk, tN_mk, tZ_mk, tC_mk, tc_mk, tz_mk, tI_pushL, tL_pushL, tR_pushL, tN_pushL, tZ_pushL, tC_pushL, tc_pushL, tz_pushL, tI_pushB, tL_pushB, tR_pushB, tN_pushB, tZ_pushB, tC_pushB, tc_pushB, tz_pushB, tI_cpL, tL_cpL, tR_cpL, tN_cpL, tZ_cpL, tC_cpL, tc_cpL, tz_cpL, eq_self, true_and, and_true, false_and, and_false, if_true, if_false, reduceIte, ite_true, ite_false, not_true_eq_false, not_false_eq_true, y, y2, e]
      rw [y166 (k := t) hFR y2 (hk _ rfl rfl)]
      rfl
  have hmid : R0 (if tR a1 4 j 8 = none then sI a1 4 j 5 1 else a1) (if tI b1 61 j' 8 = 0 then sI b1 61 j' 9 1 else b1) ∧ chF [4] [] a1 (if tR a1 4 j 8 = none then sI a1 4 j 5 1 else a1) ∧ chF [61] [] b1 (if tI b1 61 j' 8 = 0 then sI b1 61 j' 9 1 else b1) ∧ Wr a1 (if tR a1 4 j 8 = none then sI a1 4 j 5 1 else a1) ∧ Wr b1 (if tI b1 61 j' 8 = 0 then sI b1 61 j' 9 1 else b1) := by
    by_cases e : tR a1 4 j 8 = none
    · rw [if_pos e, if_pos (hpost.mp e)]
      have c1 : chF [4] [] a1 (sI a1 4 j 5 1) := chF_I (by simp) (chF_r _ _ _)
      have c2 : chF [61] [] b1 (sI b1 61 j' 9 1) := chF_I (by simp) (chF_r _ _ _)
      refine ⟨R0_kn hR1' (flag5_R hK hp x1 y1) (RB_c hB c1 c2 (by decide) (by decide)) (chF_m c1 (by simp) (by simp)) (chF_m c2 (by simp) (by simp)) ((Wr.rf _).cI _ _ _ _) ((Wr.rf _).cI _ _ _ _) (fun n hn => ?_) (fun n hn => ?_) (fun n hn => rfl), c1, c2, (Wr.rf _).cI _ _ _ _, (Wr.rf _).cI _ _ _ _⟩
      · rw [hI_sI hK.2.1 hp y1 _ _ hn, if_neg (fun q => absurd q.2 (by decide))]
      · rw [hI_sI hK.2.1 hp y1 _ _ hn, if_neg (fun q => absurd q.2 (by decide))]
    · rw [if_neg e, if_neg (fun q => e (hpost.mpr q))]
      exact ⟨hR1', chF_r _ _ _, chF_r _ _ _, Wr.rf _, Wr.rf _⟩
  obtain ⟨hR2, c1, c2, wa2, wb2⟩ := hmid
  have x1' : tR (if tR a1 4 j 8 = none then sI a1 4 j 5 1 else a1) 3 0 p = some (4, j) := by split <;> exact x1
  have y1' : tR (if tI b1 61 j' 8 = 0 then sI b1 61 j' 9 1 else b1) 53 0 p = some (61, j') := by split <;> exact y1
  have ht' : hI (if tI b1 61 j' 8 = 0 then sI b1 61 j' 9 1 else b1) p 12 ≠ 0 → t < tZ (if tR a1 4 j 8 = none then sI a1 4 j 5 1 else a1) 26 0 ∧ tR (if tR a1 4 j 8 = none then sI a1 4 j 5 1 else a1) 4 j 4 = some (35, t) := by
    have e1 : hI (if tI b1 61 j' 8 = 0 then sI b1 61 j' 9 1 else b1) p 12 = hI b1 p 12 := by
      split
      · rw [hI_sI hK.2.1 hp y1 _ _ hp, if_neg (fun q => absurd q.2 (by decide))]
      · rfl
    have e2 : tZ (if tR a1 4 j 8 = none then sI a1 4 j 5 1 else a1) 26 0 = tZ a1 26 0 := by split <;> rfl
    have e3 : tR (if tR a1 4 j 8 = none then sI a1 4 j 5 1 else a1) 4 j 4 = tR a1 4 j 4 := by split <;> rfl
    rw [e1, e2, e3]
    exact fun z => ⟨(ht z).1, (ht z).2.1⟩
  have hTb : TbP b (freB (if tI b1 61 j' 8 = 0 then sI b1 61 j' 9 1 else b1) j' t) p := by
    have e9 : ∀ n f, n < 1000 → hI (if tI b1 61 j' 8 = 0 then sI b1 61 j' 9 1 else b1) n f = if n = p ∧ f = 9 ∧ hI b p 8 = 0 then 1 else hI b n f := fun n f hn => by
      have e8 : tI b1 61 j' 8 = hI b p 8 := (hI_at y1).symm.trans (wI p 8 hp)
      rw [e8]
      by_cases c : hI b p 8 = 0
      · rw [if_pos c, hI_sI hK.2.1 hp y1 _ _ hn, wI n f hn]
        simp only [c, and_true]
      · rw [if_neg c, wI n f hn, if_neg (fun q => c q.2.2)]
    have KB2 : KsB (if tI b1 61 j' 8 = 0 then sI b1 61 j' 9 1 else b1) := by
      split
      · exact hK.2.1
      · exact hK.2.1
    have y12 : hI (if tI b1 61 j' 8 = 0 then sI b1 61 j' 9 1 else b1) p 12 = hI b p 12 := by rw [e9 p 12 hp, if_neg (fun q => absurd q.2.1 (by decide))]
    have y13 : hI (if tI b1 61 j' 8 = 0 then sI b1 61 j' 9 1 else b1) p 13 = hI b p 13 := by rw [e9 p 13 hp, if_neg (fun q => absurd q.2.1 (by decide))]
    obtain ⟨f1, f2, f3⟩ := freB_x (t := t) KB2 hp y1' (by rw [y12, ← wI p 12 hp]; exact q2) (fun z => by
      rw [y12, ← wI p 12 hp] at z
      obtain ⟨t1, t2, t3⟩ := ht z
      rw [y13, ← wI p 13 hp]
      exact ⟨t3, by have := hB.1; omega⟩)
    refine ⟨fun n f hn => ?_, fun n u f hn hu => ?_, fun u hu => ?_⟩
    · rw [f1 n f hn, e9 n f hn]
    · rw [f2 n u f hu]
      have : hA (if tI b1 61 j' 8 = 0 then sI b1 61 j' 9 1 else b1) n u f = hA b1 n u f := by
        split
        · rw [hA_o _ (by omega)]
        · rfl
      rw [this]
      exact wA n u f hn hu
    · rw [f3 u hu, y12, y13]
      have : tL (if tI b1 61 j' 8 = 0 then sI b1 61 j' 9 1 else b1) 44 0 u = tL b 44 0 u := by
        have e0 : tL b1 44 0 u = tL b 44 0 u := dLS cb (S := [44]) (P := []) (by decide) (by simp) 0 u
        split
        · exact e0
        · exact e0
      rw [this]
  refine ⟨_, _, hEx, hEy, ?_⟩
  revert hTb
  generalize (if tR a1 4 j 8 = none then sI a1 4 j 5 1 else a1) = a2 at *
  generalize (if tI b1 61 j' 8 = 0 then sI b1 61 j' 9 1 else b1) = b2 at *
  have hR2' := hR2
  obtain ⟨-, -, hB2, -, -, -, -, -, -, -, -, -, -, hK2, -⟩ := hR2'
  intro hTb
  obtain ⟨f1, f2, f3, f4, f5, f6⟩ := free_R hK2 hB2 hp x1' y1' ht'
  refine ⟨R0_kn hR2 f1 f2 f3 (chF_m f4 (by simp) (by simp)) f5 f6 (fun n hn => freB_v hK2.2.1 hp y1' hn (by decide)) (fun n hn => freB_v hK2.2.1 hp y1' hn (by decide)) (fun n hn => freA_v hK2.1 hp x1' hn (by decide)), ?_, ?_, (wa.t wa2).t f5, (wb.t wb2).t f6, hTb⟩
  · exact chF_t (chF_m ca (by simp) (by simp)) (chF_t (chF_m c1 (by simp) (by simp)) (chF_m f3 (by simp) (by simp)))
  · exact chF_t (chF_m cb (by simp) (by simp)) (chF_t (chF_m c2 (by simp) (by simp)) (chF_m f4 (by simp) (by simp)))
