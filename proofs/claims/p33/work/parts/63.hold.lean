/-! ===== one number's knowledge changes ===== -/
theorem KnR_v {a a' b b' : TS} {n : Nat} (h : KnR a b n) (vI : ∀ f, kI a' n f = kI a n f) (vR : ∀ f, kR a' n f = kR a n f) (wI : ∀ f, hI b' n f = hI b n f) (wA : ∀ t f, (t = 62 ∨ t = 63 ∨ t = 64) → hA b' n t f = hA b n t f)
    (z26 : tZ a' 26 0 = tZ a 26 0) (z27 : tZ a' 27 0 = tZ a 27 0) (z28 : tZ a' 28 0 = tZ a 28 0) (w86 : ∀ k, tI b' 86 0 k = tI b 86 0 k) (g5 : gro a a' 5) (g6 : gro a a' 6) (g7 : gro a a' 7) (g17 : gro a a' 17) : KnR a' b' n := by
  obtain ⟨h3, h4, ⟨h5, h5'⟩, ⟨h6, h6', h6''⟩, ⟨h7, h7', h7''⟩⟩ := h
  unfold KnR
  simp only [vI, vR, wI, wA 62 _ (Or.inl rfl), wA 63 _ (Or.inr (Or.inl rfl)), wA 64 _ (Or.inr (Or.inr rfl)), z26, z27, z28, w86]
  refine ⟨h3, h4, ⟨h5, fun z => ?_⟩, ⟨h6, h6', fun z => ?_⟩, ⟨h7, h7', fun z => ?_⟩⟩
  · obtain ⟨i, j, i1, i2, i3, i4, i5⟩ := h5' z
    refine ⟨i, j, Nat.lt_of_lt_of_le i1 g5.1, Nat.lt_of_lt_of_le i2 g6.1, i3, i4, ?_⟩
    rw [g5.2 i i1, g5.2 i i1, g5.2 i i1, g5.2 i i1, g5.2 i i1, g5.2 i i1, g5.2 i i1, g5.2 i i1, g5.2 i i1, g6.2 j i2, g6.2 j i2, g6.2 j i2]
    exact i5
  · obtain ⟨i, i1, i2, i3⟩ := h6'' z
    refine ⟨i, Nat.lt_of_lt_of_le i1 g17.1, i2, ?_⟩
    rw [g17.2 i i1, g17.2 i i1, g17.2 i i1]
    exact i3
  · obtain ⟨i, k, t, s, i1, i2, i3, i4, i5, i6⟩ := h7'' z
    refine ⟨i, k, t, s, Nat.lt_of_lt_of_le i1 g7.1, i2, i3, i4, i5, ?_⟩
    rw [g7.2 i i1, g7.2 i i1, g7.2 i i1]
    exact i6
theorem gro_r (a : TS) (t : Nat) : gro a a t := ⟨Nat.le_refl _, fun _ _ _ => rfl⟩
theorem gro_t {a b c : TS} {t : Nat} (h1 : gro a b t) (h2 : gro b c t) : gro a c t := ⟨Nat.le_trans h1.1 h2.1, fun i hi k => (h2.2 i (Nat.lt_of_lt_of_le hi h1.1) k).trans (h1.2 i hi k)⟩
theorem gro_o {a b : TS} {t : Nat} (h1 : tN b t = tN a t) (h2 : ∀ i k, tI b t i k = tI a t i k) : gro a b t := ⟨Nat.le_of_eq h1.symm, fun i _ k => h2 i k⟩
theorem z_lt {m : Int32} (h : 0 < m) : m ≠ 0 ∧ ¬ m < 0 := by
  rw [Int32.lt_iff_toInt_lt] at h
  have h : (0 : Int) < m.toInt := h
  refine ⟨fun e => ?_, fun q => ?_⟩
  · rw [e] at h
    exact absurd h (by decide)
  · rw [Int32.lt_iff_toInt_lt] at q
    have q : m.toInt < 0 := q
    omega
/-- a hold begins -/
theorem hold_R {a b : TS} {p j j' t : Nat} {m : Int32} (hK : RK a b) (hB : RB a b) (hp : p < 1000) (h1 : tR a 3 0 p = some (4, j)) (h2 : tR b 53 0 p = some (61, j')) (ht : t < tZ a 26 0) (hm : 0 < m) :
    RK (sL (sR (sI a 4 j 3 m) 4 j 4 (some (35, t))) 35 t 1 (tL a 35 t 1 + m.toInt64)) (sL (sI (sI b 61 j' 12 m) 61 j' 13 (Int32.ofNat t)) 44 0 t (tL b 44 0 t + m.toInt64)) ∧
    RB (sL (sR (sI a 4 j 3 m) 4 j 4 (some (35, t))) 35 t 1 (tL a 35 t 1 + m.toInt64)) (sL (sI (sI b 61 j' 12 m) 61 j' 13 (Int32.ofNat t)) 44 0 t (tL b 44 0 t + m.toInt64)) := by
  obtain ⟨KA, KB, KN⟩ := hK
  obtain ⟨m1, m2⟩ := z_lt hm
  have vI : ∀ n f, n < 1000 → kI (sL (sR (sI a 4 j 3 m) 4 j 4 (some (35, t))) 35 t 1 (tL a 35 t 1 + m.toInt64)) n f = if n = p ∧ f = 3 then m else kI a n f := fun n f hn => by
    show kI (sR (sI a 4 j 3 m) 4 j 4 _) n f = _
    rw [kI_sR, kI_sI KA hp h1 _ _ hn]
  have vR : ∀ n f, n < 1000 → kR (sL (sR (sI a 4 j 3 m) 4 j 4 (some (35, t))) 35 t 1 (tL a 35 t 1 + m.toInt64)) n f = if n = p ∧ f = 4 then some (35, t) else kR a n f := fun n f hn => by
    show kR (sR (sI a 4 j 3 m) 4 j 4 _) n f = _
    rw [kR_sR (a := sI a 4 j 3 m) KA hp h1 _ _ hn]
    rfl
  have wI : ∀ n f, n < 1000 → hI (sL (sI (sI b 61 j' 12 m) 61 j' 13 (Int32.ofNat t)) 44 0 t (tL b 44 0 t + m.toInt64)) n f = if n = p ∧ f = 13 then Int32.ofNat t else if n = p ∧ f = 12 then m else hI b n f := fun n f hn => by
    show hI (sI (sI b 61 j' 12 m) 61 j' 13 (Int32.ofNat t)) n f = _
    rw [hI_sI (b := sI b 61 j' 12 m) KB hp h2 _ _ hn, hI_sI KB hp h2 _ _ hn]
  have wA : ∀ n t' f, (t' = 62 ∨ t' = 63 ∨ t' = 64) → hA (sL (sI (sI b 61 j' 12 m) 61 j' 13 (Int32.ofNat t)) 44 0 t (tL b 44 0 t + m.toInt64)) n t' f = hA b n t' f := fun n t' f h => by
    show hA (sI (sI b 61 j' 12 m) 61 j' 13 (Int32.ofNat t)) n t' f = _
    rw [hA_o _ (by omega), hA_o _ (by omega)]
  have o : ∀ s, s ≠ 4 → gro a (sL (sR (sI a 4 j 3 m) 4 j 4 (some (35, t))) 35 t 1 (tL a 35 t 1 + m.toInt64)) s := fun s hs => gro_o rfl (fun i k => by simp (config := {decide := true}) only [gfI_enc, gfL_enc, gfR_enc, pfI_enc, pfL_enc, pfR_enc, Option.bind_some, cI_v, cL_v, cF_v, cD_v, cR_v, cV_v, cI_x, cL_x, cR_x, cV_x, gz_0, gz_1, acc_enc, tI_sI, tL_sI, tR_sI, tN_sI, tZ_sI, tC_sI, tc_sI, tz_sI, tI_sL, tL_sL, tR_sL, tN_sL, tZ_sL, tC_sL, tc_sL, tz_sL, tI_sR, tL_sR, tR_sR, tN_sR, tZ_sR, tC_sR, tc_sR, tz_sR, tI_sZ, tL_sZ, tR_sZ, tN_sZ, tZ_sZ, tC_sZ, tc_sZ, tz_sZ, tI_sC, tL_sC, tR_sC, tN_sC, tZ_sC, tC_sC, tc_sC, tz_sC, tI_aC, tL_aC, tR_aC, tN_aC, tZ_aC, tC_aC, tc_aC, tz_aC, tI_rmL, tL_rmL, tR_rmL, tN_rmL, tZ_rmL, tC_rmL, tc_rmL, tz_rmL, tI_mk, tL_mk, tR_mk, tN_mk, tZ_mk, tC_mk, tc_mk, tz_mk, tI_pushL, tL_pushL, tR_pushL, tN_pushL, tZ_pushL, tC_pushL, tc_pushL, tz_pushL, tI_pushB, tL_pushB, tR_pushB, tN_pushB, tZ_pushB, tC_pushB, tc_pushB, tz_pushB, tI_cpL, tL_cpL, tR_cpL, tN_cpL, tZ_cpL, tC_cpL, tc_cpL, tz_cpL, eq_self, true_and, and_true, false_and, and_false, if_true, if_false, reduceIte, ite_true, ite_false, not_true_eq_false, not_false_eq_true, hs])
  refine ⟨⟨KsA_sL (KsA_sR (KsA_sI KA)), KB, fun n hn => ?_⟩, ?_⟩
  · by_cases e : n = p
    · subst e
      obtain ⟨⟨q1, q2, q3, q4⟩, q5⟩ := KN n hn
      refine ⟨?_, ?_⟩
      · simp (config := {decide := true}) only [vI n _ hn, vR n _ hn, wI n _ hn, true_and, if_true, if_false, and_false]
        exact ⟨m2, fun z => absurd z m1, fun _ => ⟨t, ht, rfl, rfl⟩⟩
      · simp (config := {decide := true}) only [vI n _ hn, vR n _ hn, wI n _ hn, wA n 62 _ (Or.inl rfl), wA n 63 _ (Or.inr (Or.inl rfl)), wA n 64 _ (Or.inr (Or.inr rfl)), true_and, if_true, if_false, and_false]
        exact q5
    · refine KnR_v (KN n hn) (fun f => ?_) (fun f => ?_) (fun f => ?_) (fun t f => wA n t f) rfl rfl rfl (fun k => rfl) (o 5 (by decide)) (o 6 (by decide)) (o 7 (by decide)) (o 17 (by decide))
      · rw [vI n f hn, if_neg (fun q => e q.1)]
      · rw [vR n f hn, if_neg (fun q => e q.1)]
      · rw [wI n f hn, if_neg (fun q => e q.1), if_neg (fun q => e q.1)]
  · obtain ⟨b1, b2, b3, b4, b5, b6, b7⟩ := hB
    refine ⟨b1, b2, b3, b4, fun k hk => ?_, fun k hk => ?_, b7⟩
    · obtain ⟨k1, k2, k3, k4, k5⟩ := b5 k hk
      simp (config := {decide := true}) only [gfI_enc, gfL_enc, gfR_enc, pfI_enc, pfL_enc, pfR_enc, Option.bind_some, cI_v, cL_v, cF_v, cD_v, cR_v, cV_v, cI_x, cL_x, cR_x, cV_x, gz_0, gz_1, acc_enc, tI_sI, tL_sI, tR_sI, tN_sI, tZ_sI, tC_sI, tc_sI, tz_sI, tI_sL, tL_sL, tR_sL, tN_sL, tZ_sL, tC_sL, tc_sL, tz_sL, tI_sR, tL_sR, tR_sR, tN_sR, tZ_sR, tC_sR, tc_sR, tz_sR, tI_sZ, tL_sZ, tR_sZ, tN_sZ, tZ_sZ, tC_sZ, tc_sZ, tz_sZ, tI_sC, tL_sC, tR_sC, tN_sC, tZ_sC, tC_sC, tc_sC, tz_sC, tI_aC, tL_aC, tR_aC, tN_aC, tZ_aC, tC_aC, tc_aC, tz_aC, tI_rmL, tL_rmL, tR_rmL, tN_rmL, tZ_rmL, tC_rmL, tc_rmL, tz_rmL, tI_mk, tL_mk, tR_mk, tN_mk, tZ_mk, tC_mk, tc_mk, tz_mk, tI_pushL, tL_pushL, tR_pushL, tN_pushL, tZ_pushL, tC_pushL, tc_pushL, tz_pushL, tI_pushB, tL_pushB, tR_pushB, tN_pushB, tZ_pushB, tC_pushB, tc_pushB, tz_pushB, tI_cpL, tL_cpL, tR_cpL, tN_cpL, tZ_cpL, tC_cpL, tc_cpL, tz_cpL, eq_self, true_and, and_true, false_and, and_false, if_true, if_false, reduceIte, ite_true, ite_false, not_true_eq_false, not_false_eq_true]
      refine ⟨k1, k2, ?_, k4, k5⟩
      by_cases e : k = t
      · subst e
        rw [if_pos rfl, if_pos rfl, k3]
      · rw [if_neg e, if_neg e]
        exact k3
    · obtain ⟨k1, k2⟩ := b6 k hk
      have hk' : tZ a 26 0 ≤ k := hk
      simp (config := {decide := true}) only [gfI_enc, gfL_enc, gfR_enc, pfI_enc, pfL_enc, pfR_enc, Option.bind_some, cI_v, cL_v, cF_v, cD_v, cR_v, cV_v, cI_x, cL_x, cR_x, cV_x, gz_0, gz_1, acc_enc, tI_sI, tL_sI, tR_sI, tN_sI, tZ_sI, tC_sI, tc_sI, tz_sI, tI_sL, tL_sL, tR_sL, tN_sL, tZ_sL, tC_sL, tc_sL, tz_sL, tI_sR, tL_sR, tR_sR, tN_sR, tZ_sR, tC_sR, tc_sR, tz_sR, tI_sZ, tL_sZ, tR_sZ, tN_sZ, tZ_sZ, tC_sZ, tc_sZ, tz_sZ, tI_sC, tL_sC, tR_sC, tN_sC, tZ_sC, tC_sC, tc_sC, tz_sC, tI_aC, tL_aC, tR_aC, tN_aC, tZ_aC, tC_aC, tc_aC, tz_aC, tI_rmL, tL_rmL, tR_rmL, tN_rmL, tZ_rmL, tC_rmL, tc_rmL, tz_rmL, tI_mk, tL_mk, tR_mk, tN_mk, tZ_mk, tC_mk, tc_mk, tz_mk, tI_pushL, tL_pushL, tR_pushL, tN_pushL, tZ_pushL, tC_pushL, tc_pushL, tz_pushL, tI_pushB, tL_pushB, tR_pushB, tN_pushB, tZ_pushB, tC_pushB, tc_pushB, tz_pushB, tI_cpL, tL_cpL, tR_cpL, tN_cpL, tZ_cpL, tC_cpL, tc_cpL, tz_cpL, eq_self, true_and, and_true, false_and, and_false, if_true, if_false, reduceIte, ite_true, ite_false, not_true_eq_false, not_false_eq_true]
      rw [if_neg (by omega)]
      exact ⟨k1, k2⟩
/-- a hold ends -/
def freA (a : TS) (j t : Nat) : TS := if tR a 4 j 4 = none then a else sR (sI (sL a 35 t 1 (tL a 35 t 1 - (tI a 4 j 3).toInt64)) 4 j 3 0) 4 j 4 none
def freB (b : TS) (j t : Nat) : TS := if tI b 61 j 12 ≤ 0 then b else sI (sL b 44 0 t (tL b 44 0 t - (tI b 61 j 12).toInt64)) 61 j 12 0
theorem free_R {a b : TS} {p j j' t : Nat} (hK : RK a b) (hB : RB a b) (hp : p < 1000) (h1 : tR a 3 0 p = some (4, j)) (h2 : tR b 53 0 p = some (61, j')) (ht : hI b p 12 ≠ 0 → t < tZ a 26 0 ∧ tR a 4 j 4 = some (35, t)) :
    RK (freA a j t) (freB b j' t) ∧ RB (freA a j t) (freB b j' t) ∧ chF [4] [(35, 1)] a (freA a j t) ∧ chF [44, 61] [] b (freB b j' t) ∧ Wr a (freA a j t) ∧ Wr b (freB b j' t) := by
  obtain ⟨KA, KB, KN⟩ := hK
  have hKN := KN p hp
  obtain ⟨⟨q1, q2, q3, q4⟩, q5⟩ := hKN
  rw [kR_at h1] at q3
  unfold freA freB
  by_cases e0 : hI b p 12 = 0
  · have e1 : tI b 61 j' 12 ≤ 0 := by rw [← hI_at h2, e0]; exact Int32.le_refl _
    rw [if_pos (q3 e0), if_pos e1]
    exact ⟨⟨KA, KB, KN⟩, hB, chF_r _ _ _, chF_r _ _ _, Wr.rf _, Wr.rf _⟩
  · obtain ⟨ht1, ht2⟩ := ht e0
    have e1 : ¬ tI b 61 j' 12 ≤ 0 := by
      rw [← hI_at h2]
      intro q
      rw [Int32.le_iff_toInt_le] at q
      rw [Int32.lt_iff_toInt_lt] at q2
      have a1 : (hI b p 12).toInt ≤ 0 := q
      have a2 : ¬ (hI b p 12).toInt < 0 := q2
      exact e0 (Int32.toInt_inj.mp (show (hI b p 12).toInt = (0 : Int32).toInt by have : (0 : Int32).toInt = 0 := by decide
                                                                                  omega))
    have e2 : ¬ tR a 4 j 4 = none := by rw [ht2]; exact fun q => nomatch q
    rw [if_neg e2, if_neg e1]
    have q1' : tI a 4 j 3 = tI b 61 j' 12 := by rw [← kI_at h1, ← hI_at h2]; exact q1
    rw [q1']
    generalize tI b 61 j' 12 = m at *
    have vI : ∀ n f, n < 1000 → kI (sR (sI (sL a 35 t 1 (tL a 35 t 1 - m.toInt64)) 4 j 3 0) 4 j 4 none) n f = if n = p ∧ f = 3 then 0 else kI a n f := fun n f hn => by
      rw [kI_sR, kI_sI (a := sL a 35 t 1 (tL a 35 t 1 - m.toInt64)) KA hp h1 _ _ hn]
      rfl
    have vR : ∀ n f, n < 1000 → kR (sR (sI (sL a 35 t 1 (tL a 35 t 1 - m.toInt64)) 4 j 3 0) 4 j 4 none) n f = if n = p ∧ f = 4 then none else kR a n f := fun n f hn => by
      rw [kR_sR (a := sI (sL a 35 t 1 (tL a 35 t 1 - m.toInt64)) 4 j 3 0) KA hp h1 _ _ hn]
      rfl
    have wI : ∀ n f, n < 1000 → hI (sI (sL b 44 0 t (tL b 44 0 t - m.toInt64)) 61 j' 12 0) n f = if n = p ∧ f = 12 then 0 else hI b n f := fun n f hn => by
      rw [hI_sI (b := sL b 44 0 t (tL b 44 0 t - m.toInt64)) KB hp h2 _ _ hn]
      rfl
    have wA : ∀ n t' f, (t' = 62 ∨ t' = 63 ∨ t' = 64) → hA (sI (sL b 44 0 t (tL b 44 0 t - m.toInt64)) 61 j' 12 0) n t' f = hA b n t' f := fun n t' f h => by
      rw [hA_o _ (by omega)]
      rfl
    have o : ∀ s, s ≠ 4 → gro a (sR (sI (sL a 35 t 1 (tL a 35 t 1 - m.toInt64)) 4 j 3 0) 4 j 4 none) s := fun s hs => gro_o rfl (fun i k => by simp (config := {decide := true}) only [gfI_enc, gfL_enc, gfR_enc, pfI_enc, pfL_enc, pfR_enc, Option.bind_some, cI_v, cL_v, cF_v, cD_v, cR_v, cV_v, cI_x, cL_x, cR_x, cV_x, gz_0, gz_1, acc_enc, tI_sI, tL_sI, tR_sI, tN_sI, tZ_sI, tC_sI, tc_sI, tz_sI, tI_sL, tL_sL, tR_sL, tN_sL, tZ_sL, tC_sL, tc_sL, tz_sL, tI_sR, tL_sR, tR_sR, tN_sR, tZ_sR, tC_sR, tc_sR, tz_sR, tI_sZ, tL_sZ, tR_sZ, tN_sZ, tZ_sZ, tC_sZ, tc_sZ, tz_sZ, tI_sC, tL_sC, tR_sC, tN_sC, tZ_sC, tC_sC, tc_sC, tz_sC, tI_aC, tL_aC, tR_aC, tN_aC, tZ_aC, tC_aC, tc_aC, tz_aC, tI_rmL, tL_rmL, tR_rmL, tN_rmL, tZ_rmL, tC_rmL, tc_rmL, tz_rmL, tI_mk, tL_mk, tR_mk, tN_mk, tZ_mk, tC_mk, tc_mk, tz_mk, tI_pushL, tL_pushL, tR_pushL, tN_pushL, tZ_pushL, tC_pushL, tc_pushL, tz_pushL, tI_pushB, tL_pushB, tR_pushB, tN_pushB, tZ_pushB, tC_pushB, tc_pushB, tz_pushB, tI_cpL, tL_cpL, tR_cpL, tN_cpL, tZ_cpL, tC_cpL, tc_cpL, tz_cpL, eq_self, true_and, and_true, false_and, and_false, if_true, if_false, reduceIte, ite_true, ite_false, not_true_eq_false, not_false_eq_true, hs])
    refine ⟨⟨KsA_sR (KsA_sI (KsA_sL KA)), KB, fun n hn => ?_⟩, ?_, chF_R (by simp) (chF_I (by simp) (chF_L (by simp) (chF_r _ _ _))), chF_I (by simp) (chF_L (by simp) (chF_r _ _ _)), (((Wr.rf a).cL _ _ _ _).cI _ _ _ _).cR _ _ _ _, ((Wr.rf b).cL _ _ _ _).cI _ _ _ _⟩
    · by_cases e : n = p
      · subst e
        refine ⟨?_, ?_⟩
        · simp (config := {decide := true}) only [vI n _ hn, vR n _ hn, wI n _ hn, true_and, if_true, if_false, and_false]
          exact fun z => z.elim
        · simp (config := {decide := true}) only [vI n _ hn, vR n _ hn, wI n _ hn, wA n 62 _ (Or.inl rfl), wA n 63 _ (Or.inr (Or.inl rfl)), wA n 64 _ (Or.inr (Or.inr rfl)), true_and, if_true, if_false, and_false]
          exact q5
      · refine KnR_v (KN n hn) (fun f => ?_) (fun f => ?_) (fun f => ?_) (fun t f => wA n t f) rfl rfl rfl (fun k => rfl) (o 5 (by decide)) (o 6 (by decide)) (o 7 (by decide)) (o 17 (by decide))
        · rw [vI n f hn, if_neg (fun q => e q.1)]
        · rw [vR n f hn, if_neg (fun q => e q.1)]
        · rw [wI n f hn, if_neg (fun q => e q.1)]
    · obtain ⟨b1, b2, b3, b4, b5, b6, b7⟩ := hB
      refine ⟨b1, b2, b3, b4, fun k hk => ?_, fun k hk => ?_, b7⟩
      · obtain ⟨k1, k2, k3, k4, k5⟩ := b5 k hk
        simp (config := {decide := true}) only [gfI_enc, gfL_enc, gfR_enc, pfI_enc, pfL_enc, pfR_enc, Option.bind_some, cI_v, cL_v, cF_v, cD_v, cR_v, cV_v, cI_x, cL_x, cR_x, cV_x, gz_0, gz_1, acc_enc, tI_sI, tL_sI, tR_sI, tN_sI, tZ_sI, tC_sI, tc_sI, tz_sI, tI_sL, tL_sL, tR_sL, tN_sL, tZ_sL, tC_sL, tc_sL, tz_sL, tI_sR, tL_sR, tR_sR, tN_sR, tZ_sR, tC_sR, tc_sR, tz_sR, tI_sZ, tL_sZ, tR_sZ, tN_sZ, tZ_sZ, tC_sZ, tc_sZ, tz_sZ, tI_sC, tL_sC, tR_sC, tN_sC, tZ_sC, tC_sC, tc_sC, tz_sC, tI_aC, tL_aC, tR_aC, tN_aC, tZ_aC, tC_aC, tc_aC, tz_aC, tI_rmL, tL_rmL, tR_rmL, tN_rmL, tZ_rmL, tC_rmL, tc_rmL, tz_rmL, tI_mk, tL_mk, tR_mk, tN_mk, tZ_mk, tC_mk, tc_mk, tz_mk, tI_pushL, tL_pushL, tR_pushL, tN_pushL, tZ_pushL, tC_pushL, tc_pushL, tz_pushL, tI_pushB, tL_pushB, tR_pushB, tN_pushB, tZ_pushB, tC_pushB, tc_pushB, tz_pushB, tI_cpL, tL_cpL, tR_cpL, tN_cpL, tZ_cpL, tC_cpL, tc_cpL, tz_cpL, eq_self, true_and, and_true, false_and, and_false, if_true, if_false, reduceIte, ite_true, ite_false, not_true_eq_false, not_false_eq_true]
        refine ⟨k1, k2, ?_, k4, k5⟩
        by_cases e : k = t
        · subst e
          rw [if_pos rfl, if_pos rfl, k3]
        · rw [if_neg e, if_neg e]
          exact k3
      · obtain ⟨k1, k2⟩ := b6 k hk
        have hk' : tZ a 26 0 ≤ k := hk
        simp (config := {decide := true}) only [gfI_enc, gfL_enc, gfR_enc, pfI_enc, pfL_enc, pfR_enc, Option.bind_some, cI_v, cL_v, cF_v, cD_v, cR_v, cV_v, cI_x, cL_x, cR_x, cV_x, gz_0, gz_1, acc_enc, tI_sI, tL_sI, tR_sI, tN_sI, tZ_sI, tC_sI, tc_sI, tz_sI, tI_sL, tL_sL, tR_sL, tN_sL, tZ_sL, tC_sL, tc_sL, tz_sL, tI_sR, tL_sR, tR_sR, tN_sR, tZ_sR, tC_sR, tc_sR, tz_sR, tI_sZ, tL_sZ, tR_sZ, tN_sZ, tZ_sZ, tC_sZ, tc_sZ, tz_sZ, tI_sC, tL_sC, tR_sC, tN_sC, tZ_sC, tC_sC, tc_sC, tz_sC, tI_aC, tL_aC, tR_aC, tN_aC, tZ_aC, tC_aC, tc_aC, tz_aC, tI_rmL, tL_rmL, tR_rmL, tN_rmL, tZ_rmL, tC_rmL, tc_rmL, tz_rmL, tI_mk, tL_mk, tR_mk, tN_mk, tZ_mk, tC_mk, tc_mk, tz_mk, tI_pushL, tL_pushL, tR_pushL, tN_pushL, tZ_pushL, tC_pushL, tc_pushL, tz_pushL, tI_pushB, tL_pushB, tR_pushB, tN_pushB, tZ_pushB, tC_pushB, tc_pushB, tz_pushB, tI_cpL, tL_cpL, tR_cpL, tN_cpL, tZ_cpL, tC_cpL, tc_cpL, tz_cpL, eq_self, true_and, and_true, false_and, and_false, if_true, if_false, reduceIte, ite_true, ite_false, not_true_eq_false, not_false_eq_true]
        rw [if_neg (by omega)]
        exact ⟨k1, k2⟩
