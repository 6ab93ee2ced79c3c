/-! ===== a counter is heard, a note is taken ===== -/
theorem he_R0 {a b : TS} {cd c p : Nat} (hR : R0 a b) (hcd : cd < tZ a 28 0) (hc : c < 201) (hp : p < tZ a 29 0) (hp1 : tI b 87 0 (10 * p + 1) = Int32.ofNat cd) (hp4 : tI b 87 0 (10 * p + 4) = Int32.ofNat c) :
    ∃ b', (∀ z, Ex 163 [aR (some (94, 0)), aI (Int32.ofNat cd), aI (Int32.ofNat c), aI (Int32.ofNat p)] (enc 2 b z) = some (.inl none, enc 2 b' z)) ∧ R0 (heA a cd c (Int32.ofNat p)) b' ∧ chF [1] [(37, 14)] a (heA a cd c (Int32.ofNat p)) ∧ chF [54, 55, 56] [(94, 6)] b b' ∧ Wr a (heA a cd c (Int32.ofNat p)) ∧ Wr b b' := by
  obtain ⟨hFC, hFR, hB, hS, hM, hW, hV, hC, hD, hE, hP, hQ, hH, hK, hG, hO, hZ⟩ := hR
  obtain ⟨b', y, hG', hb, wb⟩ := y163 hFR hG hcd hC.1 hc hP.1 hp hp1 hp4
  have ha := heA_chF a cd c (Int32.ofNat p)
  have wa := heA_wr a cd c (Int32.ofNat p)
  have e : ∀ s, tN (heA a cd c (Int32.ofNat p)) s = tN a s ∧ ∀ k, tZ (heA a cd c (Int32.ofNat p)) s k = tZ a s k := fun s => by
    unfold heA
    split <;> exact ⟨rfl, fun _ => rfl⟩
  have hC' : RC (heA a cd c (Int32.ofNat p)) b' := RC_w hC ha hb (by decide) (by decide) (e 1).1 (e 2).1 (e 1).2 (e 2).2
  exact ⟨b', y, ⟨FxC_s hFC wa ha (by decide), FxR_s hFR wb hb (by decide), RB_c hB ha hb (by decide) (by decide), RS_c hS ha hb (by decide) (by decide), RM_c hM ha hb (by decide) (by decide), RW_c hW ha hb (by decide) (by decide), RV_c hV ha hb (by decide) (by decide), hC', RD_c hD ha hb (by decide) (by decide), RE_c hE ha hb (by decide) (by decide), RP_c hP ha hb (by decide) (by decide), RQ_c hQ ha hb (by decide) (by decide), RH_c hH ha hb (by decide) (by decide), RK_c hK ha hb (by decide) (by decide) (gro_c ha (by decide)) (gro_c ha (by decide)) (gro_c ha (by decide)) (gro_c ha (by decide)), hG', RO_c hO ha hb (by decide) (by decide), RZ_c hZ ha hb (by decide) (by decide)⟩, ha, hb, wa, wb⟩
/-- a note in what is known -/
def notB (b : TS) (j cd c : Nat) (m : Int32) : TS := sI (sI (sI (sI b 61 j 7 1) 63 j 0 (Int32.ofNat cd)) 63 j 1 (Int32.ofNat c)) 63 j 2 m
theorem note_R {a b : TS} {p j j' cd c i : Nat} {m : Int32} (hR : R0 a b) (hp : p < 1000) (h1 : tR a 3 0 p = some (4, j)) (h2 : tR b 53 0 p = some (61, j')) (hi : i < tN a 17) (m2 : tI a 17 i 2 = Int32.ofNat cd) (m4 : tI a 17 i 4 = Int32.ofNat c) (m5 : tI a 17 i 5 = m) :
    R0 (sR a 4 j 2 (some (17, i))) (notB b j' cd c m) ∧ chF [4] [] a (sR a 4 j 2 (some (17, i))) ∧ chF [61, 63] [] b (notB b j' cd c m) ∧ Wr a (sR a 4 j 2 (some (17, i))) ∧ Wr b (notB b j' cd c m) := by
  have ha : chF [4] [] a (sR a 4 j 2 (some (17, i))) := chF_R (by simp) (chF_r _ _ _)
  have hb : chF [61, 63] [] b (notB b j' cd c m) := chF_I (by simp) (chF_I (by simp) (chF_I (by simp) (chF_I (by simp) (chF_r _ _ _))))
  have wa : Wr a (sR a 4 j 2 (some (17, i))) := (Wr.rf a).cR _ _ _ _
  have wb : Wr b (notB b j' cd c m) := ((((Wr.rf b).cI _ _ _ _).cI _ _ _ _).cI _ _ _ _).cI _ _ _ _
  refine ⟨?_, ha, hb, wa, wb⟩
  obtain ⟨KA, KB, KN⟩ := r_K hR
  have hN3 := KB.2.2.1.2.1
  have vI : ∀ n f, n < 1000 → kI (sR a 4 j 2 (some (17, i))) n f = kI a n f := fun n f hn => kI_sR _ _
  have vR : ∀ n f, n < 1000 → kR (sR a 4 j 2 (some (17, i))) n f = if n = p ∧ f = 2 then some (17, i) else kR a n f := fun n f hn => kR_sR KA hp h1 _ _ hn _
  have wI : ∀ n f, n < 1000 → hI (notB b j' cd c m) n f = if n = p ∧ f = 7 then 1 else hI b n f := fun n f hn => by
    unfold notB
    rw [hI_o (by decide), hI_o (by decide), hI_o (by decide), hI_sI KB hp h2 _ _ hn]
  have wA63 : ∀ n f, n < 1000 → hA (notB b j' cd c m) n 63 f = if n = p ∧ f = 2 then m else if n = p ∧ f = 1 then Int32.ofNat c else if n = p ∧ f = 0 then Int32.ofNat cd else hA b n 63 f := fun n f hn => by
    rcases KB.1 n hn with e | ⟨j2, e1, e2⟩
    · have ne : n ≠ p := fun q => by rw [q, h2] at e; cases e
      rw [if_neg (fun q => ne q.1), if_neg (fun q => ne q.1), if_neg (fun q => ne q.1)]
      unfold hA
      rw [show tR (notB b j' cd c m) 53 0 n = tR b 53 0 n from rfl, e]
    · rw [hA_at (b := notB b j' cd c m) e2, hA_at e2]
      unfold notB
      simp (config := {decide := true}) only [gfI_enc, gfL_enc, gfR_enc, pfI_enc, pfL_enc, pfR_enc, Option.bind_some, cI_v, cL_v, cF_v, cD_v, cR_v, cV_v, cI_x, cL_x, cR_x, cV_x, gz_0, gz_1, acc_enc, tI_sI, tL_sI, tR_sI, tN_sI, tZ_sI, tC_sI, tc_sI, tz_sI, tI_sL, tL_sL, tR_sL, tN_sL, tZ_sL, tC_sL, tc_sL, tz_sL, tI_sR, tL_sR, tR_sR, tN_sR, tZ_sR, tC_sR, tc_sR, tz_sR, tI_sZ, tL_sZ, tR_sZ, tN_sZ, tZ_sZ, tC_sZ, tc_sZ, tz_sZ, tI_sC, tL_sC, tR_sC, tN_sC, tZ_sC, tC_sC, tc_sC, tz_sC, tI_aC, tL_aC, tR_aC, tN_aC, tZ_aC, tC_aC, tc_aC, tz_aC, tI_rmL, tL_rmL, tR_rmL, tN_rmL, tZ_rmL, tC_rmL, tc_rmL, tz_rmL, tI_mk, tL_mk, tR_mk, tN_mk, tZ_mk, tC_mk, tc_mk, tz_mk, tI_pushL, tL_pushL, tR_pushL, tN_pushL, tZ_pushL, tC_pushL, tc_pushL, tz_pushL, tI_pushB, tL_pushB, tR_pushB, tN_pushB, tZ_pushB, tC_pushB, tc_pushB, tz_pushB, tI_cpL, tL_cpL, tR_cpL, tN_cpL, tZ_cpL, tC_cpL, tc_cpL, tz_cpL, eq_self, true_and, and_true, false_and, and_false, if_true, if_false, reduceIte, ite_true, ite_false, not_true_eq_false, not_false_eq_true]
      simp only [hn_inj KB hp hn h2 e2]
  have wAo : ∀ n u f, (u = 62 ∨ u = 64) → hA (notB b j' cd c m) n u f = hA b n u f := fun n u f hu => by
    unfold notB
    rw [hA_o _ (by omega), hA_o _ (by omega), hA_o _ (by omega), hA_o _ (by omega)]
  have o : ∀ s, ¬ s = 4 → gro a (sR a 4 j 2 (some (17, i))) s := fun s hs => gro_o rfl (fun i k => rfl)
  have hK' : RK (sR a 4 j 2 (some (17, i))) (notB b j' cd c m) := by
    refine ⟨KsA_sR KA, KB, fun n hn => ?_⟩
    by_cases e : n = p
    · subst e
      obtain ⟨q1, q2, q3, -, q5⟩ := KN n hn
      refine ⟨?_, ?_, ?_, ?_, ?_⟩
      · simp (config := {decide := true}) only [vI n _ hn, vR n _ hn, wI n _ hn, true_and, if_true, if_false, and_false]
        exact q1
      · simp (config := {decide := true}) only [vI n _ hn, vR n _ hn, wI n _ hn, true_and, if_true, if_false, and_false]
        exact q2
      · simp (config := {decide := true}) only [vI n _ hn, vR n _ hn, wI n _ hn, wAo n 62 _ (Or.inl rfl), true_and, if_true, if_false, and_false]
        exact q3
      · simp (config := {decide := true}) only [vI n _ hn, vR n _ hn, wI n _ hn, wA63 n _ hn, true_and, if_true, if_false, and_false]
        exact ⟨fun z => z.elim, fun _ => ⟨i, hi, rfl, m2, m4, m5⟩⟩
      · simp (config := {decide := true}) only [vI n _ hn, vR n _ hn, wI n _ hn, wAo n 64 _ (Or.inr rfl), true_and, if_true, if_false, and_false]
        exact q5
    · refine KnR_v (KN n hn) (fun f => vI n f hn) (fun f => ?_) (fun f => ?_) (fun u f hu => ?_) rfl rfl rfl (fun k => ?_) (o 5 (by decide)) (o 6 (by decide)) (o 7 (by decide)) (o 17 (by decide))
      · rw [vR n f hn, if_neg (fun q => e q.1)]
      · rw [wI n f hn, if_neg (fun q => e q.1)]
      · rcases hu with q | q | q
        · subst q; exact wAo n 62 f (Or.inl rfl)
        · subst q; rw [wA63 n f hn, if_neg (fun q => e q.1), if_neg (fun q => e q.1), if_neg (fun q => e q.1)]
        · subst q; exact wAo n 64 f (Or.inr rfl)
      · unfold notB
        simp (config := {decide := true}) only [gfI_enc, gfL_enc, gfR_enc, pfI_enc, pfL_enc, pfR_enc, Option.bind_some, cI_v, cL_v, cF_v, cD_v, cR_v, cV_v, cI_x, cL_x, cR_x, cV_x, gz_0, gz_1, acc_enc, tI_sI, tL_sI, tR_sI, tN_sI, tZ_sI, tC_sI, tc_sI, tz_sI, tI_sL, tL_sL, tR_sL, tN_sL, tZ_sL, tC_sL, tc_sL, tz_sL, tI_sR, tL_sR, tR_sR, tN_sR, tZ_sR, tC_sR, tc_sR, tz_sR, tI_sZ, tL_sZ, tR_sZ, tN_sZ, tZ_sZ, tC_sZ, tc_sZ, tz_sZ, tI_sC, tL_sC, tR_sC, tN_sC, tZ_sC, tC_sC, tc_sC, tz_sC, tI_aC, tL_aC, tR_aC, tN_aC, tZ_aC, tC_aC, tc_aC, tz_aC, tI_rmL, tL_rmL, tR_rmL, tN_rmL, tZ_rmL, tC_rmL, tc_rmL, tz_rmL, tI_mk, tL_mk, tR_mk, tN_mk, tZ_mk, tC_mk, tc_mk, tz_mk, tI_pushL, tL_pushL, tR_pushL, tN_pushL, tZ_pushL, tC_pushL, tc_pushL, tz_pushL, tI_pushB, tL_pushB, tR_pushB, tN_pushB, tZ_pushB, tC_pushB, tc_pushB, tz_pushB, tI_cpL, tL_cpL, tR_cpL, tN_cpL, tZ_cpL, tC_cpL, tc_cpL, tz_cpL, eq_self, true_and, and_true, false_and, and_false, if_true, if_false, reduceIte, ite_true, ite_false, not_true_eq_false, not_false_eq_true]
  have w8 : ∀ f, f ≠ 7 → ∀ n, n < 1000 → hI (notB b j' cd c m) n f = hI b n f := fun f hf n hn => by rw [wI n f hn, if_neg (fun q => hf q.2)]
  exact R0_kn hR hK' (RB_c (r_B hR) ha hb (by decide) (by decide)) (chF_m ha (by simp) (by simp)) (chF_m hb (by simp) (by simp)) wa wb (w8 8 (by decide)) (w8 14 (by decide)) (fun n hn => by rw [vR n 8 hn, if_neg (fun q => absurd q.2 (by decide))])
/-- a hold, by numbers -/
theorem hold_v {b : TS} {p j t : Nat} {m : Int32} (KB : KsB b) (hp : p < 1000) (h2 : tR b 53 0 p = some (61, j)) :
    (∀ n f, n < 1000 → hI (sL (sI (sI b 61 j 12 m) 61 j 13 (Int32.ofNat t)) 44 0 t (tL b 44 0 t + m.toInt64)) n f = if n = p ∧ f = 13 then Int32.ofNat t else if n = p ∧ f = 12 then m else hI b n f) ∧
    (∀ n u f, (u = 62 ∨ u = 63 ∨ u = 64) → hA (sL (sI (sI b 61 j 12 m) 61 j 13 (Int32.ofNat t)) 44 0 t (tL b 44 0 t + m.toInt64)) n u f = hA b n u f) ∧
    (∀ u, tL (sL (sI (sI b 61 j 12 m) 61 j 13 (Int32.ofNat t)) 44 0 t (tL b 44 0 t + m.toInt64)) 44 0 u = if u = t then tL b 44 0 u + m.toInt64 else tL b 44 0 u) := by
  refine ⟨fun n f hn => ?_, fun n u f hu => ?_, fun u => ?_⟩
  · show hI (sI (sI b 61 j 12 m) 61 j 13 (Int32.ofNat t)) n f = _
    rw [hI_sI (b := sI b 61 j 12 m) KB hp h2 _ _ hn, hI_sI KB hp h2 _ _ hn]
  · show hA (sI (sI b 61 j 12 m) 61 j 13 (Int32.ofNat t)) n u f = _
    rw [hA_o _ (by omega), hA_o _ (by omega)]
  · simp (config := {decide := true}) only [gfI_enc, gfL_enc, gfR_enc, pfI_enc, pfL_enc, pfR_enc, Option.bind_some, cI_v, cL_v, cF_v, cD_v, cR_v, cV_v, cI_x, cL_x, cR_x, cV_x, gz_0, gz_1, acc_enc, tI_sI, tL_sI, tR_sI, tN_sI, tZ_sI, tC_sI, tc_sI, tz_sI, tI_sL, tL_sL, tR_sL, tN_sL, tZ_sL, tC_sL, tc_sL, tz_sL, tI_sR, tL_sR, tR_sR, tN_sR, tZ_sR, tC_sR, tc_sR, tz_sR, tI_sZ, tL_sZ, tR_sZ, tN_sZ, tZ_sZ, tC_sZ, tc_sZ, tz_sZ, tI_sC, tL_sC, tR_sC, tN_sC, tZ_sC, tC_sC, tc_sC, tz_sC, tI_aC, tL_aC, tR_aC, tN_aC, tZ_aC, tC_aC, tc_aC, tz_aC, tI_rmL, tL_rmL, tR_rmL, tN_rmL, tZ_rmL, tC_rmL, tc_rmL, tz_rmL, tI_mk, tL_mk, tR_mk, tN_mk, tZ_mk, tC_mk, tc_mk, tz_mk, tI_pushL, tL_pushL, tR_pushL, tN_pushL, tZ_pushL, tC_pushL, tc_pushL, tz_pushL, tI_pushB, tL_pushB, tR_pushB, tN_pushB, tZ_pushB, tC_pushB, tc_pushB, tz_pushB, tI_cpL, tL_cpL, tR_cpL, tN_cpL, tZ_cpL, tC_cpL, tc_cpL, tz_cpL, eq_self, true_and, and_true, false_and, and_false, if_true, if_false, reduceIte, ite_true, ite_false, not_true_eq_false, not_false_eq_true]
    by_cases e : u = t
    · rw [if_pos e, if_pos e, e]
    · rw [if_neg e, if_neg e]
/-- a note, by numbers -/
theorem notB_v {b : TS} {p j' cd c : Nat} {m : Int32} (KB : KsB b) (hp : p < 1000) (h2 : tR b 53 0 p = some (61, j')) :
    (∀ n f, n < 1000 → hI (notB b j' cd c m) n f = if n = p ∧ f = 7 then 1 else hI b n f) ∧
    (∀ n f, n < 1000 → hA (notB b j' cd c m) n 63 f = if n = p ∧ f = 2 then m else if n = p ∧ f = 1 then Int32.ofNat c else if n = p ∧ f = 0 then Int32.ofNat cd else hA b n 63 f) ∧
    (∀ n u f, (u = 62 ∨ u = 64) → hA (notB b j' cd c m) n u f = hA b n u f) := by
  refine ⟨fun n f hn => ?_, fun n f hn => ?_, fun n u f hu => ?_⟩
  · unfold notB
    rw [hI_o (by decide), hI_o (by decide), hI_o (by decide), hI_sI KB hp h2 _ _ hn]
  · rcases KB.1 n hn with e | ⟨j2, e1, e2⟩
    · have ne : n ≠ p := fun q => by rw [q, h2] at e; cases e
      rw [if_neg (fun q => ne q.1), if_neg (fun q => ne q.1), if_neg (fun q => ne q.1)]
      unfold hA
      rw [show tR (notB b j' cd c m) 53 0 n = tR b 53 0 n from rfl, e]
    · rw [hA_at (b := notB b j' cd c m) e2, hA_at e2]
      unfold notB
      simp (config := {decide := true}) only [gfI_enc, gfL_enc, gfR_enc, pfI_enc, pfL_enc, pfR_enc, Option.bind_some, cI_v, cL_v, cF_v, cD_v, cR_v, cV_v, cI_x, cL_x, cR_x, cV_x, gz_0, gz_1, acc_enc, tI_sI, tL_sI, tR_sI, tN_sI, tZ_sI, tC_sI, tc_sI, tz_sI, tI_sL, tL_sL, tR_sL, tN_sL, tZ_sL, tC_sL, tc_sL, tz_sL, tI_sR, tL_sR, tR_sR, tN_sR, tZ_sR, tC_sR, tc_sR, tz_sR, tI_sZ, tL_sZ, tR_sZ, tN_sZ, tZ_sZ, tC_sZ, tc_sZ, tz_sZ, tI_sC, tL_sC, tR_sC, tN_sC, tZ_sC, tC_sC, tc_sC, tz_sC, tI_aC, tL_aC, tR_aC, tN_aC, tZ_aC, tC_aC, tc_aC, tz_aC, tI_rmL, tL_rmL, tR_rmL, tN_rmL, tZ_rmL, tC_rmL, tc_rmL, tz_rmL, tI_mk, tL_mk, tR_mk, tN_mk, tZ_mk, tC_mk, tc_mk, tz_mk, tI_pushL, tL_pushL, tR_pushL, tN_pushL, tZ_pushL, tC_pushL, tc_pushL, tz_pushL, tI_pushB, tL_pushB, tR_pushB, tN_pushB, tZ_pushB, tC_pushB, tc_pushB, tz_pushB, tI_cpL, tL_cpL, tR_cpL, tN_cpL, tZ_cpL, tC_cpL, tc_cpL, tz_cpL, eq_self, true_and, and_true, false_and, and_false, if_true, if_false, reduceIte, ite_true, ite_false, not_true_eq_false, not_false_eq_true]
      simp only [hn_inj KB hp hn h2 e2]
  · unfold notB
    rw [hA_o _ (by omega), hA_o _ (by omega), hA_o _ (by omega), hA_o _ (by omega)]
/-- nothing is taken back, posted or held yet -/
def hlB (b : TS) (p : Nat) : Bool := decide (hI b p 9 = 0 ∧ hI b p 8 = 0 ∧ hI b p 12 = 0)
theorem hlB_i {b : TS} {p : Nat} : hlB b p = true ↔ (hI b p 9 = 0 ∧ hI b p 8 = 0 ∧ hI b p 12 = 0) := decide_eq_true_iff
/-- money and counts stay -/
def MonS (b b' : TS) : Prop := (∀ u, u < 8 → tL b' 43 0 u = tL b 43 0 u) ∧ (∀ u, tL b' 46 0 u = tL b 46 0 u) ∧ tI b' 94 0 12 = tI b 94 0 12 ∧ tI b' 94 0 13 = tI b 94 0 13
/-- what a note changes -/
def NoteV (b b' : TS) (p cd c t : Nat) (m : Int32) : Prop := t < 8 ∧ tI b 86 0 (10 * cd + 9) = Int32.ofNat t ∧
  (∀ n f, n < 1000 → hI b' n f = if hlB b p ∧ n = p ∧ f = 13 then Int32.ofNat t else if hlB b p ∧ n = p ∧ f = 12 then m else if n = p ∧ f = 7 then 1 else hI b n f) ∧
  (∀ n f, n < 1000 → hA b' n 63 f = if n = p ∧ f = 2 then m else if n = p ∧ f = 1 then Int32.ofNat c else if n = p ∧ f = 0 then Int32.ofNat cd else hA b n 63 f) ∧
  (∀ n u f, n < 1000 → (u = 62 ∨ u = 64) → hA b' n u f = hA b n u f) ∧
  (∀ u, u < 8 → tL b' 44 0 u = if hlB b p ∧ u = t then tL b 44 0 u + m.toInt64 else tL b 44 0 u) ∧ MonS b b'
def NoteP (b b' : TS) (p cd c : Nat) (m : Int32) : Prop :=
  (∃ N q, tI b 93 0 8 = Int32.ofNat N ∧ N ≤ 200 ∧ q < N ∧ q ≠ p ∧ tI b 87 0 (10 * q + 1) = Int32.ofNat cd ∧ tI b 87 0 (10 * q + 4) = Int32.ofNat c ∧ NoCh b b') ∨ ∃ t, NoteV b b' p cd c t m
set_option maxHeartbeats 4000000 in
theorem sim_note {a b : TS} {i p cd c sh : Nat} {m st : Int32} (hR : R0 a b) (hp : p < tZ a 29 0) (hi : i < tN a 17) (m1 : tI a 17 i 1 = Int32.ofNat p) (m2 : tI a 17 i 2 = Int32.ofNat cd) (m3 : tI a 17 i 3 = Int32.ofNat sh) (m4 : tI a 17 i 4 = Int32.ofNat c) (m5 : tI a 17 i 5 = m) (m6 : tI a 17 i 6 = st)
    (hcd : cd < tZ a 28 0) (hc : c < 201) (p1 : tI b 87 0 (10 * p + 1) = Int32.ofNat cd) (p2 : tI b 87 0 (10 * p + 2) = Int32.ofNat sh) (p3 : tI b 87 0 (10 * p + 3) = m) (p4 : tI b 87 0 (10 * p + 4) = Int32.ofNat c) (hst : st = pst b p 2) (hm : 0 < m) :
    ∃ a' b', (∀ z, Ex 21 [aR (some (30, 0)), aR (some (17, i))] (enc 1 a z) = some (.inl none, enc 1 a' z)) ∧ (∀ z, Ex 169 [aR (some (94, 0)), aI (Int32.ofNat sh), aI (Int32.ofNat p), aI (Int32.ofNat cd), aI (Int32.ofNat c), aI m, aI st] (enc 2 b z) = some (.inl none, enc 2 b' z)) ∧
      R0 a' b' ∧ chF [1, 3, 4] [(35, 1), (37, 14)] a a' ∧ chF [44, 53, 54, 55, 56, 61, 62, 63, 64] [(94, 6)] b b' ∧ Wr a a' ∧ Wr b b' ∧ NoteP b b' p cd c m := by
  have hP200 := (r_P hR).1
  have hp1000 : p < 1000 := by omega
  obtain ⟨a1, j, x, hR1, x1, xj, vI, vR, ca, wa⟩ := lookA hR hp1000
  have hfc := r_FC hR
  have hfr := r_FR hR
  have hfc1 := r_FC hR1
  have i17 : isM 17 := ⟨by decide +kernel, by decide +kernel⟩
  have t17 : ∀ i k, tI a1 17 i k = tI a 17 i k := dIS ca (S := [17]) (P := []) (by decide) (by simp)
  have hi1 : i < tN a1 17 := Nat.lt_of_lt_of_le hi (wa.N 17)
  have z28 : tZ a1 28 0 = tZ a 28 0 := dZ ca (S := [28]) (P := []) (by decide) (by simp) 0
  have z29 : tZ a1 29 0 = tZ a 29 0 := dZ ca (S := [29]) (P := []) (by decide) (by simp) 0
  obtain ⟨C1, C2, ⟨C3, C4, C5⟩, C6, C7⟩ := r_C hR1
  obtain ⟨D1, D2, ⟨t, D3, D4, D5⟩, D6, D7, D8, D9, D10, D11, D12⟩ := C7 cd (by omega)
  have hcd37 : cd < tN a1 37 := by omega
  have hcd1 : cd < tN a1 1 := by omega
  have g1 : ¬ Int32.ofNat c < 0 := o_lt0 (by omega)
  have g2 : (Int32.ofNat c).toNatClampNeg = c := o_ix (by omega)
  have f16 := fun z => x16 (z := z) (k := cd) hfc1 C1 (by omega) D1 hcd37
  have f8 := fun z => x8 (z := z) hcd37 D9 hcd1 D11 i17 hi1 (by rw [t17, m4]; exact g1) (by rw [t17, m4, g2]; exact hc)
  rw [t17, m4, g2, t17, m1] at f8
  have hs : stp (tI a1 37 cd 3).toInt64 (Int32.ofNat c) m (Int32.ofNat sh) 2 = st := by rw [D7, hst]; unfold pst; rw [p1, p2, p3, p4]
  have hs' : stp (keyL (Int32.ofNat cd)) (Int32.ofNat c) m (Int32.ofNat sh) 2 = st := by rw [← D7]; exact hs
  have f159 := fun z => y159 (z := z) hfr C6 C1 (show cd < tZ a1 28 0 by omega)
  have f162 := fun z => y162 (a := a1) (z := z) (cd := cd) (c := c) (n := p) hfr (r_G hR1) (by omega) C1 hc (by omega) hp1000
  have goA : ∀ z, Ex 21 [aR (some (30, 0)), aR (some (17, i))] (enc 1 a z) = _ := fun z => (X_in (by decide +kernel) (fcN_30 hfc) rfl).trans (lf_21_0 ..)
  by_cases ho : oth a1 cd c (Int32.ofNat p) = 0
  · obtain ⟨b1, j', y, hR2, y1, y2, wI, wA, cb, wb⟩ := lookB hR1 hp1000
    obtain ⟨b2, hy, hR3, ha3, hb3, wa3, wb3⟩ := he_R0 (cd := cd) (c := c) (p := p) hR2 (by omega) hc (by omega) (by rw [dIS cb (S := [87]) (P := []) (s := 87) (by decide) (by simp)]; exact p1) (by rw [dIS cb (S := [87]) (P := []) (s := 87) (by decide) (by simp)]; exact p4)
    have hx9 := fun z => x9 (z := z) hcd37 D9 hcd1 D11 i17 hi1 (by rw [t17, m4]; exact g1) (by rw [t17, m4, g2]; exact hc)
    rw [t17, m4, g2, t17, m1] at hx9
    have f9 : ∀ z, Ex 9 [aR (some (37, cd)), aR (some (17, i))] (enc 1 a1 z) = some (.inl none, enc 1 (heA a1 cd c (Int32.ofNat p)) z) := fun z => hx9 z
    have f8' : ∀ z, Ex 8 [aR (some (37, cd)), aR (some (17, i))] (enc 1 a1 z) = some (.inl (some (aI 0)), enc 1 a1 z) := fun z => by
      rw [f8]
      unfold oth at ho
      by_cases e1 : tI a1 1 cd c = 0
      · rw [if_pos e1]
      · rw [if_neg e1]
        by_cases e2 : tI a1 1 cd c = Int32.ofNat p + 1
        · rw [if_pos e2]
        · rw [if_neg e1, if_neg e2] at ho
          exact absurd ho (by decide)
    generalize heA a1 cd c (Int32.ofNat p) = a2 at *
    have s17 : ∀ i k, tI a2 17 i k = tI a 17 i k := fun i k => (dIS ha3 (S := [17]) (P := []) (by decide) (by simp) i k).trans (t17 i k)
    have hi2 : i < tN a2 17 := Nat.lt_of_lt_of_le hi1 (wa3.N 17)
    have x1' : tR a2 3 0 p = some (4, j) := by rw [dR ha3 (S := [3]) (P := []) (s := 3) (by decide) (by simp)]; exact x1
    have y1' : tR b2 53 0 p = some (61, j') := by rw [dR hb3 (S := [53]) (P := []) (s := 53) (by decide) (by simp)]; exact y1
    have xj2 : j < tN a2 4 := Nat.lt_of_lt_of_le xj (wa3.N 4)
    have yj2 : j' < tN b2 61 := Nat.lt_of_lt_of_le y2 (wb3.N 61)
    obtain ⟨hR4, ha4, hb4, wa4, wb4⟩ := note_R (m := m) (cd := cd) (c := c) hR3 hp1000 x1' y1' hi2 (by rw [s17]; exact m2) (by rw [s17]; exact m4) (by rw [s17]; exact m5)
    have hfr2 := r_FR hR3
    have hfc2 := r_FC hR3
    obtain ⟨K1, K2, K3, K4, -⟩ := (r_K hR3).2.1
    obtain ⟨B5, B6, B7, B8, B9, B10⟩ := K4 j' yj2
    have n63 : j' < tN b2 63 := by rw [K3.2.1]; exact yj2
    have o63 : isO 2 1000 63 := ⟨by decide +kernel, by decide +kernel⟩
    have f186 := fun z => y186 (b := sI b2 61 j' 7 1) (z := z) (Int32.ofNat cd) (Int32.ofNat c) m o63 n63 B9
    have B5' := B6
    have eA : ∀ z, Ex 21 [aR (some (30, 0)), aR (some (17, i))] (enc 1 a z) = (gfI (enc 1 (sR a2 4 j 2 (some (17, i))) z) (some (4, j)) 4 5).bind (fun x17 => if x17 = 0 then cI (Ex 29 [aR (some (4, j))] (enc 1 (sR a2 4 j 2 (some (17, i))) z)) (fun x19 h18 => if x19 = 0 then (gfI h18 (some (17, i)) 6 5).bind (fun x20 => (gfR h18 (some (37, cd)) 1 1).bind (fun x21 => cV (Ex 30 [aR (some (4, j)), aI x20, aR x21] h18) (fun h22 => some (.inl none, h22)) xT)) else some (.inl none, h18)) xT else some (.inl none, enc 1 (sR a2 4 j 2 (some (17, i))) z)) := fun z => by
      rw [goA]
      have r2 : tI a1 17 i 2 = Int32.ofNat cd := by rw [t17]; exact m2
      have r3 : tI a1 17 i 3 = Int32.ofNat sh := by rw [t17]; exact m3
      have r4 : tI a1 17 i 4 = Int32.ofNat c := by rw [t17]; exact m4
      have r5 : tI a1 17 i 5 = m := by rw [t17]; exact m5
      have r6 : tI a1 17 i 6 = st := by rw [t17]; exact m6
      simp (config := {decide := true}) only [gfI_enc, gfL_enc, gfR_enc, pfI_enc, pfL_enc, pfR_enc, Option.bind_some, cI_v, cL_v, cF_v, cD_v, cR_v, cV_v, cI_x, cL_x, cR_x, cV_x, gz_0, gz_1, acc_enc, tI_sI, tL_sI, tR_sI, tN_sI, tZ_sI, tC_sI, tc_sI, tz_sI, tI_sL, tL_sL, tR_sL, tN_sL, tZ_sL, tC_sL, tc_sL, tz_sL, tI_sR, tL_sR, tR_sR, tN_sR, tZ_sR, tC_sR, tc_sR, tz_sR, tI_sZ, tL_sZ, tR_sZ, tN_sZ, tZ_sZ, tC_sZ, tc_sZ, tz_sZ, tI_sC, tL_sC, tR_sC, tN_sC, tZ_sC, tC_sC, tc_sC, tz_sC, tI_aC, tL_aC, tR_aC, tN_aC, tZ_aC, tC_aC, tc_aC, tz_aC, tI_rmL, tL_rmL, tR_rmL, tN_rmL, tZ_rmL, tC_rmL, tc_rmL, tz_rmL, tI_mk, tL_mk, tR_mk, tN_mk, tZ_mk, tC_mk, tc_mk, tz_mk, tI_pushL, tL_pushL, tR_pushL, tN_pushL, tZ_pushL, tC_pushL, tc_pushL, tz_pushL, tI_pushB, tL_pushB, tR_pushB, tN_pushB, tZ_pushB, tC_pushB, tc_pushB, tz_pushB, tI_cpL, tL_cpL, tR_cpL, tN_cpL, tZ_cpL, tC_cpL, tc_cpL, tz_cpL, eq_self, true_and, and_true, false_and, and_false, if_true, if_false, reduceIte, ite_true, ite_false, not_true_eq_false, not_false_eq_true, gm i17 hi, m1, x, gm i17 hi1, r2, r3, r4, r5, r6, f16, f8', x2 _ _ _ _ hcd37, hs, f9, xj2, reduceCtorEq]
    have eB : ∀ z, Ex 169 [aR (some (94, 0)), aI (Int32.ofNat sh), aI (Int32.ofNat p), aI (Int32.ofNat cd), aI (Int32.ofNat c), aI m, aI st] (enc 2 b z) = (if tI b2 61 j' 9 = 0 then if tI b2 61 j' 8 = 0 then if tI b2 61 j' 12 = 0 then cI (Ex 233 [aR (some (93, 0)), aI (Int32.ofNat cd)] (enc 2 (notB b2 j' cd c m) z)) (fun x18 h17 => cV (Ex 165 [aR (some (94, 0)), aR (some (61, j')), aI x18, aI m] h17) (fun h19 => some (.inl none, h19)) xT) xT else some (.inl none, enc 2 (notB b2 j' cd c m) z) else some (.inl none, enc 2 (notB b2 j' cd c m) z) else some (.inl none, enc 2 (notB b2 j' cd c m) z)) := fun z => by
      refine (X_in (by decide +kernel) (frN_94 hfr) rfl).trans ((lf_169_0 ..).trans ?_)
      unfold notB
      by_cases d1 : tI b2 61 j' 9 = 0 <;> by_cases d2 : tI b2 61 j' 8 = 0 <;> by_cases d3 : tI b2 61 j' 12 = 0 <;> simp (config := {decide := true}) only [gfI_enc, gfL_enc, gfR_enc, pfI_enc, pfL_enc, pfR_enc, Option.bind_some, cI_v, cL_v, cF_v, cD_v, cR_v, cV_v, cI_x, cL_x, cR_x, cV_x, gz_0, gz_1, acc_enc, tI_sI, tL_sI, tR_sI, tN_sI, tZ_sI, tC_sI, tc_sI, tz_sI, tI_sL, tL_sL, tR_sL, tN_sL, tZ_sL, tC_sL, tc_sL, tz_sL, tI_sR, tL_sR, tR_sR, tN_sR, tZ_sR, tC_sR, tc_sR, tz_sR, tI_sZ, tL_sZ, tR_sZ, tN_sZ, tZ_sZ, tC_sZ, tc_sZ, tz_sZ, tI_sC, tL_sC, tR_sC, tN_sC, tZ_sC, tC_sC, tc_sC, tz_sC, tI_aC, tL_aC, tR_aC, tN_aC, tZ_aC, tC_aC, tc_aC, tz_aC, tI_rmL, tL_rmL, tR_rmL, tN_rmL, tZ_rmL, tC_rmL, tc_rmL, tz_rmL, tI_mk, tL_mk, tR_mk, tN_mk, tZ_mk, tC_mk, tc_mk, tz_mk, tI_pushL, tL_pushL, tR_pushL, tN_pushL, tZ_pushL, tC_pushL, tc_pushL, tz_pushL, tI_pushB, tL_pushB, tR_pushB, tN_pushB, tZ_pushB, tC_pushB, tc_pushB, tz_pushB, tI_cpL, tL_cpL, tR_cpL, tN_cpL, tZ_cpL, tC_cpL, tc_cpL, tz_cpL, eq_self, true_and, and_true, false_and, and_false, if_true, if_false, reduceIte, ite_true, ite_false, not_true_eq_false, not_false_eq_true, f159, y160 _ _ _ _ _ _ hfr, hs', f162, ho, y, hy, yj2, B6, f186, frN_94 hfr2, frR_94_0 hfr2, d1, d2, d3]
    have hKN := (r_K hR4).2.2 p hp1000
    obtain ⟨⟨q1, q2, q3, q4⟩, ⟨q5, -⟩, -, -, ⟨-, q9, q10⟩⟩ := hKN
    have x1'' : tR (sR a2 4 j 2 (some (17, i))) 3 0 p = some (4, j) := by rw [tR_sR, if_neg (fun q => absurd q.1 (by decide))]; exact x1'
    have y1'' : tR (notB b2 j' cd c m) 53 0 p = some (61, j') := y1'
    have xj3 : j < tN (sR a2 4 j 2 (some (17, i))) 4 := xj2
    have yj3 : j' < tN (notB b2 j' cd c m) 61 := yj2
    have hfr3 := r_FR hR4
    have nb : ∀ f, f ≠ 7 → tI (notB b2 j' cd c m) 61 j' f = tI b2 61 j' f := fun f hf => by unfold notB; simp (config := {decide := true}) only [gfI_enc, gfL_enc, gfR_enc, pfI_enc, pfL_enc, pfR_enc, Option.bind_some, cI_v, cL_v, cF_v, cD_v, cR_v, cV_v, cI_x, cL_x, cR_x, cV_x, gz_0, gz_1, acc_enc, tI_sI, tL_sI, tR_sI, tN_sI, tZ_sI, tC_sI, tc_sI, tz_sI, tI_sL, tL_sL, tR_sL, tN_sL, tZ_sL, tC_sL, tc_sL, tz_sL, tI_sR, tL_sR, tR_sR, tN_sR, tZ_sR, tC_sR, tc_sR, tz_sR, tI_sZ, tL_sZ, tR_sZ, tN_sZ, tZ_sZ, tC_sZ, tc_sZ, tz_sZ, tI_sC, tL_sC, tR_sC, tN_sC, tZ_sC, tC_sC, tc_sC, tz_sC, tI_aC, tL_aC, tR_aC, tN_aC, tZ_aC, tC_aC, tc_aC, tz_aC, tI_rmL, tL_rmL, tR_rmL, tN_rmL, tZ_rmL, tC_rmL, tc_rmL, tz_rmL, tI_mk, tL_mk, tR_mk, tN_mk, tZ_mk, tC_mk, tc_mk, tz_mk, tI_pushL, tL_pushL, tR_pushL, tN_pushL, tZ_pushL, tC_pushL, tc_pushL, tz_pushL, tI_pushB, tL_pushB, tR_pushB, tN_pushB, tZ_pushB, tC_pushB, tc_pushB, tz_pushB, tI_cpL, tL_cpL, tR_cpL, tN_cpL, tZ_cpL, tC_cpL, tc_cpL, tz_cpL, eq_self, true_and, and_true, false_and, and_false, if_true, if_false, reduceIte, ite_true, ite_false, not_true_eq_false, not_false_eq_true, hf]
    have ca' := chF_t (chF_m ca (D' := [1, 3, 4]) (F' := [(35, 1), (37, 14)]) (by simp) (by simp)) (chF_t (chF_m ha3 (by simp) (by simp)) (chF_m ha4 (by simp) (by simp)))
    have cb' := chF_t (chF_m cb (D' := [44, 53, 54, 55, 56, 61, 62, 63, 64]) (F' := [(94, 6)]) (by simp) (by simp)) (chF_t (chF_m hb3 (by simp) (by simp)) (chF_m hb4 (by simp) (by simp)))
    have wa' := (wa.t wa3).t wa4
    have wb' := (wb.t wb3).t wb4
    have e29 := fun z => x29 (z := z) xj3
    have vI2 : ∀ n f, n < 1000 → hI b2 n f = hI b n f := fun n f hn => (hI_c hb3 (S := [53, 61]) (P := []) (by decide) (by simp) (by simp) n f).trans (wI n f hn)
    have vA2 : ∀ n u f, n < 1000 → (u = 62 ∨ u = 63 ∨ u = 64) → hA b2 n u f = hA b n u f := fun n u f hn hu => by
      rw [← wA n u f hn hu]
      exact hA_c hb3 (S := [53, 62, 63, 64]) (P := []) (t := u) (by decide) (by simp) (by rcases hu with q | q | q <;> subst q <;> simp) n f
    have l44 : ∀ u, tL b2 44 0 u = tL b 44 0 u := fun u => (dLS hb3 (S := [44]) (P := []) (s := 44) (by decide) (by simp) 0 u).trans (dLS cb (S := [44]) (P := []) (s := 44) (by decide) (by simp) 0 u)
    have e86 : tI b 86 0 (10 * cd + 9) = Int32.ofNat t := D5
    have ht8 : t < 8 := by have := (r_B hR1).1; omega
    have KB2 := (r_K hR3).2.1
    obtain ⟨w1, w2, w3⟩ := notB_v (cd := cd) (c := c) (m := m) KB2 hp1000 y1'
    have mon : ∀ b' : TS, chF [44, 61, 63] [] b2 b' → MonS b b' := fun b' h => ⟨fun u _ => (dLS h (S := [43]) (P := []) (s := 43) (by decide) (by simp) 0 u).trans ((dLS hb3 (S := [43]) (P := []) (s := 43) (by decide) (by simp) 0 u).trans (dLS cb (S := [43]) (P := []) (s := 43) (by decide) (by simp) 0 u)), fun u => (dLS h (S := [46]) (P := []) (s := 46) (by decide) (by simp) 0 u).trans ((dLS hb3 (S := [46]) (P := []) (s := 46) (by decide) (by simp) 0 u).trans (dLS cb (S := [46]) (P := []) (s := 46) (by decide) (by simp) 0 u)), (dI h (S := []) (P := [(94, 12)]) (s := 94) (k := 12) (by decide) (by simp) 0).trans ((dI hb3 (S := []) (P := [(94, 12)]) (s := 94) (k := 12) (by decide) (by simp) 0).trans (dI cb (S := []) (P := [(94, 12)]) (s := 94) (k := 12) (by decide) (by simp) 0)), (dI h (S := []) (P := [(94, 13)]) (s := 94) (k := 13) (by decide) (by simp) 0).trans ((dI hb3 (S := []) (P := [(94, 13)]) (s := 94) (k := 13) (by decide) (by simp) 0).trans (dI cb (S := []) (P := [(94, 13)]) (s := 94) (k := 13) (by decide) (by simp) 0))⟩
    have e2i : ∀ f, tI b2 61 j' f = hI b p f := fun f => (hI_at y1').symm.trans (vI2 p f hp1000)
    have noH : ¬ (hI b p 9 = 0 ∧ hI b p 8 = 0 ∧ hI b p 12 = 0) → NoteP b (notB b2 j' cd c m) p cd c m := fun q => by
      have hf : ¬ hlB b p = true := fun z => q (hlB_i.mp z)
      refine Or.inr ⟨t, ht8, e86, fun n f hn => ?_, fun n f hn => ?_, fun n u f hn hu => ?_, fun u _ => ?_, mon _ (chF_m hb4 (by simp) (by simp))⟩
      · rw [w1 n f hn, vI2 n f hn]
        simp only [hf, Bool.false_eq_true, false_and, if_false]
      · rw [w2 n f hn, vA2 n 63 f hn (by omega)]
      · rw [w3 n u f hu, vA2 n u f hn (by omega)]
      · rw [if_neg (fun z => hf z.1)]
        exact (dLS hb4 (S := [44]) (P := []) (s := 44) (by decide) (by simp) 0 u).trans (l44 u)
    rw [kI_at x1'', hI_at y1'', nb 9 (by decide)] at q5
    by_cases d1 : tI b2 61 j' 9 = 0
    · have q5' : tI (sR a2 4 j 2 (some (17, i))) 4 j 5 = 0 := by rw [q5]; exact d1
      by_cases d2 : tI b2 61 j' 8 = 0
      · have q9' : tR (sR a2 4 j 2 (some (17, i))) 4 j 8 = none := by rw [← kR_at x1'']; exact q9 (by rw [hI_at y1'', nb 8 (by decide)]; exact d2)
        have r37 : tR (sR a2 4 j 2 (some (17, i))) 37 cd 1 = some (35, t) := by rw [tR_sR, if_neg (fun q => absurd q.1 (by decide)), dRP ha3 (S := []) (P := [(37, 0)]) (s := 37) (k := 0) (by decide) (by simp)]; exact D4
        have h37 : cd < tN (sR a2 4 j 2 (some (17, i))) 37 := Nat.lt_of_lt_of_le hcd37 (wa3.N 37)
        have h26 : tZ (sR a2 4 j 2 (some (17, i))) 26 0 = tZ a1 26 0 := (dZ ha4 (S := [26]) (P := []) (by decide) (by simp) 0).trans (dZ ha3 (S := [26]) (P := []) (by decide) (by simp) 0)
        have h35 : t < tN (sR a2 4 j 2 (some (17, i))) 35 := by rw [(r_B hR4).2.2.1, h26]; exact D3
        have s5 : tI (sR a2 4 j 2 (some (17, i))) 17 i 5 = m := by rw [tI_sR, s17]; exact m5
        have c30 := fun z => x30 (z := z) m xj3 h35
        by_cases d3 : tI b2 61 j' 12 = 0
        · have q3' : tR (sR a2 4 j 2 (some (17, i))) 4 j 4 = none := by rw [← kR_at x1'']; exact q3 (by rw [hI_at y1'', nb 12 (by decide)]; exact d3)
          obtain ⟨hK5, hB5⟩ := hold_R (m := m) (r_K hR4) (r_B hR4) hp1000 x1'' y1'' (by rw [h26]; exact D3) hm
          have hT86 : tI (notB b2 j' cd c m) 86 0 (10 * cd + 9) = Int32.ofNat t := by
            have e1 : tI (notB b2 j' cd c m) 86 0 (10 * cd + 9) = tI b2 86 0 (10 * cd + 9) := by unfold notB; simp (config := {decide := true}) only [gfI_enc, gfL_enc, gfR_enc, pfI_enc, pfL_enc, pfR_enc, Option.bind_some, cI_v, cL_v, cF_v, cD_v, cR_v, cV_v, cI_x, cL_x, cR_x, cV_x, gz_0, gz_1, acc_enc, tI_sI, tL_sI, tR_sI, tN_sI, tZ_sI, tC_sI, tc_sI, tz_sI, tI_sL, tL_sL, tR_sL, tN_sL, tZ_sL, tC_sL, tc_sL, tz_sL, tI_sR, tL_sR, tR_sR, tN_sR, tZ_sR, tC_sR, tc_sR, tz_sR, tI_sZ, tL_sZ, tR_sZ, tN_sZ, tZ_sZ, tC_sZ, tc_sZ, tz_sZ, tI_sC, tL_sC, tR_sC, tN_sC, tZ_sC, tC_sC, tc_sC, tz_sC, tI_aC, tL_aC, tR_aC, tN_aC, tZ_aC, tC_aC, tc_aC, tz_aC, tI_rmL, tL_rmL, tR_rmL, tN_rmL, tZ_rmL, tC_rmL, tc_rmL, tz_rmL, tI_mk, tL_mk, tR_mk, tN_mk, tZ_mk, tC_mk, tc_mk, tz_mk, tI_pushL, tL_pushL, tR_pushL, tN_pushL, tZ_pushL, tC_pushL, tc_pushL, tz_pushL, tI_pushB, tL_pushB, tR_pushB, tN_pushB, tZ_pushB, tC_pushB, tc_pushB, tz_pushB, tI_cpL, tL_cpL, tR_cpL, tN_cpL, tZ_cpL, tC_cpL, tc_cpL, tz_cpL, eq_self, true_and, and_true, false_and, and_false, if_true, if_false, reduceIte, ite_true, ite_false, not_true_eq_false, not_false_eq_true]
            rw [e1, dIS hb3 (S := [86]) (P := []) (s := 86) (by decide) (by simp), dIS cb (S := [86]) (P := []) (s := 86) (by decide) (by simp)]
            exact D5
          have hNo : NoteP b (sL (sI (sI (notB b2 j' cd c m) 61 j' 12 m) 61 j' 13 (Int32.ofNat t)) 44 0 t (tL (notB b2 j' cd c m) 44 0 t + m.toInt64)) p cd c m := by
            have hh : hlB b p = true := hlB_i.mpr ⟨by rw [← e2i]; exact d1, by rw [← e2i]; exact d2, by rw [← e2i]; exact d3⟩
            obtain ⟨u1, u2, u3⟩ := hold_v (t := t) (m := m) (r_K hR4).2.1 hp1000 y1''
            refine Or.inr ⟨t, ht8, e86, fun n f hn => ?_, fun n f hn => ?_, fun n u f hn hu => ?_, fun u _ => ?_, mon _ (chF_t (chF_m hb4 (by simp) (by simp)) (chF_L (by simp) (chF_I (by simp) (chF_I (by simp) (chF_r _ _ _)))))⟩
            · rw [u1 n f hn, w1 n f hn, vI2 n f hn]
              simp only [hh, true_and]
            · rw [u2 n 63 f (by omega), w2 n f hn, vA2 n 63 f hn (by omega)]
            · rw [u2 n u f (by omega), w3 n u f hu, vA2 n u f hn (by omega)]
            · rw [u3 u, show tL (notB b2 j' cd c m) 44 0 u = tL b 44 0 u from (dLS hb4 (S := [44]) (P := []) (s := 44) (by decide) (by simp) 0 u).trans (l44 u)]
              simp only [hh, true_and]
          refine ⟨_, _, fun z => ?_, fun z => ?_, R0_kn hR4 hK5 hB5 (chF_L (by simp) (chF_R (by simp) (chF_I (by simp) (chF_r _ _ _)))) (chF_L (by simp) (chF_I (by simp) (chF_I (by simp) (chF_r _ _ _)))) ((((Wr.rf _).cI _ _ _ _).cR _ _ _ _).cL _ _ _ _) ((((Wr.rf _).cI _ _ _ _).cI _ _ _ _).cL _ _ _ _) (fun n hn => ?_) (fun n hn => ?_) (fun n hn => ?_), chF_t ca' (chF_L (by simp) (chF_R (by simp) (chF_I (by simp) (chF_r _ _ _)))), chF_t cb' (chF_L (by simp) (chF_I (by simp) (chF_I (by simp) (chF_r _ _ _)))), wa'.t ((((Wr.rf _).cI _ _ _ _).cR _ _ _ _).cL _ _ _ _), wb'.t ((((Wr.rf _).cI _ _ _ _).cI _ _ _ _).cL _ _ _ _), hNo⟩
          · rw [eA]
            generalize sR a2 4 j 2 (some (17, i)) = a3 at *
            have hi3 : i < tN a3 17 := Nat.lt_of_lt_of_le hi2 (wa4.N 17)
            simp (config := {decide := true}) only [gfI_enc, gfL_enc, gfR_enc, pfI_enc, pfL_enc, pfR_enc, Option.bind_some, cI_v, cL_v, cF_v, cD_v, cR_v, cV_v, cI_x, cL_x, cR_x, cV_x, gz_0, gz_1, acc_enc, tI_sI, tL_sI, tR_sI, tN_sI, tZ_sI, tC_sI, tc_sI, tz_sI, tI_sL, tL_sL, tR_sL, tN_sL, tZ_sL, tC_sL, tc_sL, tz_sL, tI_sR, tL_sR, tR_sR, tN_sR, tZ_sR, tC_sR, tc_sR, tz_sR, tI_sZ, tL_sZ, tR_sZ, tN_sZ, tZ_sZ, tC_sZ, tc_sZ, tz_sZ, tI_sC, tL_sC, tR_sC, tN_sC, tZ_sC, tC_sC, tc_sC, tz_sC, tI_aC, tL_aC, tR_aC, tN_aC, tZ_aC, tC_aC, tc_aC, tz_aC, tI_rmL, tL_rmL, tR_rmL, tN_rmL, tZ_rmL, tC_rmL, tc_rmL, tz_rmL, tI_mk, tL_mk, tR_mk, tN_mk, tZ_mk, tC_mk, tc_mk, tz_mk, tI_pushL, tL_pushL, tR_pushL, tN_pushL, tZ_pushL, tC_pushL, tc_pushL, tz_pushL, tI_pushB, tL_pushB, tR_pushB, tN_pushB, tZ_pushB, tC_pushB, tc_pushB, tz_pushB, tI_cpL, tL_cpL, tR_cpL, tN_cpL, tZ_cpL, tC_cpL, tc_cpL, tz_cpL, eq_self, true_and, and_true, false_and, and_false, if_true, if_false, reduceIte, ite_true, ite_false, not_true_eq_false, not_false_eq_true, xj3, q5', e29, q9', gm i17 hi3, s5, h37, r37, c30, q3']
          · rw [eB, if_pos d1, if_pos d2, if_pos d3]
            have ht8 : t < 8 := by have := (r_B hR1).1; omega
            rw [y233 hfr3 (by omega), cI_v, hT86, y165 m hfr3 yj3 ht8, cV_v]
          · show hI (sI (sI (notB b2 j' cd c m) 61 j' 12 m) 61 j' 13 (Int32.ofNat t)) n 8 = _
            rw [hI_sI (b := sI (notB b2 j' cd c m) 61 j' 12 m) (r_K hR4).2.1 hp1000 y1'' _ _ hn, if_neg (fun q => absurd q.2 (by decide)), hI_sI (r_K hR4).2.1 hp1000 y1'' _ _ hn, if_neg (fun q => absurd q.2 (by decide))]
          · show hI (sI (sI (notB b2 j' cd c m) 61 j' 12 m) 61 j' 13 (Int32.ofNat t)) n 14 = _
            rw [hI_sI (b := sI (notB b2 j' cd c m) 61 j' 12 m) (r_K hR4).2.1 hp1000 y1'' _ _ hn, if_neg (fun q => absurd q.2 (by decide)), hI_sI (r_K hR4).2.1 hp1000 y1'' _ _ hn, if_neg (fun q => absurd q.2 (by decide))]
          · show kR (sR (sI (sR a2 4 j 2 (some (17, i))) 4 j 3 m) 4 j 4 (some (35, t))) n 8 = _
            rw [kR_sR (a := sI (sR a2 4 j 2 (some (17, i))) 4 j 3 m) (r_K hR4).1 hp1000 x1'' _ _ hn, if_neg (fun q => absurd q.2 (by decide))]
            rfl
        · have q3' : ¬ tR (sR a2 4 j 2 (some (17, i))) 4 j 4 = none := by
            obtain ⟨t2, -, t3, -⟩ := q4 (by rw [hI_at y1'', nb 12 (by decide)]; exact d3)
            rw [← kR_at x1'', t3]
            exact fun q => nomatch q
          refine ⟨_, _, fun z => ?_, fun z => ?_, hR4, ca', cb', wa', wb', noH (fun q => d3 (by rw [e2i]; exact q.2.2))⟩
          · rw [eA]
            generalize sR a2 4 j 2 (some (17, i)) = a3 at *
            have hi3 : i < tN a3 17 := Nat.lt_of_lt_of_le hi2 (wa4.N 17)
            simp (config := {decide := true}) only [gfI_enc, gfL_enc, gfR_enc, pfI_enc, pfL_enc, pfR_enc, Option.bind_some, cI_v, cL_v, cF_v, cD_v, cR_v, cV_v, cI_x, cL_x, cR_x, cV_x, gz_0, gz_1, acc_enc, tI_sI, tL_sI, tR_sI, tN_sI, tZ_sI, tC_sI, tc_sI, tz_sI, tI_sL, tL_sL, tR_sL, tN_sL, tZ_sL, tC_sL, tc_sL, tz_sL, tI_sR, tL_sR, tR_sR, tN_sR, tZ_sR, tC_sR, tc_sR, tz_sR, tI_sZ, tL_sZ, tR_sZ, tN_sZ, tZ_sZ, tC_sZ, tc_sZ, tz_sZ, tI_sC, tL_sC, tR_sC, tN_sC, tZ_sC, tC_sC, tc_sC, tz_sC, tI_aC, tL_aC, tR_aC, tN_aC, tZ_aC, tC_aC, tc_aC, tz_aC, tI_rmL, tL_rmL, tR_rmL, tN_rmL, tZ_rmL, tC_rmL, tc_rmL, tz_rmL, tI_mk, tL_mk, tR_mk, tN_mk, tZ_mk, tC_mk, tc_mk, tz_mk, tI_pushL, tL_pushL, tR_pushL, tN_pushL, tZ_pushL, tC_pushL, tc_pushL, tz_pushL, tI_pushB, tL_pushB, tR_pushB, tN_pushB, tZ_pushB, tC_pushB, tc_pushB, tz_pushB, tI_cpL, tL_cpL, tR_cpL, tN_cpL, tZ_cpL, tC_cpL, tc_cpL, tz_cpL, eq_self, true_and, and_true, false_and, and_false, if_true, if_false, reduceIte, ite_true, ite_false, not_true_eq_false, not_false_eq_true, xj3, q5', e29, q9', gm i17 hi3, s5, h37, r37, c30, q3']
          · rw [eB, if_pos d1, if_pos d2, if_neg d3]
      · have q9' : ¬ tR (sR a2 4 j 2 (some (17, i))) 4 j 8 = none := by
          obtain ⟨i', -, -, -, -, -, -, -, i5, -⟩ := q10 (by rw [hI_at y1'', nb 8 (by decide)]; exact d2)
          rw [← kR_at x1'', i5]
          exact fun q => nomatch q
        refine ⟨_, _, fun z => ?_, fun z => ?_, hR4, ca', cb', wa', wb', noH (fun q => d2 (by rw [e2i]; exact q.2.1))⟩
        · rw [eA]
          generalize sR a2 4 j 2 (some (17, i)) = a3 at *
          simp (config := {decide := true}) only [gfI_enc, gfL_enc, gfR_enc, pfI_enc, pfL_enc, pfR_enc, Option.bind_some, cI_v, cL_v, cF_v, cD_v, cR_v, cV_v, cI_x, cL_x, cR_x, cV_x, gz_0, gz_1, acc_enc, tI_sI, tL_sI, tR_sI, tN_sI, tZ_sI, tC_sI, tc_sI, tz_sI, tI_sL, tL_sL, tR_sL, tN_sL, tZ_sL, tC_sL, tc_sL, tz_sL, tI_sR, tL_sR, tR_sR, tN_sR, tZ_sR, tC_sR, tc_sR, tz_sR, tI_sZ, tL_sZ, tR_sZ, tN_sZ, tZ_sZ, tC_sZ, tc_sZ, tz_sZ, tI_sC, tL_sC, tR_sC, tN_sC, tZ_sC, tC_sC, tc_sC, tz_sC, tI_aC, tL_aC, tR_aC, tN_aC, tZ_aC, tC_aC, tc_aC, tz_aC, tI_rmL, tL_rmL, tR_rmL, tN_rmL, tZ_rmL, tC_rmL, tc_rmL, tz_rmL, tI_mk, tL_mk, tR_mk, tN_mk, tZ_mk, tC_mk, tc_mk, tz_mk, tI_pushL, tL_pushL, tR_pushL, tN_pushL, tZ_pushL, tC_pushL, tc_pushL, tz_pushL, tI_pushB, tL_pushB, tR_pushB, tN_pushB, tZ_pushB, tC_pushB, tc_pushB, tz_pushB, tI_cpL, tL_cpL, tR_cpL, tN_cpL, tZ_cpL, tC_cpL, tc_cpL, tz_cpL, eq_self, true_and, and_true, false_and, and_false, if_true, if_false, reduceIte, ite_true, ite_false, not_true_eq_false, not_false_eq_true, xj3, q5', e29, q9']
        · rw [eB, if_pos d1, if_neg d2]
    · have q5' : ¬ tI (sR a2 4 j 2 (some (17, i))) 4 j 5 = 0 := by rw [q5]; exact d1
      refine ⟨_, _, fun z => ?_, fun z => ?_, hR4, ca', cb', wa', wb', noH (fun q => d1 (by rw [e2i]; exact q.1))⟩
      · rw [eA]
        generalize sR a2 4 j 2 (some (17, i)) = a3 at *
        simp (config := {decide := true}) only [gfI_enc, gfL_enc, gfR_enc, pfI_enc, pfL_enc, pfR_enc, Option.bind_some, cI_v, cL_v, cF_v, cD_v, cR_v, cV_v, cI_x, cL_x, cR_x, cV_x, gz_0, gz_1, acc_enc, tI_sI, tL_sI, tR_sI, tN_sI, tZ_sI, tC_sI, tc_sI, tz_sI, tI_sL, tL_sL, tR_sL, tN_sL, tZ_sL, tC_sL, tc_sL, tz_sL, tI_sR, tL_sR, tR_sR, tN_sR, tZ_sR, tC_sR, tc_sR, tz_sR, tI_sZ, tL_sZ, tR_sZ, tN_sZ, tZ_sZ, tC_sZ, tc_sZ, tz_sZ, tI_sC, tL_sC, tR_sC, tN_sC, tZ_sC, tC_sC, tc_sC, tz_sC, tI_aC, tL_aC, tR_aC, tN_aC, tZ_aC, tC_aC, tc_aC, tz_aC, tI_rmL, tL_rmL, tR_rmL, tN_rmL, tZ_rmL, tC_rmL, tc_rmL, tz_rmL, tI_mk, tL_mk, tR_mk, tN_mk, tZ_mk, tC_mk, tc_mk, tz_mk, tI_pushL, tL_pushL, tR_pushL, tN_pushL, tZ_pushL, tC_pushL, tc_pushL, tz_pushL, tI_pushB, tL_pushB, tR_pushB, tN_pushB, tZ_pushB, tC_pushB, tc_pushB, tz_pushB, tI_cpL, tL_cpL, tR_cpL, tN_cpL, tZ_cpL, tC_cpL, tc_cpL, tz_cpL, eq_self, true_and, and_true, false_and, and_false, if_true, if_false, reduceIte, ite_true, ite_false, not_true_eq_false, not_false_eq_true, xj3, q5']
      · rw [eB, if_neg d1]
  · have f8' : ∀ z, Ex 8 [aR (some (37, cd)), aR (some (17, i))] (enc 1 a1 z) = some (.inl (some (aI 1)), enc 1 a1 z) := fun z => by
      rw [f8]
      unfold oth at ho
      by_cases e1 : tI a1 1 cd c = 0
      · rw [if_pos e1] at ho
        exact absurd rfl ho
      · rw [if_neg e1]
        by_cases e2 : tI a1 1 cd c = Int32.ofNat p + 1
        · rw [if_neg e1, if_pos e2] at ho
          exact absurd rfl ho
        · rw [if_neg e2]
    have hq : ∃ q, q < tZ a1 29 0 ∧ q ≠ p ∧ tI b 87 0 (10 * q + 1) = Int32.ofNat cd ∧ tI b 87 0 (10 * q + 4) = Int32.ofNat c := by
      unfold oth at ho
      by_cases e1 : tI a1 1 cd c = 0
      · rw [if_pos e1] at ho
        exact absurd rfl ho
      · by_cases e2 : tI a1 1 cd c = Int32.ofNat p + 1
        · rw [if_neg e1, if_pos e2] at ho
          exact absurd rfl ho
        · obtain ⟨H, h1, h2, h3, h4, -⟩ := r_G hR1
          obtain ⟨k, k1, k2, k3⟩ := h4 cd c (by omega) hc e1
          obtain ⟨cd', c', q, q1, q2, q3, q4, q5, q6, q7, q8, q9⟩ := h3 k k1
          have ec : cd' = cd := o_inj (by omega) (by omega) (q4.symm.trans k2)
          have ed : c' = c := o_inj (by omega) (by omega) (q5.symm.trans k3)
          subst ec
          subst ed
          exact ⟨q, q3, fun z => e2 (by rw [q7, z, o_s]), q8, q9⟩
    obtain ⟨q, q1, q2, q3, q4⟩ := hq
    refine ⟨a1, b, fun z => ?_, fun z => ?_, hR1, chF_m ca (by simp) (by simp), chF_r _ _ _, wa, Wr.rf b, Or.inl ⟨tZ a1 29 0, q, (r_P hR1).2.2.2.1, (r_P hR1).1, q1, q2, q3, q4, fun _ _ _ => rfl, fun _ _ _ _ _ => rfl, fun _ _ => rfl, fun _ _ => rfl, fun _ => rfl, rfl, rfl⟩⟩
    · rw [goA]
      have r2 : tI a1 17 i 2 = Int32.ofNat cd := by rw [t17]; exact m2
      simp (config := {decide := true}) only [gfI_enc, gfL_enc, gfR_enc, pfI_enc, pfL_enc, pfR_enc, Option.bind_some, cI_v, cL_v, cF_v, cD_v, cR_v, cV_v, cI_x, cL_x, cR_x, cV_x, gz_0, gz_1, acc_enc, tI_sI, tL_sI, tR_sI, tN_sI, tZ_sI, tC_sI, tc_sI, tz_sI, tI_sL, tL_sL, tR_sL, tN_sL, tZ_sL, tC_sL, tc_sL, tz_sL, tI_sR, tL_sR, tR_sR, tN_sR, tZ_sR, tC_sR, tc_sR, tz_sR, tI_sZ, tL_sZ, tR_sZ, tN_sZ, tZ_sZ, tC_sZ, tc_sZ, tz_sZ, tI_sC, tL_sC, tR_sC, tN_sC, tZ_sC, tC_sC, tc_sC, tz_sC, tI_aC, tL_aC, tR_aC, tN_aC, tZ_aC, tC_aC, tc_aC, tz_aC, tI_rmL, tL_rmL, tR_rmL, tN_rmL, tZ_rmL, tC_rmL, tc_rmL, tz_rmL, tI_mk, tL_mk, tR_mk, tN_mk, tZ_mk, tC_mk, tc_mk, tz_mk, tI_pushL, tL_pushL, tR_pushL, tN_pushL, tZ_pushL, tC_pushL, tc_pushL, tz_pushL, tI_pushB, tL_pushB, tR_pushB, tN_pushB, tZ_pushB, tC_pushB, tc_pushB, tz_pushB, tI_cpL, tL_cpL, tR_cpL, tN_cpL, tZ_cpL, tC_cpL, tc_cpL, tz_cpL, eq_self, true_and, and_true, false_and, and_false, if_true, if_false, reduceIte, ite_true, ite_false, not_true_eq_false, not_false_eq_true, gm i17 hi, m1, x, gm i17 hi1, r2, f16, f8', reduceCtorEq]
    · refine (X_in (by decide +kernel) (frN_94 hfr) rfl).trans ((lf_169_0 ..).trans ?_)
      simp (config := {decide := true}) only [gfI_enc, gfL_enc, gfR_enc, pfI_enc, pfL_enc, pfR_enc, Option.bind_some, cI_v, cL_v, cF_v, cD_v, cR_v, cV_v, cI_x, cL_x, cR_x, cV_x, gz_0, gz_1, acc_enc, tI_sI, tL_sI, tR_sI, tN_sI, tZ_sI, tC_sI, tc_sI, tz_sI, tI_sL, tL_sL, tR_sL, tN_sL, tZ_sL, tC_sL, tc_sL, tz_sL, tI_sR, tL_sR, tR_sR, tN_sR, tZ_sR, tC_sR, tc_sR, tz_sR, tI_sZ, tL_sZ, tR_sZ, tN_sZ, tZ_sZ, tC_sZ, tc_sZ, tz_sZ, tI_sC, tL_sC, tR_sC, tN_sC, tZ_sC, tC_sC, tc_sC, tz_sC, tI_aC, tL_aC, tR_aC, tN_aC, tZ_aC, tC_aC, tc_aC, tz_aC, tI_rmL, tL_rmL, tR_rmL, tN_rmL, tZ_rmL, tC_rmL, tc_rmL, tz_rmL, tI_mk, tL_mk, tR_mk, tN_mk, tZ_mk, tC_mk, tc_mk, tz_mk, tI_pushL, tL_pushL, tR_pushL, tN_pushL, tZ_pushL, tC_pushL, tc_pushL, tz_pushL, tI_pushB, tL_pushB, tR_pushB, tN_pushB, tZ_pushB, tC_pushB, tc_pushB, tz_pushB, tI_cpL, tL_cpL, tR_cpL, tN_cpL, tZ_cpL, tC_cpL, tc_cpL, tz_cpL, eq_self, true_and, and_true, false_and, and_false, if_true, if_false, reduceIte, ite_true, ite_false, not_true_eq_false, not_false_eq_true, f159, y160 _ _ _ _ _ _ hfr, hs', f162, ho]
