/-! ===== a day ends; faults of lines ===== -/
def stL (x y : Int64) : Int64 := if x < -y then x else -y
def stM (x y : Int64) (r : Int32) : Int64 := if lg_cmp y 0 ≤ 0 then x - stL x y else x + (y - y * r.toInt64 / 10000)
def stW (x y : Int64) : Int64 := if lg_cmp y 0 ≤ 0 then y + stL x y else 0
def stF (y : Int64) (r : Int32) : Int64 := if lg_cmp y 0 ≤ 0 then 0 else y * r.toInt64 / 10000
/-- a shop settles -/
def EvE (a b a' b' : TS) : Prop := ∃ s, s < tZ a 27 0 ∧ chF [] [(96, 9), (36, 11), (36, 12)] a a' ∧ chF [45, 46] [(91, 7)] b b' ∧
  (∀ k, tL b' 45 0 k = if k = s then stM (tL b 45 0 s) (tL b 46 0 s) (tI b 97 0 7) else tL b 45 0 k) ∧ (∀ k, tL b' 46 0 k = if k = s then stW (tL b 45 0 s) (tL b 46 0 s) else tL b 46 0 k) ∧
  tL b' 91 0 7 = tL b 91 0 7 + stF (tL b 46 0 s) (tI b 97 0 7) ∧ R0 a b ∧ R0 a' b'
theorem core_settle {a b : TS} {C s : Nat} (h : Core a b C) (hs : s < tZ a 27 0) :
    ∃ a' b', (∀ z, Ru 124 2 [(0, aR (some (96, 0))), (1, aI (Int32.ofNat s))] [] (enc 1 a z) = Ru 124 2 [(0, aR (some (96, 0))), (1, aI (Int32.ofNat (s + 1)))] [] (enc 1 a' z)) ∧
      Core a' b' C ∧ chF [] [(96, 9), (36, 11), (36, 12)] a a' ∧ chF [45, 46] [(91, 7)] b b' ∧ Wr a a' ∧
      (∀ k, tL b' 45 0 k = if k = s then stM (tL b 45 0 s) (tL b 46 0 s) (tI b 97 0 7) else tL b 45 0 k) ∧ (∀ k, tL b' 46 0 k = if k = s then stW (tL b 45 0 s) (tL b 46 0 s) else tL b 46 0 k) ∧ tL b' 91 0 7 = tL b 91 0 7 + stF (tL b 46 0 s) (tI b 97 0 7) := by
  have hR := h.1.1
  have hF := r_FC hR
  obtain ⟨r1, r2, r3⟩ := shop_at hR hs
  obtain ⟨w1, w2⟩ := (r_W hR).1 s hs
  have wf : tL a 96 0 9 = tL b 91 0 7 := by
    obtain ⟨-, -, -, -, -, -, e7, -⟩ := r_B hR
    exact e7
  have efee : tI a 96 0 8 = tI b 97 0 7 := by
    obtain ⟨-, -, -, h10, -⟩ := r_H hR
    exact h10
  have g1 : (Int32.ofNat s).toNatClampNeg = s := o_ix (by omega)
  have g2 : ¬ Int32.ofNat s < 0 := o_lt0 (by omega)
  have g3 : ¬ Int32.ofNat (tZ a 27 0) ≤ Int32.ofNat s := by rw [o_le (by omega) (by omega)]; omega
  have n45 : ∀ (b : TS) (x y : Int64) (k : Nat), tL (sL (sL b 45 0 s x) 46 0 s y) 45 0 k = (if k = s then x else tL b 45 0 k) ∧ tL (sL (sL b 45 0 s x) 46 0 s y) 46 0 k = (if k = s then y else tL b 46 0 k) := fun b x y k => by
    refine ⟨?_, ?_⟩
    · rw [tL_sL, if_neg (fun q => absurd q.1 (by decide)), tL_sL]
      by_cases e : k = s
      · rw [if_pos ⟨rfl, rfl, e⟩, if_pos e]
      · rw [if_neg (fun q => e q.2.2), if_neg e]
    · rw [tL_sL]
      by_cases e : k = s
      · rw [if_pos ⟨rfl, rfl, e⟩, if_pos e]
      · rw [if_neg (fun q => e q.2.2), if_neg e, tL_sL, if_neg (fun q => absurd q.1 (by decide))]
  have n91 : ∀ (x : Int64) (t k : Nat), t ≠ 91 → tL (sL b 91 0 7 x) t 0 k = tL b t 0 k := fun x t k ht => by rw [tL_sL, if_neg (fun q => ht q.1)]
  by_cases e : lg_cmp (tL b 46 0 s) 0 ≤ 0
  · refine ⟨sL (sL a 36 s 11 (tL b 45 0 s - stL (tL b 45 0 s) (tL b 46 0 s))) 36 s 12 (tL b 46 0 s + stL (tL b 45 0 s) (tL b 46 0 s)), sL (sL b 45 0 s (tL b 45 0 s - stL (tL b 45 0 s) (tL b 46 0 s))) 46 0 s (tL b 46 0 s + stL (tL b 45 0 s) (tL b 46 0 s)), fun z => ?_, core_money h hs, chF_L (by simp) (chF_L (by simp) (chF_r _ _ _)), chF_L (by simp) (chF_L (by simp) (chF_r _ _ _)), ((Wr.rf _).cL _ _ _ _).cL _ _ _ _, fun k => ?_, fun k => ?_, ?_⟩
    · rw [lf_124_2]
      unfold stL
      simp (config := {decide := true}) only [gfI_enc, gfL_enc, gfR_enc, pfI_enc, pfL_enc, pfR_enc, Option.bind_some, cI_v, cL_v, cF_v, cD_v, cR_v, cV_v, cI_x, cL_x, cR_x, cV_x, gz_0, gz_1, acc_enc, tI_sI, tL_sI, tR_sI, tN_sI, tZ_sI, tC_sI, tc_sI, tz_sI, tI_sL, tL_sL, tR_sL, tN_sL, tZ_sL, tC_sL, tc_sL, tz_sL, tI_sR, tL_sR, tR_sR, tN_sR, tZ_sR, tC_sR, tc_sR, tz_sR, tI_sZ, tL_sZ, tR_sZ, tN_sZ, tZ_sZ, tC_sZ, tc_sZ, tz_sZ, tI_sC, tL_sC, tR_sC, tN_sC, tZ_sC, tC_sC, tc_sC, tz_sC, tI_aC, tL_aC, tR_aC, tN_aC, tZ_aC, tC_aC, tc_aC, tz_aC, tI_rmL, tL_rmL, tR_rmL, tN_rmL, tZ_rmL, tC_rmL, tc_rmL, tz_rmL, tI_mk, tL_mk, tR_mk, tN_mk, tZ_mk, tC_mk, tc_mk, tz_mk, tI_pushL, tL_pushL, tR_pushL, tN_pushL, tZ_pushL, tC_pushL, tc_pushL, tz_pushL, tI_pushB, tL_pushB, tR_pushB, tN_pushB, tZ_pushB, tC_pushB, tc_pushB, tz_pushB, tI_cpL, tL_cpL, tR_cpL, tN_cpL, tZ_cpL, tC_cpL, tc_cpL, tz_cpL, eq_self, true_and, and_true, false_and, and_false, if_true, if_false, reduceIte, ite_true, ite_false, not_true_eq_false, not_false_eq_true, fcN_96 hF, fcR_96_3 hF, X405, X402, fcN_27 hF, g1, g2, g3, hs, r1, acc_enc, r2, w2, e, w1, Ex_min, o_s]
    · unfold stM
      rw [if_pos e]
      exact (n45 b _ _ k).1
    · unfold stW
      rw [if_pos e]
      exact (n45 b _ _ k).2
    · unfold stF
      rw [if_pos e, tL_sL, if_neg (fun q => absurd q.1 (by decide)), tL_sL, if_neg (fun q => absurd q.1 (by decide)), Int64.add_zero]
  · have h0 := core_fees (x := tL b 91 0 7 + tL b 46 0 s * (tI b 97 0 7).toInt64 / 10000) h
    have h1 := core_money (x := tL b 45 0 s + (tL b 46 0 s - tL b 46 0 s * (tI b 97 0 7).toInt64 / 10000)) (y := 0) h0 (show s < tZ (sL a 96 0 9 (tL b 91 0 7 + tL b 46 0 s * (tI b 97 0 7).toInt64 / 10000)) 27 0 from hs)
    refine ⟨_, _, fun z => ?_, h1, chF_L (by simp) (chF_L (by simp) (chF_L (by simp) (chF_r _ _ _))), chF_L (by simp) (chF_L (by simp) (chF_L (by simp) (chF_r _ _ _))), (((Wr.rf _).cL _ _ _ _).cL _ _ _ _).cL _ _ _ _, fun k => ?_, fun k => ?_, ?_⟩
    · rw [lf_124_2]
      simp (config := {decide := true}) only [gfI_enc, gfL_enc, gfR_enc, pfI_enc, pfL_enc, pfR_enc, Option.bind_some, cI_v, cL_v, cF_v, cD_v, cR_v, cV_v, cI_x, cL_x, cR_x, cV_x, gz_0, gz_1, acc_enc, tI_sI, tL_sI, tR_sI, tN_sI, tZ_sI, tC_sI, tc_sI, tz_sI, tI_sL, tL_sL, tR_sL, tN_sL, tZ_sL, tC_sL, tc_sL, tz_sL, tI_sR, tL_sR, tR_sR, tN_sR, tZ_sR, tC_sR, tc_sR, tz_sR, tI_sZ, tL_sZ, tR_sZ, tN_sZ, tZ_sZ, tC_sZ, tc_sZ, tz_sZ, tI_sC, tL_sC, tR_sC, tN_sC, tZ_sC, tC_sC, tc_sC, tz_sC, tI_aC, tL_aC, tR_aC, tN_aC, tZ_aC, tC_aC, tc_aC, tz_aC, tI_rmL, tL_rmL, tR_rmL, tN_rmL, tZ_rmL, tC_rmL, tc_rmL, tz_rmL, tI_mk, tL_mk, tR_mk, tN_mk, tZ_mk, tC_mk, tc_mk, tz_mk, tI_pushL, tL_pushL, tR_pushL, tN_pushL, tZ_pushL, tC_pushL, tc_pushL, tz_pushL, tI_pushB, tL_pushB, tR_pushB, tN_pushB, tZ_pushB, tC_pushB, tc_pushB, tz_pushB, tI_cpL, tL_cpL, tR_cpL, tN_cpL, tZ_cpL, tC_cpL, tc_cpL, tz_cpL, eq_self, true_and, and_true, false_and, and_false, if_true, if_false, reduceIte, ite_true, ite_false, not_true_eq_false, not_false_eq_true, fcN_96 hF, fcR_96_3 hF, X405, X402, fcN_27 hF, g1, g2, g3, hs, r1, acc_enc, r2, w2, e, w1, wf, efee, o_s]
    · unfold stM
      rw [if_neg e, (n45 _ _ _ k).1, n91 _ 45 k (by decide)]
    · unfold stW
      rw [if_neg e, (n45 _ _ _ k).2, n91 _ 46 k (by decide)]
    · unfold stF
      rw [if_neg e, tL_sL, if_neg (fun q => absurd q.1 (by decide)), tL_sL, if_neg (fun q => absurd q.1 (by decide)), tL_sL, if_pos ⟨rfl, rfl, rfl⟩]
theorem settle_all {C : Nat} : ∀ k s a b, s + k = tZ a 27 0 → Core a b C →
    ∃ a' b', (∀ z, Ru 124 2 [(0, aR (some (96, 0))), (1, aI (Int32.ofNat s))] [] (enc 1 a z) = Ru 124 2 [(0, aR (some (96, 0))), (1, aI (Int32.ofNat (tZ a 27 0)))] [] (enc 1 a' z)) ∧
      Core a' b' C ∧ chF [] [(96, 9), (36, 11), (36, 12)] a a' ∧ chF [45, 46] [(91, 7)] b b' ∧ Wr a a' ∧ StpE EvE a b a' b' ∧
      (∀ j, j < s → tL b' 45 0 j = tL b 45 0 j ∧ tL b' 46 0 j = tL b 46 0 j) ∧ (∀ j, s ≤ j → j < tZ a 27 0 → tL b' 45 0 j = stM (tL b 45 0 j) (tL b 46 0 j) (tI b 97 0 7) ∧ tL b' 46 0 j = stW (tL b 45 0 j) (tL b 46 0 j)) := by
  intro k
  induction k with
  | zero =>
    intro s a b hk h
    have : s = tZ a 27 0 := by omega
    subst this
    exact ⟨a, b, fun z => rfl, h, chF_r _ _ _, chF_r _ _ _, Wr.rf _, StpE_r a b, fun _ _ => ⟨rfl, rfl⟩, fun j h1 h2 => by omega⟩
  | succ k ih =>
    intro s a b hk h
    have hs : s < tZ a 27 0 := by omega
    obtain ⟨a1, b1, x1, h1, c1, d1, w1, u1, u2, u3⟩ := core_settle h hs
    have z27 : tZ a1 27 0 = tZ a 27 0 := dZ c1 (S := [27]) (P := []) (s := 27) (by decide) (by simp) 0
    have i97 : tI b1 97 0 7 = tI b 97 0 7 := dIS d1 (S := [97]) (P := []) (s := 97) (by decide) (by simp) 0 7
    obtain ⟨a2, b2, x2, h2, c2, d2, w2, s2, v1, v2⟩ := ih (s + 1) a1 b1 (by omega) h1
    rw [z27] at x2
    refine ⟨a2, b2, fun z => (x1 z).trans (x2 z), h2, chF_t c1 c2, chF_t d1 d2, w1.t w2, StpE_t (StpE_1 ⟨s, hs, c1, d1, u1, u2, u3, h.1.1, h1.1.1⟩) s2, fun j hj => ?_, fun j hj hj2 => ?_⟩
    · obtain ⟨q1, q2⟩ := v1 j (by omega)
      rw [q1, q2, u1, u2, if_neg (by omega), if_neg (by omega)]
      exact ⟨rfl, rfl⟩
    · by_cases e : j = s
      · subst e
        obtain ⟨q1, q2⟩ := v1 j (by omega)
        rw [q1, q2, u1, u2, if_pos rfl, if_pos rfl]
        exact ⟨rfl, rfl⟩
      · obtain ⟨q1, q2⟩ := v2 j (by omega) (by omega)
        rw [q1, q2, u1, u2, if_neg e, if_neg e, i97]
        exact ⟨rfl, rfl⟩
theorem oc_endDay {a b : TS} {C : Nat} (h : Core a b C) :
    ∃ a1 b1, (∀ z, Ex 123 [aR (some (96, 0))] (enc 1 a z) = some (.inl (some (aI (tI b 97 0 6 + 1))), enc 1 (sI a1 25 0 1 (tI b 97 0 6 + 1)) z)) ∧ Core (sI a1 25 0 1 (tI b 97 0 6 + 1)) (sI (sI b1 97 0 6 (tI b 97 0 6 + 1)) 94 0 11 (tI b 97 0 6 + 1)) C ∧ Wr a (sI a1 25 0 1 (tI b 97 0 6 + 1)) ∧ StpE EvE a b a1 b1 ∧ chF [] [(96, 9), (36, 11), (36, 12)] a a1 ∧ chF [45, 46] [(91, 7)] b b1 ∧
      (∀ j, j < tZ a 27 0 → tL b1 45 0 j = stM (tL b 45 0 j) (tL b 46 0 j) (tI b 97 0 7) ∧ tL b1 46 0 j = stW (tL b 45 0 j) (tL b 46 0 j)) := by
  have hR := h.1.1
  have hF := r_FC hR
  obtain ⟨a1, b1, x1, h1, c1, d1, w1, s1, -, v2⟩ := settle_all (tZ a 27 0) 0 a b (Nat.zero_add _) h
  have hR1 := h1.1.1
  have hF1 := r_FC hR1
  have z27 : tZ a1 27 0 = tZ a 27 0 := dZ c1 (S := [27]) (P := []) (s := 27) (by decide) (by simp) 0
  have ed : tI a1 25 0 1 = tI b 97 0 6 := by
    obtain ⟨-, ⟨h6, -⟩, -⟩ := r_H hR1
    rw [h6]
    exact dIS d1 (S := [97]) (P := []) (s := 97) (by decide) (by simp) 0 6
  have h2 := core_day (d := tI b 97 0 6 + 1) h1
  have g3 : Int32.ofNat (tZ a 27 0) ≤ Int32.ofNat (tZ a 27 0) := Int32.le_refl _
  refine ⟨a1, b1, fun z => ?_, h2, w1.t ((Wr.rf _).cI _ _ _ _), s1, c1, d1, fun j hj => v2 j (Nat.zero_le _) hj⟩
  have f124 : ∀ z, Ex 124 [aR (some (96, 0))] (enc 1 a z) = some (.inl (some (aI (tI b 97 0 6 + 1))), enc 1 (sI a1 25 0 1 (tI b 97 0 6 + 1)) z) := fun z => by
    refine (X_in (by decide +kernel) (fcN_96 hF) rfl).trans ((lf_124_0 ..).trans ?_)
    refine (x1 z).trans ?_
    rw [lf_124_2]
    simp (config := {decide := true}) only [gfI_enc, gfL_enc, gfR_enc, pfI_enc, pfL_enc, pfR_enc, Option.bind_some, cI_v, cL_v, cF_v, cD_v, cR_v, cV_v, cI_x, cL_x, cR_x, cV_x, gz_0, gz_1, acc_enc, tI_sI, tL_sI, tR_sI, tN_sI, tZ_sI, tC_sI, tc_sI, tz_sI, tI_sL, tL_sL, tR_sL, tN_sL, tZ_sL, tC_sL, tc_sL, tz_sL, tI_sR, tL_sR, tR_sR, tN_sR, tZ_sR, tC_sR, tc_sR, tz_sR, tI_sZ, tL_sZ, tR_sZ, tN_sZ, tZ_sZ, tC_sZ, tc_sZ, tz_sZ, tI_sC, tL_sC, tR_sC, tN_sC, tZ_sC, tC_sC, tc_sC, tz_sC, tI_aC, tL_aC, tR_aC, tN_aC, tZ_aC, tC_aC, tc_aC, tz_aC, tI_rmL, tL_rmL, tR_rmL, tN_rmL, tZ_rmL, tC_rmL, tc_rmL, tz_rmL, tI_mk, tL_mk, tR_mk, tN_mk, tZ_mk, tC_mk, tc_mk, tz_mk, tI_pushL, tL_pushL, tR_pushL, tN_pushL, tZ_pushL, tC_pushL, tc_pushL, tz_pushL, tI_pushB, tL_pushB, tR_pushB, tN_pushB, tZ_pushB, tC_pushB, tc_pushB, tz_pushB, tI_cpL, tL_cpL, tR_cpL, tN_cpL, tZ_cpL, tC_cpL, tc_cpL, tz_cpL, eq_self, true_and, and_true, false_and, and_false, if_true, if_false, reduceIte, ite_true, ite_false, not_true_eq_false, not_false_eq_true, fcN_96 hF1, fcR_96_3 hF1, X405, fcN_27 hF1, z27, g3, fcR_96_1 hF1, fcN_25 hF1, ed]
  refine (X_in (by decide +kernel) (fcN_96 hF) rfl).trans ((lf_123_0 ..).trans ?_)
  rw [f124, cI_v]
/-! faults of a line -/
theorem clamp_add {x : Int32} {m : Nat} (hm : m ≤ 100) : (x + Int32.ofNat m).toNatClampNeg ≤ x.toNatClampNeg + m := by
  have h1 := Int32.toInt_lt x
  have h2 := Int32.le_toInt x
  rw [x_ix, x_ix, Int32.toInt_add, Int32.toInt_ofNat_of_lt (by omega), Int.bmod_def]
  split <;> omega
theorem core_faults {a b : TS} {C c k m : Nat} (h : Core a b C) (hC : C + 1 ≤ 512) (hc : c < 2 * tZ a 27 0) (hm : m ≤ 100) : Core (sI a 8 c k (tI a 8 c k + Int32.ofNat m)) (sI b 48 c k (tI a 8 c k + Int32.ofNat m)) (C + 1) := by
  obtain ⟨⟨hR, hN, hL, hAs, hK⟩, ⟨T, m1, m2, m3, m4, m5, m6, m7⟩, ht⟩ := h
  have e48 : tI a 8 c k = tI b 48 c k := by rw [hL.1.2.2.2.1 c hc]
  have v8 : ∀ c' k', tI (sI a 8 c k (tI a 8 c k + Int32.ofNat m)) 8 c' k' = if c' = c ∧ k' = k then tI a 8 c k + Int32.ofNat m else tI a 8 c' k' := fun c' k' => by
    rw [tI_sI]
    by_cases e : c' = c ∧ k' = k
    · rw [if_pos e, if_pos ⟨rfl, e⟩]
    · rw [if_neg e, if_neg (fun q => e q.2)]
  have v48 : ∀ c' k', tI (sI b 48 c k (tI a 8 c k + Int32.ofNat m)) 48 c' k' = if c' = c ∧ k' = k then tI a 8 c k + Int32.ofNat m else tI b 48 c' k' := fun c' k' => by
    rw [tI_sI]
    by_cases e : c' = c ∧ k' = k
    · rw [if_pos e, if_pos ⟨rfl, e⟩]
    · rw [if_neg e, if_neg (fun q => e q.2)]
  have ca : chF [8] [] a (sI a 8 c k (tI a 8 c k + Int32.ofNat m)) := chF_I (by simp) (chF_r _ _ _)
  have cb : chF [48] [] b (sI b 48 c k (tI a 8 c k + Int32.ofNat m)) := chF_I (by simp) (chF_r _ _ _)
  have wa : Wr a (sI a 8 c k (tI a 8 c k + Int32.ofNat m)) := (Wr.rf _).cI _ _ _ _
  have wb : Wr b (sI b 48 c k (tI a 8 c k + Int32.ofNat m)) := (Wr.rf _).cI _ _ _ _
  obtain ⟨q1, q2⟩ := CaT_48 (f := c) (k := k) (v := tI a 8 c k + Int32.ofNat m) hL.1.2.1
  have hLT : LaT (sI a 8 c k (tI a 8 c k + Int32.ofNat m)) (2 * tZ a 27 0) := by
    obtain ⟨l1, l2, l3⟩ := hL.1.1
    refine ⟨l1, l2, fun c' hc' => ?_⟩
    obtain ⟨n1, n2, n3, n4⟩ := l3 c' hc'
    exact ⟨n1, n2, by rw [tI_sI, if_neg (fun q => by omega)]; exact n3, n4⟩
  have vAe : ∀ c', c' < 2 * tZ a 27 0 → vA (sI a 8 c k (tI a 8 c k + Int32.ofNat m)) c' = vA a c' := fun c' hc' => by
    obtain ⟨n1, m0, n3, n4⟩ := hL.1.1.2.2 c' hc'
    have i21 : tI (sI a 8 c k (tI a 8 c k + Int32.ofNat m)) (21 + c' % 2) (c' / 2) 3 = Int32.ofNat m0 := by rw [tI_sI, if_neg (fun q => by omega)]; exact n3
    rw [vA_of hL.1.1 hc' n3 n4, vA_of hLT hc' i21 n4]
    unfold vL
    refine List.map_congr_left (fun k' hk' => ?_)
    have hk' := List.mem_range.mp hk'
    obtain ⟨r, -, r2⟩ := hL.1.1.1.1 c' (by rw [hL.1.1.2.1]; exact hc') k' (by omega)
    rw [tR_sI, r2]
    unfold eC
    have i10 : ∀ f, tI (sI a 8 c k (tI a 8 c k + Int32.ofNat m)) 10 r f = tI a 10 r f := fun f => by rw [tI_sI, if_neg (fun q => absurd q.1 (by decide))]
    dsimp only
    rw [i10, mv_congr (fun f _ _ => i10 f)]
  have hP : PS a (sI a 8 c k (tI a 8 c k + Int32.ofNat m)) b (sI b 48 c k (tI a 8 c k + Int32.ofNat m)) := PS_c ca cb (by decide) (by decide)
  have gq' : groQ b (sI b 48 c k (tI a 8 c k + Int32.ofNat m)) := groQ_c cb (by decide +kernel)
  have capE : ∀ c', capc (sI b 48 c k (tI a 8 c k + Int32.ofNat m)) c' = capc b c' := fun c' => rfl
  have hL0 : Ln0 (sI a 8 c k (tI a 8 c k + Int32.ofNat m)) (sI b 48 c k (tI a 8 c k + Int32.ofNat m)) := by
    refine ⟨hLT, q1, hL.1.2.2.1, fun c' hc' => ?_, hL.1.2.2.2.2⟩
    funext k'
    rw [v8, v48]
    by_cases e : c' = c ∧ k' = k
    · rw [if_pos e, if_pos e]
    · rw [if_neg e, if_neg e, hL.1.2.2.2.1 c' hc']
  have hR1 := put_R0 hR (chF_m ca (by simp) (by simp)) (chF_m cb (by simp) (by simp)) (fun s _ => rfl) wa wb
  have wQ : ∀ c', c' < 2 * tZ a 27 0 → vQ (sI b 48 c k (tI a 8 c k + Int32.ofNat m)) c' = vQ b c' := q2
  have fA : ∀ s i j, s ≠ 48 → tI (sI b 48 c k (tI a 8 c k + Int32.ofNat m)) s i j = tI b s i j := fun s i j h => by rw [tI_sI, if_neg (fun q => h q.1)]
  have hKT : ∀ s, KTs (sI a 8 c k (tI a 8 c k + Int32.ofNat m)) (sI b 48 c k (tI a 8 c k + Int32.ofNat m)) s = KTs a b s := fun s => KTs_eq rfl (fun j _ => fA 67 0 _ (by decide))
  have hGK : GK (sI a 8 c k (tI a 8 c k + Int32.ofNat m)) (sI b 48 c k (tI a 8 c k + Int32.ofNat m)) = GK a b := by
    unfold GK
    rw [unsN_eq (fun p => fA 70 0 p (by decide)), bkN_eq (fun p => fA 69 0 p (by decide))]
    unfold askN
    simp only [fA 87 0 _ (by decide)]
    rfl
  refine ⟨⟨hR1, Nt_c hN ca cb (by decide) (by decide) hP.1 (gro_c ca (by decide)) gq', ⟨hL0, fun s hs => ?_⟩, As_c hAs ca cb (by decide) (by decide), Kp_c hK ca cb (by decide) (by decide) hP gq' (fun p _ h => by rw [fA 87 0 _ (by decide)]; exact h)⟩, ⟨T, m1, hC, by rw [fA 95 0 1 (by decide)]; exact m3, ?_, ?_, fun s hs => ?_, fun s hs => ?_⟩, Tx_s ht (sam0_c ca (by decide)) (sam0_c cb (by decide))⟩
  · have hs : s < tZ a 27 0 := hs
    obtain ⟨u1, u2⟩ := hL.2 s hs
    exact ⟨LnU_c u1 hP (vAe (2 * s) (by omega)) (wQ (2 * s) (by omega)), LnD_c u2 hP (vAe (2 * s + 1) (by omega)) (wQ (2 * s + 1) (by omega))⟩
  · rw [hGK]
    show Kc a + GK a b + (200 - tZ a 29 0) ≤ 1000 + (C + 1) ∧ Kb b ≤ Kc a
    omega
  · have e1 : sumS (tZ a 27 0) (phi (sI a 8 c k (tI a 8 c k + Int32.ofNat m)) (sI b 48 c k (tI a 8 c k + Int32.ofNat m))) + 0 ≤ sumS (tZ a 27 0) (phi a b) + 100 := by
      refine sumS_at (s := c / 2) ?_ _ (by omega) (fun s' hs' hne => ?_)
      · unfold phi
        rw [wQ (2 * (c / 2)) (by omega), hKT, v48]
        by_cases e : 2 * (c / 2) = c ∧ 1 = k
        · rw [if_pos e, e48, ← e.2, ← e.1]
          have := clamp_add (x := tI b 48 (2 * (c / 2)) 1) hm
          have e2 : 2 * (2 * (c / 2) / 2) = 2 * (c / 2) := by omega
          rw [e2]
          omega
        · rw [if_neg e]
          omega
      · unfold phi
        rw [wQ (2 * s') (by omega), hKT, v48, if_neg (fun q => by omega)]
        exact Nat.le_refl _
    rw [hGK]
    show Mt b + sumS (tZ a 27 0) (phi (sI a 8 c k (tI a 8 c k + Int32.ofNat m)) (sI b 48 c k (tI a 8 c k + Int32.ofNat m))) + 301 * GK a b + (200 - tZ a 29 0) ≤ 241000 + 100 * (C + 1)
    omega
  · have e1 : sumS (tZ a 27 0) (fun s' => ask0 (vQ (sI b 48 c k (tI a 8 c k + Int32.ofNat m)) (2 * s'))) = sumS (tZ a 27 0) (fun s' => ask0 (vQ b (2 * s'))) := sumS_eq _ (fun s hs => by rw [wQ (2 * s) (by omega)])
    show tN a s + sumS (tZ a 27 0) (fun s' => ask0 (vQ (sI b 48 c k (tI a 8 c k + Int32.ofNat m)) (2 * s'))) + 2 * (200 - tZ a 29 0) ≤ 400
    rw [e1]
    exact m6 s hs
  · have hs : s < tZ a 27 0 := hs
    rw [hKT, wQ (2 * s) (by omega), wQ (2 * s + 1) (by omega)]
    exact m7 s hs
theorem core_faults_v {a b : TS} {C c k m : Nat} (h : Core a b C) (hc : c < 2 * tZ a 27 0) : (∀ c' k', tI (sI b 48 c k (tI a 8 c k + Int32.ofNat m)) 48 c' k' = if c' = c ∧ k' = k then tI b 48 c k + Int32.ofNat m else tI b 48 c' k') ∧ (∀ c', c' < 2 * tZ a 27 0 → vQ (sI b 48 c k (tI a 8 c k + Int32.ofNat m)) c' = vQ b c') := by
  have hL := h.1.2.2.1
  have e48 : tI a 8 c k = tI b 48 c k := by rw [hL.1.2.2.2.1 c hc]
  refine ⟨fun c' k' => ?_, (CaT_48 (f := c) (k := k) (v := tI a 8 c k + Int32.ofNat m) hL.1.2.1).2⟩
  rw [tI_sI, e48]
  by_cases e : c' = c ∧ k' = k
  · rw [if_pos e, if_pos ⟨rfl, e⟩]
  · rw [if_neg e, if_neg (fun q => e q.2)]
/-- faults of a line are told -/
theorem oc_faults {a b : TS} {C s l k m : Nat} (h : Core a b C) (hC : C + 1 ≤ 512) (hs : s < tZ a 27 0) (hl : l ≤ 1) (hk : k ≤ 2) (hm : m ≤ 100) :
    ∃ a' b', (∀ z, Ex 108 [aR (some (96, 0)), aI (Int32.ofNat s), aI (Int32.ofNat l), aI (Int32.ofNat k), aI (Int32.ofNat m)] (enc 1 a z) = some (.inl (some (aI (tI b 48 (2 * s + l) k + Int32.ofNat m))), enc 1 a' z)) ∧ Core a' b' (C + 1) ∧ Wr a a' ∧ chF [8] [] a a' ∧ chF [48] [] b b' ∧
      (∀ c' k', tI b' 48 c' k' = if c' = 2 * s + l ∧ k' = k then tI b 48 (2 * s + l) k + Int32.ofNat m else tI b 48 c' k') ∧ (∀ c', c' < 2 * tZ a 27 0 → vQ b' c' = vQ b c') := by
  have hR := h.1.1
  have hF := r_FC hR
  have h4 := (r_S hR).1
  have x0 := x139_1 (inR_mk (k := s) hs (by omega))
  have x1 := x139_1 (inR_of (n := l) (lo := 0) (hi := 1) (Nat.zero_le _) hl (by omega))
  have x2 := x139_1 (inR_of (n := k) (lo := 0) (hi := 2) (Nat.zero_le _) hk (by omega))
  have x3 := x139_1 (inR_of (n := m) (lo := 0) (hi := 100) (Nat.zero_le _) hm (by omega))
  have o0 : Int32.ofNat 0 = 0 := rfl
  have o1 : Int32.ofNat 1 = 1 := rfl
  have o2 : Int32.ofNat 2 = 2 := rfl
  have o100 : Int32.ofNat 100 = 100 := rfl
  rw [o0, o1] at x1
  rw [o0, o2] at x2
  rw [o0, o100] at x3
  have hc : 2 * s + l < 2 * tZ a 27 0 := by omega
  have h1 := core_faults (c := 2 * s + l) (k := k) (m := m) h hC hc hm
  obtain ⟨v1, v2⟩ := core_faults_v (k := k) (m := m) h hc
  have ev8 : tI a 8 (2 * s + l) k = tI b 48 (2 * s + l) k := by
    have := h.1.2.2.1.1.2.2.2.1 (2 * s + l) hc
    rw [this]
  obtain ⟨r1, r2, r3⟩ := shop_at hR hs
  obtain ⟨⟨p1', p2', p3', p4', p5', p6', p7', p8', p9'⟩, -⟩ := h.1.2.2.1.1.1.2.2 (2 * s + l) hc
  obtain ⟨S1, S2, ⟨S3, S4, S5', S6, S7, S8⟩, S9, S10⟩ := r_S hR
  obtain ⟨T1, T2, T3, T4, T5, T6, T7, T8, T9, T10, T11⟩ := S10 s hs
  have g1 : (Int32.ofNat s).toNatClampNeg = s := o_ix (by omega)
  have g2 : ¬ Int32.ofNat s < 0 := o_lt0 (by omega)
  have g3 : (Int32.ofNat k).toNatClampNeg = k := o_ix (by omega)
  have g4 : ¬ Int32.ofNat k < 0 := o_lt0 (by omega)
  have g5 : k < 3 := by omega
  refine ⟨sI a 8 (2 * s + l) k (tI a 8 (2 * s + l) k + Int32.ofNat m), _, fun z => pub_go (rf := 109) (cb := [aR (some (96, 0)), aI (Int32.ofNat s), aI (Int32.ofNat l), aI (Int32.ofNat k), aI (Int32.ofNat m)]) (dm := 110) (da := [aR (some (96, 0)), aI (Int32.ofNat s), aI (Int32.ofNat l), aI (Int32.ofNat k), aI (Int32.ofNat m)]) (fun z => ?_) (fun z => ?_) (fun z => ?_) z, h1, (Wr.rf _).cI _ _ _ _, chF_I (by simp) (chF_r _ _ _), chF_I (by simp) (chF_r _ _ _), v1, v2⟩
  · refine (X_in (by decide +kernel) (fcN_96 hF) rfl).trans ((lf_108_0 ..).trans ?_)
    rfl
  · refine (X_in (by decide +kernel) (fcN_96 hF) rfl).trans ((lf_109_0 ..).trans ?_)
    simp (config := {decide := true}) only [gfI_enc, gfL_enc, gfR_enc, pfI_enc, pfL_enc, pfR_enc, Option.bind_some, cI_v, cL_v, cF_v, cD_v, cR_v, cV_v, cI_x, cL_x, cR_x, cV_x, gz_0, gz_1, acc_enc, tI_sI, tL_sI, tR_sI, tN_sI, tZ_sI, tC_sI, tc_sI, tz_sI, tI_sL, tL_sL, tR_sL, tN_sL, tZ_sL, tC_sL, tc_sL, tz_sL, tI_sR, tL_sR, tR_sR, tN_sR, tZ_sR, tC_sR, tc_sR, tz_sR, tI_sZ, tL_sZ, tR_sZ, tN_sZ, tZ_sZ, tC_sZ, tc_sZ, tz_sZ, tI_sC, tL_sC, tR_sC, tN_sC, tZ_sC, tC_sC, tc_sC, tz_sC, tI_aC, tL_aC, tR_aC, tN_aC, tZ_aC, tC_aC, tc_aC, tz_aC, tI_rmL, tL_rmL, tR_rmL, tN_rmL, tZ_rmL, tC_rmL, tc_rmL, tz_rmL, tI_mk, tL_mk, tR_mk, tN_mk, tZ_mk, tC_mk, tc_mk, tz_mk, tI_pushL, tL_pushL, tR_pushL, tN_pushL, tZ_pushL, tC_pushL, tc_pushL, tz_pushL, tI_pushB, tL_pushB, tR_pushB, tN_pushB, tZ_pushB, tC_pushB, tc_pushB, tz_pushB, tI_cpL, tL_cpL, tR_cpL, tN_cpL, tZ_cpL, tC_cpL, tc_cpL, tz_cpL, eq_self, true_and, and_true, false_and, and_false, if_true, if_false, reduceIte, ite_true, ite_false, not_true_eq_false, not_false_eq_true, fcN_96 hF, fcR_96_3 hF, X405, fcN_27 hF, x0, x1, x2, x3]
  · have : l = 0 ∨ l = 1 := by omega
    rcases this with q | q
    · subst q
      rw [Nat.add_zero] at *
      have z0 : Int32.ofNat 0 = 0 := rfl
      have a21 : 21 + 2 * s % 2 = 21 := by omega
      have a2 : 2 * s / 2 = s := by omega
      simp only [a21, a2] at p1' p2' p5'
      refine (X_in (by decide +kernel) (fcN_96 hF) rfl).trans ((lf_110_0 ..).trans ?_)
      simp (config := {decide := true}) only [gfI_enc, gfL_enc, gfR_enc, pfI_enc, pfL_enc, pfR_enc, Option.bind_some, cI_v, cL_v, cF_v, cD_v, cR_v, cV_v, cI_x, cL_x, cR_x, cV_x, gz_0, gz_1, acc_enc, tI_sI, tL_sI, tR_sI, tN_sI, tZ_sI, tC_sI, tc_sI, tz_sI, tI_sL, tL_sL, tR_sL, tN_sL, tZ_sL, tC_sL, tc_sL, tz_sL, tI_sR, tL_sR, tR_sR, tN_sR, tZ_sR, tC_sR, tc_sR, tz_sR, tI_sZ, tL_sZ, tR_sZ, tN_sZ, tZ_sZ, tC_sZ, tc_sZ, tz_sZ, tI_sC, tL_sC, tR_sC, tN_sC, tZ_sC, tC_sC, tc_sC, tz_sC, tI_aC, tL_aC, tR_aC, tN_aC, tZ_aC, tC_aC, tc_aC, tz_aC, tI_rmL, tL_rmL, tR_rmL, tN_rmL, tZ_rmL, tC_rmL, tc_rmL, tz_rmL, tI_mk, tL_mk, tR_mk, tN_mk, tZ_mk, tC_mk, tc_mk, tz_mk, tI_pushL, tL_pushL, tR_pushL, tN_pushL, tZ_pushL, tC_pushL, tc_pushL, tz_pushL, tI_pushB, tL_pushB, tR_pushB, tN_pushB, tZ_pushB, tC_pushB, tc_pushB, tz_pushB, tI_cpL, tL_cpL, tR_cpL, tN_cpL, tZ_cpL, tC_cpL, tc_cpL, tz_cpL, eq_self, true_and, and_true, false_and, and_false, if_true, if_false, reduceIte, ite_true, ite_false, not_true_eq_false, not_false_eq_true, fcN_96 hF, fcR_96_3 hF, X402, fcN_27 hF, g1, g2, hs, r1, acc_enc, r2, z0, T6, gR_o p1', p2', p5', p6', p7', gaI_enc, paI_enc, g3, g4, g5, ev8]
    · subst q
      have z0 : ¬ Int32.ofNat 1 = 0 := by decide
      have a21 : 21 + (2 * s + 1) % 2 = 22 := by omega
      have a2 : (2 * s + 1) / 2 = s := by omega
      simp only [a21, a2] at p1' p2' p5'
      refine (X_in (by decide +kernel) (fcN_96 hF) rfl).trans ((lf_110_0 ..).trans ?_)
      simp (config := {decide := true}) only [gfI_enc, gfL_enc, gfR_enc, pfI_enc, pfL_enc, pfR_enc, Option.bind_some, cI_v, cL_v, cF_v, cD_v, cR_v, cV_v, cI_x, cL_x, cR_x, cV_x, gz_0, gz_1, acc_enc, tI_sI, tL_sI, tR_sI, tN_sI, tZ_sI, tC_sI, tc_sI, tz_sI, tI_sL, tL_sL, tR_sL, tN_sL, tZ_sL, tC_sL, tc_sL, tz_sL, tI_sR, tL_sR, tR_sR, tN_sR, tZ_sR, tC_sR, tc_sR, tz_sR, tI_sZ, tL_sZ, tR_sZ, tN_sZ, tZ_sZ, tC_sZ, tc_sZ, tz_sZ, tI_sC, tL_sC, tR_sC, tN_sC, tZ_sC, tC_sC, tc_sC, tz_sC, tI_aC, tL_aC, tR_aC, tN_aC, tZ_aC, tC_aC, tc_aC, tz_aC, tI_rmL, tL_rmL, tR_rmL, tN_rmL, tZ_rmL, tC_rmL, tc_rmL, tz_rmL, tI_mk, tL_mk, tR_mk, tN_mk, tZ_mk, tC_mk, tc_mk, tz_mk, tI_pushL, tL_pushL, tR_pushL, tN_pushL, tZ_pushL, tC_pushL, tc_pushL, tz_pushL, tI_pushB, tL_pushB, tR_pushB, tN_pushB, tZ_pushB, tC_pushB, tc_pushB, tz_pushB, tI_cpL, tL_cpL, tR_cpL, tN_cpL, tZ_cpL, tC_cpL, tc_cpL, tz_cpL, eq_self, true_and, and_true, false_and, and_false, if_true, if_false, reduceIte, ite_true, ite_false, not_true_eq_false, not_false_eq_true, fcN_96 hF, fcR_96_3 hF, X402, fcN_27 hF, g1, g2, hs, r1, acc_enc, r2, z0, T7, gR_o p1', p2', p5', p6', p7', gaI_enc, paI_enc, g3, g4, g5, ev8]
