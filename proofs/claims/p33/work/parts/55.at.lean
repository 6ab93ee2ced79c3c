/-! ===== the reference's numbers ===== -/
def newH (b : TS) : TS := sI (sR (sI (sI (sI (mk (sR (sI (sI (sI (mk (sR (sI (sI (sI (mk (mk b 61 0 0 17) 62 3 0 3) 62 (tN b 62) 0 (-1)) 62 (tN b 62) 1 0) 62 (tN b 62) 2 0) 61 (tN b 61) 4 (some (62, tN b 62))) 63 3 0 3) 63 (tN b 63) 0 (-1)) 63 (tN b 63) 1 0) 63 (tN b 63) 2 0) 61 (tN b 61) 5 (some (63, tN b 63))) 64 3 0 3) 64 (tN b 64) 0 (-1)) 64 (tN b 64) 1 0) 64 (tN b 64) 2 0) 61 (tN b 61) 6 (some (64, tN b 64))) 61 (tN b 61) 15 (-1)
theorem newH_N (b : TS) (s : Nat) : tN (newH b) s = if s = 61 ∨ s = 62 ∨ s = 63 ∨ s = 64 then tN b s + 1 else tN b s := by
  unfold newH
  simp only [tN_sI, tN_sR, tN_mk]
  by_cases h1 : s = 61
  · subst h1; simp
  · by_cases h2 : s = 62
    · subst h2; simp
    · by_cases h3 : s = 63
      · subst h3; simp
      · by_cases h4 : s = 64
        · subst h4; simp
        · simp only [h1, h2, h3, h4, if_false, or_self]
theorem newH_old (b : TS) {s i : Nat} (h : i < tN b s) : (∀ k, tI (newH b) s i k = tI b s i k) ∧ (∀ k, tR (newH b) s i k = tR b s i k) ∧ tZ (newH b) s i = tZ b s i := by
  have h1 : ∀ t, ¬ (s = t ∧ i = tN b t) := fun t q => by rw [q.1, q.2] at h; exact Nat.lt_irrefl _ h
  have h2 : ∀ t (p : Prop), ¬ (s = t ∧ i = tN b t ∧ p) := fun t p q => h1 t ⟨q.1, q.2.1⟩
  have e : ∀ p q : Nat, p ≠ q → ∀ x y : Nat, (if p = q then x else y) = y := fun p q hpq x y => if_neg hpq
  unfold newH
  refine ⟨fun k => ?_, fun k => ?_, ?_⟩
  · simp only [tI_sI, tI_sR, tI_mk, tN_sI, tN_sR, tN_mk, h1, h2, if_false, e 62 61 (by decide), e 63 62 (by decide), e 63 61 (by decide), e 64 63 (by decide), e 64 62 (by decide), e 64 61 (by decide)]
  · simp only [tR_sI, tR_sR, tR_mk, tN_sI, tN_sR, tN_mk, h1, h2, if_false, e 62 61 (by decide), e 63 62 (by decide), e 63 61 (by decide), e 64 63 (by decide), e 64 62 (by decide), e 64 61 (by decide)]
  · simp only [tZ_sI, tZ_sR, tZ_mk, tN_sI, tN_sR, tN_mk, h1, h2, if_false, e 62 61 (by decide), e 63 62 (by decide), e 63 61 (by decide), e 64 63 (by decide), e 64 62 (by decide), e 64 61 (by decide)]
theorem newH_I (b : TS) (f : Nat) : tI (newH b) 61 (tN b 61) f = if f = 15 then -1 else 0 := by
  unfold newH
  simp (config := {decide := true}) only [tI_sI, tI_sR, tI_mk, false_and, true_and, if_true, if_false]
theorem newH_A (b : TS) (t f : Nat) (ht : t = 62 ∨ t = 63 ∨ t = 64) : tI (newH b) t (tN b t) f = if f = 0 then -1 else 0 := by
  unfold newH
  rcases ht with e | e | e <;> subst e <;> simp (config := {decide := true}) only [tI_sI, tI_sR, tI_mk, tN_sI, tN_sR, tN_mk, false_and, true_and, if_true, if_false]
  all_goals
    repeat' split
    all_goals first | rfl | (exfalso; omega)
theorem newH_R (b : TS) (k : Nat) : tR (newH b) 61 (tN b 61) k = if k = 6 then some (64, tN b 64) else if k = 5 then some (63, tN b 63) else if k = 4 then some (62, tN b 62) else none := by
  unfold newH
  simp (config := {decide := true}) only [tR_sI, tR_sR, tR_mk, tN_sI, tN_sR, tN_mk, false_and, true_and, if_true, if_false]
theorem newH_Z (b : TS) (t : Nat) (ht : t = 62 ∨ t = 63 ∨ t = 64) : tZ (newH b) t (tN b t) = 3 := by
  unfold newH
  rcases ht with e | e | e <;> subst e <;> simp (config := {decide := true}) only [tZ_sI, tZ_sR, tZ_mk, tN_sI, tN_sR, tN_mk, false_and, true_and, if_true, if_false]
theorem newH_chg (b : TS) : chg [53, 61, 62, 63, 64] b (newH b) := by
  unfold newH
  exact chg_sI (by simp) (chg_sR (by simp) (chg_sI (by simp) (chg_sI (by simp) (chg_sI (by simp) (chg_mk (by simp) (chg_sR (by simp) (chg_sI (by simp) (chg_sI (by simp) (chg_sI (by simp) (chg_mk (by simp) (chg_sR (by simp) (chg_sI (by simp) (chg_sI (by simp) (chg_sI (by simp) (chg_mk (by simp) (chg_mk (by simp) (chg_r _ _)))))))))))))))))
set_option maxHeartbeats 4000000 in
theorem y185 {b : TS} {z : Hp} : Ex 185 [aR (some (61, tN b 61))] (enc 2 (mk b 61 0 0 17) z) = some (.inl none, enc 2 (newH b) z) := by
  have o62 : isO 2 1000 62 := ⟨by decide +kernel, by decide +kernel⟩
  have i0 : (0 : Int32).toNatClampNeg = 0 := rfl
  have i1 : (1 : Int32).toNatClampNeg = 1 := rfl
  have i2 : (2 : Int32).toNatClampNeg = 2 := rfl
  have i3 : (3 : Int32).toNatClampNeg = 3 := rfl
  refine (X_in (by decide +kernel) (show tN b 61 < tN (mk b 61 0 0 17) 61 by rw [tN_mk, if_pos rfl]; omega) rfl).trans ((lf_185_0 ..).trans ?_)
  rw [X420 (by decide +kernel) (show tN b 61 < tN (mk b 61 0 0 17) 61 by rw [tN_mk, if_pos rfl]; omega), cV_v]
  rw [nwa_enc (t := 0) (by decide +kernel) (by decide) (fun _ => rfl)]
  have l1 : ∀ n : Nat, n < n + 1 := fun n => Nat.lt_succ_self n
  simp (config := {decide := true}) only [gfI_enc, gfL_enc, gfR_enc, pfI_enc, pfL_enc, pfR_enc, Option.bind_some, cI_v, cL_v, cF_v, cD_v, cR_v, cV_v, cI_x, cL_x, cR_x, cV_x, gz_0, gz_1, acc_enc, tI_sI, tL_sI, tR_sI, tN_sI, tZ_sI, tC_sI, tc_sI, tz_sI, tI_sL, tL_sL, tR_sL, tN_sL, tZ_sL, tC_sL, tc_sL, tz_sL, tI_sR, tL_sR, tR_sR, tN_sR, tZ_sR, tC_sR, tc_sR, tz_sR, tI_sZ, tL_sZ, tR_sZ, tN_sZ, tZ_sZ, tC_sZ, tc_sZ, tz_sZ, tI_sC, tL_sC, tR_sC, tN_sC, tZ_sC, tC_sC, tc_sC, tz_sC, tI_aC, tL_aC, tR_aC, tN_aC, tZ_aC, tC_aC, tc_aC, tz_aC, tI_rmL, tL_rmL, tR_rmL, tN_rmL, tZ_rmL, tC_rmL, tc_rmL, tz_rmL, tI_mk, tL_mk, tR_mk, tN_mk, tZ_mk, tC_mk, tc_mk, tz_mk, tI_pushL, tL_pushL, tR_pushL, tN_pushL, tZ_pushL, tC_pushL, tc_pushL, tz_pushL, tI_pushB, tL_pushB, tR_pushB, tN_pushB, tZ_pushB, tC_pushB, tc_pushB, tz_pushB, tI_cpL, tL_cpL, tR_cpL, tN_cpL, tZ_cpL, tC_cpL, tc_cpL, tz_cpL, eq_self, true_and, and_true, false_and, and_false, if_true, if_false, reduceIte, ite_true, ite_false, not_true_eq_false, not_false_eq_true, i0, i1, i2, i3, paI_enc, l1]
  rw [nwa_enc (t := 0) (by decide +kernel) (by decide) (fun _ => rfl)]
  simp (config := {decide := true}) only [gfI_enc, gfL_enc, gfR_enc, pfI_enc, pfL_enc, pfR_enc, Option.bind_some, cI_v, cL_v, cF_v, cD_v, cR_v, cV_v, cI_x, cL_x, cR_x, cV_x, gz_0, gz_1, acc_enc, tI_sI, tL_sI, tR_sI, tN_sI, tZ_sI, tC_sI, tc_sI, tz_sI, tI_sL, tL_sL, tR_sL, tN_sL, tZ_sL, tC_sL, tc_sL, tz_sL, tI_sR, tL_sR, tR_sR, tN_sR, tZ_sR, tC_sR, tc_sR, tz_sR, tI_sZ, tL_sZ, tR_sZ, tN_sZ, tZ_sZ, tC_sZ, tc_sZ, tz_sZ, tI_sC, tL_sC, tR_sC, tN_sC, tZ_sC, tC_sC, tc_sC, tz_sC, tI_aC, tL_aC, tR_aC, tN_aC, tZ_aC, tC_aC, tc_aC, tz_aC, tI_rmL, tL_rmL, tR_rmL, tN_rmL, tZ_rmL, tC_rmL, tc_rmL, tz_rmL, tI_mk, tL_mk, tR_mk, tN_mk, tZ_mk, tC_mk, tc_mk, tz_mk, tI_pushL, tL_pushL, tR_pushL, tN_pushL, tZ_pushL, tC_pushL, tc_pushL, tz_pushL, tI_pushB, tL_pushB, tR_pushB, tN_pushB, tZ_pushB, tC_pushB, tc_pushB, tz_pushB, tI_cpL, tL_cpL, tR_cpL, tN_cpL, tZ_cpL, tC_cpL, tc_cpL, tz_cpL, eq_self, true_and, and_true, false_and, and_false, if_true, if_false, reduceIte, ite_true, ite_false, not_true_eq_false, not_false_eq_true, i0, i1, i2, i3, paI_enc, l1]
  rw [nwa_enc (t := 0) (by decide +kernel) (by decide) (fun _ => rfl)]
  simp (config := {decide := true}) only [gfI_enc, gfL_enc, gfR_enc, pfI_enc, pfL_enc, pfR_enc, Option.bind_some, cI_v, cL_v, cF_v, cD_v, cR_v, cV_v, cI_x, cL_x, cR_x, cV_x, gz_0, gz_1, acc_enc, tI_sI, tL_sI, tR_sI, tN_sI, tZ_sI, tC_sI, tc_sI, tz_sI, tI_sL, tL_sL, tR_sL, tN_sL, tZ_sL, tC_sL, tc_sL, tz_sL, tI_sR, tL_sR, tR_sR, tN_sR, tZ_sR, tC_sR, tc_sR, tz_sR, tI_sZ, tL_sZ, tR_sZ, tN_sZ, tZ_sZ, tC_sZ, tc_sZ, tz_sZ, tI_sC, tL_sC, tR_sC, tN_sC, tZ_sC, tC_sC, tc_sC, tz_sC, tI_aC, tL_aC, tR_aC, tN_aC, tZ_aC, tC_aC, tc_aC, tz_aC, tI_rmL, tL_rmL, tR_rmL, tN_rmL, tZ_rmL, tC_rmL, tc_rmL, tz_rmL, tI_mk, tL_mk, tR_mk, tN_mk, tZ_mk, tC_mk, tc_mk, tz_mk, tI_pushL, tL_pushL, tR_pushL, tN_pushL, tZ_pushL, tC_pushL, tc_pushL, tz_pushL, tI_pushB, tL_pushB, tR_pushB, tN_pushB, tZ_pushB, tC_pushB, tc_pushB, tz_pushB, tI_cpL, tL_cpL, tR_cpL, tN_cpL, tZ_cpL, tC_cpL, tc_cpL, tz_cpL, eq_self, true_and, and_true, false_and, and_false, if_true, if_false, reduceIte, ite_true, ite_false, not_true_eq_false, not_false_eq_true, i0, i1, i2, i3, paI_enc, l1]
  rfl
/-- what a lookup leaves -/
def KnB (b b' : TS) (n j : Nat) : Prop := tR b' 53 0 n = some (61, j) ∧ j < tN b' 61 ∧ KsB b' ∧ (∀ n' f, n' < 1000 → hI b' n' f = hI b n' f) ∧ (∀ n' t f, n' < 1000 → (t = 62 ∨ t = 63 ∨ t = 64) → hA b' n' t f = hA b n' t f) ∧ chg [53, 61, 62, 63, 64] b b' ∧ (∀ i, tZ b' 53 i = tZ b 53 i) ∧ tN b' 53 = tN b 53 ∧ tN b' 61 = tN b 61 + (if tR b 53 0 n = none then 1 else 0) ∧ Wr b b'
set_option maxHeartbeats 4000000 in
theorem y158 {b : TS} {n : Nat} (hF : FxR b) (hK : KsB b) (hn : n < 1000) : ∃ b' j, (∀ z, Ex 158 [aR (some (94, 0)), aI (Int32.ofNat n)] (enc 2 b z) = some (.inl (some (aR (some (61, j)))), enc 2 b' z)) ∧ KnB b b' n j := by
  have g1 : ¬ Int32.ofNat n < 0 := o_lt0 (by omega)
  have g2 : (Int32.ofNat n).toNatClampNeg = n := o_ix (by omega)
  obtain ⟨K1, K2, ⟨K3, K4, K5⟩, K6, K7⟩ := hK
  rcases K1 n hn with h | ⟨j, h1, h2⟩
  · have ev : ∀ z, Ex 158 [aR (some (94, 0)), aI (Int32.ofNat n)] (enc 2 b z) = some (.inl (some (aR (some (61, tN b 61)))), enc 2 (sR (newH b) 53 0 n (some (61, tN b 61))) z) := fun z => by
      refine (X_in (by decide +kernel) (frN_94 hF) rfl).trans ((lf_158_0 ..).trans ?_)
      simp (config := {decide := true}) only [gfI_enc, gfL_enc, gfR_enc, pfI_enc, pfL_enc, pfR_enc, Option.bind_some, cI_v, cL_v, cF_v, cD_v, cR_v, cV_v, cI_x, cL_x, cR_x, cV_x, gz_0, gz_1, acc_enc, tI_sI, tL_sI, tR_sI, tN_sI, tZ_sI, tC_sI, tc_sI, tz_sI, tI_sL, tL_sL, tR_sL, tN_sL, tZ_sL, tC_sL, tc_sL, tz_sL, tI_sR, tL_sR, tR_sR, tN_sR, tZ_sR, tC_sR, tc_sR, tz_sR, tI_sZ, tL_sZ, tR_sZ, tN_sZ, tZ_sZ, tC_sZ, tc_sZ, tz_sZ, tI_sC, tL_sC, tR_sC, tN_sC, tZ_sC, tC_sC, tc_sC, tz_sC, tI_aC, tL_aC, tR_aC, tN_aC, tZ_aC, tC_aC, tc_aC, tz_aC, tI_rmL, tL_rmL, tR_rmL, tN_rmL, tZ_rmL, tC_rmL, tc_rmL, tz_rmL, tI_mk, tL_mk, tR_mk, tN_mk, tZ_mk, tC_mk, tc_mk, tz_mk, tI_pushL, tL_pushL, tR_pushL, tN_pushL, tZ_pushL, tC_pushL, tc_pushL, tz_pushL, tI_pushB, tL_pushB, tR_pushB, tN_pushB, tZ_pushB, tC_pushB, tc_pushB, tz_pushB, tI_cpL, tL_cpL, tR_cpL, tN_cpL, tZ_cpL, tC_cpL, tc_cpL, tz_cpL, eq_self, true_and, and_true, false_and, and_false, if_true, if_false, reduceIte, ite_true, ite_false, not_true_eq_false, not_false_eq_true, frN_94 hF, frN_53 hF, frR_94_2 hF, frZ_53 hF, gaR_enc, g1, g2, hn, h]
      rw [nob_enc (by decide +kernel)]
      have hnF : nF 15 = 17 := rfl
      have v1 : okV 2 (newH b) 53 (some (61, tN b 61)) := okV_s (by decide +kernel) (by rw [newH_N, if_pos (Or.inl rfl)]; omega) (by decide +kernel) (by decide +kernel)
      have k1 : 0 < tN (newH b) 94 := by rw [newH_N, if_neg (by decide)]; exact frN_94 hF
      have k2 : 0 < tN (newH b) 53 := by rw [newH_N, if_neg (by decide)]; exact frN_53 hF
      have k3 : tR (newH b) 94 0 2 = some (53, 0) := by rw [(newH_old b (frN_94 hF)).2.1]; exact frR_94_2 hF
      have k4 : tZ (newH b) 53 0 = 1000 := by rw [(newH_old b (frN_53 hF)).2.2]; exact frZ_53 hF
      rw [hnF]
      dsimp only
      rw [y185, cV_v]
      generalize newH b = mm at *
      simp (config := {decide := true}) only [gfI_enc, gfL_enc, gfR_enc, pfI_enc, pfL_enc, pfR_enc, Option.bind_some, cI_v, cL_v, cF_v, cD_v, cR_v, cV_v, cI_x, cL_x, cR_x, cV_x, gz_0, gz_1, acc_enc, tI_sI, tL_sI, tR_sI, tN_sI, tZ_sI, tC_sI, tc_sI, tz_sI, tI_sL, tL_sL, tR_sL, tN_sL, tZ_sL, tC_sL, tc_sL, tz_sL, tI_sR, tL_sR, tR_sR, tN_sR, tZ_sR, tC_sR, tc_sR, tz_sR, tI_sZ, tL_sZ, tR_sZ, tN_sZ, tZ_sZ, tC_sZ, tc_sZ, tz_sZ, tI_sC, tL_sC, tR_sC, tN_sC, tZ_sC, tC_sC, tc_sC, tz_sC, tI_aC, tL_aC, tR_aC, tN_aC, tZ_aC, tC_aC, tc_aC, tz_aC, tI_rmL, tL_rmL, tR_rmL, tN_rmL, tZ_rmL, tC_rmL, tc_rmL, tz_rmL, tI_mk, tL_mk, tR_mk, tN_mk, tZ_mk, tC_mk, tc_mk, tz_mk, tI_pushL, tL_pushL, tR_pushL, tN_pushL, tZ_pushL, tC_pushL, tc_pushL, tz_pushL, tI_pushB, tL_pushB, tR_pushB, tN_pushB, tZ_pushB, tC_pushB, tc_pushB, tz_pushB, tI_cpL, tL_cpL, tR_cpL, tN_cpL, tZ_cpL, tC_cpL, tc_cpL, tz_cpL, eq_self, true_and, and_true, false_and, and_false, if_true, if_false, reduceIte, ite_true, ite_false, not_true_eq_false, not_false_eq_true, k1, k2, k3, k4, paR_enc, gaR_enc, g1, g2, hn, v1]
    have e3 : ∀ k, tR (sR (newH b) 53 0 n (some (61, tN b 61))) 53 0 k = if k = n then some (61, tN b 61) else tR b 53 0 k := fun k => by
      rw [tR_sR, (newH_old b (frN_53 hF)).2.1]
      by_cases e : k = n
      · rw [if_pos ⟨rfl, rfl, e⟩, if_pos e]
      · rw [if_neg (fun q => e q.2.2), if_neg e]
    have e4 : ∀ s, tN (sR (newH b) 53 0 n (some (61, tN b 61))) s = if s = 61 ∨ s = 62 ∨ s = 63 ∨ s = 64 then tN b s + 1 else tN b s := fun s => by rw [tN_sR, newH_N]
    have eI : ∀ s i f, i < tN b s → tI (sR (newH b) 53 0 n (some (61, tN b 61))) s i f = tI b s i f := fun s i f h => by rw [tI_sR, (newH_old b h).1]
    have eR : ∀ s i f, i < tN b s → s ≠ 53 → tR (sR (newH b) 53 0 n (some (61, tN b 61))) s i f = tR b s i f := fun s i f h h3 => by rw [tR_sR, if_neg (fun q => h3 q.1), (newH_old b h).2.1]
    have eZ : ∀ s i, i < tN b s → tZ (sR (newH b) 53 0 n (some (61, tN b 61))) s i = tZ b s i := fun s i h => by rw [tZ_sR, (newH_old b h).2.2]
    have eI0 : ∀ f, tI (sR (newH b) 53 0 n (some (61, tN b 61))) 61 (tN b 61) f = if f = 15 then -1 else 0 := fun f => by rw [tI_sR, newH_I]
    have eA0 : ∀ t f, (t = 62 ∨ t = 63 ∨ t = 64) → tI (sR (newH b) 53 0 n (some (61, tN b 61))) t (tN b t) f = if f = 0 then -1 else 0 := fun t f h => by rw [tI_sR, newH_A _ _ _ h]
    have eR0 : ∀ k, tR (sR (newH b) 53 0 n (some (61, tN b 61))) 61 (tN b 61) k = if k = 6 then some (64, tN b 64) else if k = 5 then some (63, tN b 63) else if k = 4 then some (62, tN b 62) else none := fun k => by rw [tR_sR, if_neg (fun q => absurd q.1 (by decide)), newH_R]
    have eZ0 : ∀ t, (t = 62 ∨ t = 63 ∨ t = 64) → tZ (sR (newH b) 53 0 n (some (61, tN b 61))) t (tN b t) = 3 := fun t h => by rw [tZ_sR, newH_Z _ _ h]
    have eC : chg [53, 61, 62, 63, 64] b (sR (newH b) 53 0 n (some (61, tN b 61))) := chg_sR (by simp) (newH_chg b)
    have z53 : ∀ i, tZ (sR (newH b) 53 0 n (some (61, tN b 61))) 53 i = tZ b 53 i := fun i => by
      unfold newH
      simp (config := {decide := true}) only [tZ_sI, tZ_sR, tZ_mk, false_and, if_false]
    have hst : Wr b (sR (newH b) 53 0 n (some (61, tN b 61))) := by
      refine Wr.cR _ _ _ _ ?_
      unfold newH
      refine (Wr.cR _ _ _ _ (Wr.cI _ _ _ _ (Wr.cI _ _ _ _ (Wr.cI _ _ _ _ (Wr.cM _ _ _ (by decide +kernel) (by decide) ?_))))).cI _ _ _ _
      refine Wr.cR _ _ _ _ (Wr.cI _ _ _ _ (Wr.cI _ _ _ _ (Wr.cI _ _ _ _ (Wr.cM _ _ _ (by decide +kernel) (by decide) ?_))))
      refine Wr.cR _ _ _ _ (Wr.cI _ _ _ _ (Wr.cI _ _ _ _ (Wr.cI _ _ _ _ (Wr.cM _ _ _ (by decide +kernel) (by decide) ?_))))
      exact Wr.cM _ _ _ (by decide +kernel) (by decide) (Wr.rf _)
    generalize sR (newH b) 53 0 n (some (61, tN b 61)) = b' at *
    have N61 : tN b' 61 = tN b 61 + 1 := by rw [e4, if_pos (Or.inl rfl)]
    refine ⟨b', tN b 61, ev, by rw [e3, if_pos rfl], by omega, ⟨fun n' hn' => ?_, fun n1 n2 h1 h2 he hz => ?_, ⟨?_, ?_, ?_⟩, fun j hj => ?_, fun j hj => ?_⟩, fun n' f hn' => ?_, fun n' t f hn' ht => ?_, eC, z53, by rw [e4, if_neg (by decide)], by rw [N61, if_pos h], hst⟩
    · rw [e3]
      by_cases e : n' = n
      · rw [if_pos e]; exact Or.inr ⟨_, by omega, rfl⟩
      · rw [if_neg e]
        rcases K1 n' hn' with g | ⟨j, g1, g2⟩
        · exact Or.inl g
        · exact Or.inr ⟨j, by omega, g2⟩
    · have nn : ∀ k, k < 1000 → tR b 53 0 k ≠ some (61, tN b 61) := fun k hk e => by
        rcases K1 k hk with g | ⟨j, g1, g2⟩
        · rw [g] at e; cases e
        · rw [g2] at e
          have := (Prod.mk.inj (Option.some.inj e)).2
          omega
      rw [e3, e3] at he
      rw [e3] at hz
      by_cases e1 : n1 = n
      · by_cases e2 : n2 = n
        · omega
        · rw [if_pos e1, if_neg e2] at he
          exact absurd he.symm (nn n2 h2)
      · by_cases e2 : n2 = n
        · rw [if_neg e1, if_pos e2] at he
          exact absurd he (nn n1 h1)
        · rw [if_neg e1, if_neg e2] at he
          rw [if_neg e1] at hz
          exact K2 n1 n2 h1 h2 he hz
    · rw [e4, if_pos (by decide), N61]; omega
    · rw [e4, if_pos (by decide), N61]; omega
    · rw [e4, if_pos (by decide), N61]; omega
    · by_cases e : j = tN b 61
      · subst e
        rw [eR0, eR0, eR0, if_neg (by decide), if_neg (by decide), if_pos rfl, if_neg (by decide), if_pos rfl, if_pos rfl]
        have z2 := eZ0 62 (Or.inl rfl)
        have z3 := eZ0 63 (Or.inr (Or.inl rfl))
        have z4 := eZ0 64 (Or.inr (Or.inr rfl))
        rw [K3] at z2 ⊢
        rw [K4] at z3 ⊢
        rw [K5] at z4 ⊢
        exact ⟨rfl, rfl, rfl, z2, z3, z4⟩
      · obtain ⟨g1, g2, g3, g4, g5, g6⟩ := K6 j (by omega)
        refine ⟨?_, ?_, ?_, ?_, ?_, ?_⟩
        · rw [eR _ _ _ (by omega) (by decide)]; exact g1
        · rw [eR _ _ _ (by omega) (by decide)]; exact g2
        · rw [eR _ _ _ (by omega) (by decide)]; exact g3
        · rw [eZ _ _ (by omega)]; exact g4
        · rw [eZ _ _ (by omega)]; exact g5
        · rw [eZ _ _ (by omega)]; exact g6
    · rw [N61] at hj
      by_cases e : j = tN b 61
      · exact ⟨n, hn, by rw [e3, if_pos rfl, e]⟩
      · obtain ⟨n', n1, n2⟩ := K7 j (by omega)
        refine ⟨n', n1, ?_⟩
        rw [e3, if_neg (fun q => by rw [q, h] at n2; cases n2)]
        exact n2
    · unfold hI
      rw [e3]
      by_cases e : n' = n
      · subst e
        rw [if_pos rfl, h]
        exact eI0 f
      · rw [if_neg e]
        rcases K1 n' hn' with g | ⟨j, g1, g2⟩
        · rw [g]
        · rw [g2]
          exact eI 61 j f g1
    · unfold hA
      rw [e3]
      by_cases e : n' = n
      · subst e
        rw [if_pos rfl, h]
        have := eA0 t f ht
        have e5 : tN b t = tN b 61 := by rcases ht with r | r | r <;> subst r <;> omega
        rw [e5] at this
        exact this
      · rw [if_neg e]
        rcases K1 n' hn' with g | ⟨j, g1, g2⟩
        · rw [g]
        · rw [g2]
          exact eI t j f (by rcases ht with r | r | r <;> subst r <;> omega)
  · refine ⟨b, j, fun z => ?_, h2, h1, ⟨K1, K2, ⟨K3, K4, K5⟩, K6, K7⟩, fun _ _ _ => rfl, fun _ _ _ _ _ => rfl, chg_r _ _, fun _ => rfl, rfl, by rw [h2, if_neg (fun z => nomatch z)]; rfl, Wr.rf _⟩
    refine (X_in (by decide +kernel) (frN_94 hF) rfl).trans ((lf_158_0 ..).trans ?_)
    simp (config := {decide := true}) only [gfI_enc, gfL_enc, gfR_enc, pfI_enc, pfL_enc, pfR_enc, Option.bind_some, cI_v, cL_v, cF_v, cD_v, cR_v, cV_v, cI_x, cL_x, cR_x, cV_x, gz_0, gz_1, acc_enc, tI_sI, tL_sI, tR_sI, tN_sI, tZ_sI, tC_sI, tc_sI, tz_sI, tI_sL, tL_sL, tR_sL, tN_sL, tZ_sL, tC_sL, tc_sL, tz_sL, tI_sR, tL_sR, tR_sR, tN_sR, tZ_sR, tC_sR, tc_sR, tz_sR, tI_sZ, tL_sZ, tR_sZ, tN_sZ, tZ_sZ, tC_sZ, tc_sZ, tz_sZ, tI_sC, tL_sC, tR_sC, tN_sC, tZ_sC, tC_sC, tc_sC, tz_sC, tI_aC, tL_aC, tR_aC, tN_aC, tZ_aC, tC_aC, tc_aC, tz_aC, tI_rmL, tL_rmL, tR_rmL, tN_rmL, tZ_rmL, tC_rmL, tc_rmL, tz_rmL, tI_mk, tL_mk, tR_mk, tN_mk, tZ_mk, tC_mk, tc_mk, tz_mk, tI_pushL, tL_pushL, tR_pushL, tN_pushL, tZ_pushL, tC_pushL, tc_pushL, tz_pushL, tI_pushB, tL_pushB, tR_pushB, tN_pushB, tZ_pushB, tC_pushB, tc_pushB, tz_pushB, tI_cpL, tL_cpL, tR_cpL, tN_cpL, tZ_cpL, tC_cpL, tc_cpL, tz_cpL, eq_self, true_and, and_true, false_and, and_false, if_true, if_false, reduceIte, ite_true, ite_false, not_true_eq_false, not_false_eq_true, frN_94 hF, frN_53 hF, frR_94_2 hF, frZ_53 hF, gaR_enc, g1, g2, hn, h2, reduceCtorEq]
