/-! ===== the command of a payment ===== -/
theorem x3w {a : TS} {z : Hp} {cd : Nat} {m p : Int32} (hcd : cd < tN a 37) : Ex 3 [aR (some (37, cd)), aI m, aI p] (enc 1 a z) = some (.inl (some (aI (Int32.ofNat (whyN (tI a 37 cd 11) (tI a 37 cd 7) (tI a 37 cd 8) (tI a 37 cd 2) m p false)))), enc 1 (if whyN (tI a 37 cd 11) (tI a 37 cd 7) (tI a 37 cd 8) (tI a 37 cd 2) m p false = 3 then sI a 37 cd 7 (tI a 37 cd 7 - 1) else a) z) := by
  rw [x3 m p hcd]
  unfold whyN
  by_cases e5 : tI a 37 cd 11 = 0
  · rw [if_pos e5, if_pos e5]
    by_cases ep : p = -1
    · rw [if_pos ep, if_pos ep]
      by_cases em : 2500 < m
      · rw [if_pos em, if_pos em]; rfl
      · rw [if_neg em, if_neg em]
        by_cases e2 : tI a 37 cd 8 < 5
        · rw [if_pos e2, if_pos e2]; rfl
        · rw [if_neg e2, if_neg e2]; rfl
    · rw [if_neg ep, if_neg ep]
      by_cases e1 : 0 < tI a 37 cd 7
      · rw [if_pos e1, if_pos e1]
        by_cases e7 : p = tI a 37 cd 2
        · rw [if_pos e7, if_pos e7]; rfl
        · rw [if_neg e7, if_neg e7]; rfl
      · rw [if_neg e1, if_neg e1]; rfl
  · rw [if_neg e5, if_neg e5]; rfl
theorem why_full (x11 x7 x8 x2 m p : Int32) (full : Bool) : whyN x11 x7 x8 x2 m p full = if whyN x11 x7 x8 x2 m p false = 0 then (if full then 5 else 0) else whyN x11 x7 x8 x2 m p false := by
  unfold whyN
  by_cases e5 : x11 = 0
  · rw [if_pos e5, if_pos e5]
    by_cases ep : p = -1
    · rw [if_pos ep, if_pos ep]
      by_cases em : 2500 < m
      · rw [if_pos em, if_pos em]; rfl
      · rw [if_neg em, if_neg em]
        by_cases e2 : x8 < 5
        · rw [if_pos e2, if_pos e2]; rfl
        · rw [if_neg e2, if_neg e2]; rfl
    · rw [if_neg ep, if_neg ep]
      by_cases e1 : 0 < x7
      · rw [if_pos e1, if_pos e1]
        by_cases e7 : p = x2
        · rw [if_pos e7, if_pos e7]; rfl
        · rw [if_neg e7, if_neg e7]; rfl
      · rw [if_neg e1, if_neg e1]; rfl
  · rw [if_neg e5, if_neg e5]; rfl
theorem why_le (x11 x7 x8 x2 m p : Int32) : whyN x11 x7 x8 x2 m p false ≤ 4 := by
  unfold whyN
  (repeat' split) <;> first | omega | (rename_i h; exact absurd h (by decide))
theorem why_3 {x11 x7 x8 x2 m p : Int32} (h : whyN x11 x7 x8 x2 m p false = 3) : 0 < x7 := by
  unfold whyN at h
  by_cases e5 : x11 = 0
  · rw [if_pos e5] at h
    by_cases ep : p = -1
    · rw [if_pos ep] at h
      by_cases em : 2500 < m
      · rw [if_pos em] at h; omega
      · rw [if_neg em] at h
        by_cases e2 : x8 < 5
        · rw [if_pos e2] at h; exact absurd h (by decide)
        · rw [if_neg e2] at h; omega
    · rw [if_neg ep] at h
      by_cases e1 : 0 < x7
      · exact e1
      · rw [if_neg e1] at h; omega
  · rw [if_neg e5] at h; omega
theorem why_0 {x11 x7 x8 x2 m p : Int32} (h : whyN x11 x7 x8 x2 m p false = 0) (hp : p = -1) : x8 ≠ 5 := by
  intro e
  unfold whyN at h
  by_cases e5 : x11 = 0
  · rw [if_pos e5, if_pos hp] at h
    by_cases em : 2500 < m
    · rw [if_pos em] at h; omega
    · rw [if_neg em, if_neg (by rw [e]; decide)] at h; omega
  · rw [if_neg e5] at h; omega
theorem core_try {a b : TS} {C cd : Nat} (h : Core a b C) (hcd : cd < tZ a 28 0) (h0 : 0 < tI a 37 cd 7) : Core (sI a 37 cd 7 (tI a 37 cd 7 - 1)) (sI b 86 0 (10 * cd + 1) (tI b 86 0 (10 * cd + 1) + -1)) C := by
  have hR := h.1.1
  obtain ⟨-, -, d7, -, -, -, -, ⟨-, d8, -⟩, -⟩ := (r_D hR).1 cd hcd
  have ev : tI b 86 0 (10 * cd + 1) + -1 = tI a 37 cd 7 - 1 := by rw [d7, Int32.sub_eq_add_neg]
  rw [ev]
  refine Core_k h (cd1 (f := 7) (g := 1) hR hcd (by decide) ⟨fun q => absurd q (by decide), fun _ => ?_, fun q => absurd q (by decide)⟩).1 (chF_I (D := []) (F := [(37, 7)]) (by simp) (chF_r _ _ _)) (chF_I (D := [86]) (F := []) (by simp) (chF_r _ _ _)) (by decide) (by simp) (by decide) (groQ_c (chF_I (D := [86]) (F := []) (by simp) (chF_r _ _ _)) (by decide +kernel))
  rw [d7] at h0 ⊢
  rcases d8 with q | q | q | q
  · rw [q] at h0; exact absurd h0 (by decide)
  · rw [q]; exact Or.inl rfl
  · rw [q]; exact Or.inr (Or.inl rfl)
  · rw [q]; exact Or.inr (Or.inr (Or.inl rfl))
theorem y242_head {b : TS} {z : Hp} {n s : Nat} {p0 p1 p2 p3 s1 s2 : Int32} (hF : FxR b) (h6 : tI b 93 0 6 = Int32.ofNat n) (h7 : tI b 93 0 7 = Int32.ofNat s) (h1 : (inR p0 0 (Int32.ofNat n - 1) ∧ inR p1 0 (Int32.ofNat s - 1)) → s1 = 0) (h1' : ¬ (inR p0 0 (Int32.ofNat n - 1) ∧ inR p1 0 (Int32.ofNat s - 1)) → s1 = 1)
    (h2 : (inR p2 1 100000 ∧ inR p3 (-1) 9999) → s2 = 0) (h2' : ¬ (inR p2 1 100000 ∧ inR p3 (-1) 9999) → s2 = 1) :
    Ex 242 [aR (some (93, 0)), aI p0, aI p1, aI p2, aI p3] (enc 2 b z) = Ru 242 61 [(0, aR (some (93, 0))), (1, aI p0), (2, aI p1), (3, aI p2), (4, aI p3)] [aI s2, aI s1, aR (some (93, 0))] (enc 2 b z) := by
  have n10 : ¬ (1 : Int32) = 0 := by decide
  refine (X_in (by decide +kernel) (frN_93 hF) rfl).trans ((lf_242_0 ..).trans ?_)
  by_cases e0 : inR p0 0 (Int32.ofNat n - 1)
  · have y0 := y224_1 e0
    by_cases e1 : inR p1 0 (Int32.ofNat s - 1)
    · have y1 := y224_1 e1
      rw [h1 ⟨e0, e1⟩]
      by_cases e2 : inR p2 1 100000
      · have y2 := y224_1 e2
        by_cases e3 : inR p3 (-1) 9999
        · have y3 := y224_1 e3
          rw [h2 ⟨e2, e3⟩]
          simp (config := {decide := true}) only [gfI_enc, gfL_enc, gfR_enc, pfI_enc, pfL_enc, pfR_enc, Option.bind_some, cI_v, cL_v, cF_v, cD_v, cR_v, cV_v, cI_x, cL_x, cR_x, cV_x, gz_0, gz_1, acc_enc, tI_sI, tL_sI, tR_sI, tN_sI, tZ_sI, tC_sI, tc_sI, tz_sI, tI_sL, tL_sL, tR_sL, tN_sL, tZ_sL, tC_sL, tc_sL, tz_sL, tI_sR, tL_sR, tR_sR, tN_sR, tZ_sR, tC_sR, tc_sR, tz_sR, tI_sZ, tL_sZ, tR_sZ, tN_sZ, tZ_sZ, tC_sZ, tc_sZ, tz_sZ, tI_sC, tL_sC, tR_sC, tN_sC, tZ_sC, tC_sC, tc_sC, tz_sC, tI_aC, tL_aC, tR_aC, tN_aC, tZ_aC, tC_aC, tc_aC, tz_aC, tI_rmL, tL_rmL, tR_rmL, tN_rmL, tZ_rmL, tC_rmL, tc_rmL, tz_rmL, tI_mk, tL_mk, tR_mk, tN_mk, tZ_mk, tC_mk, tc_mk, tz_mk, tI_pushL, tL_pushL, tR_pushL, tN_pushL, tZ_pushL, tC_pushL, tc_pushL, tz_pushL, tI_pushB, tL_pushB, tR_pushB, tN_pushB, tZ_pushB, tC_pushB, tc_pushB, tz_pushB, tI_cpL, tL_cpL, tR_cpL, tN_cpL, tZ_cpL, tC_cpL, tc_cpL, tz_cpL, eq_self, true_and, and_true, false_and, and_false, if_true, if_false, reduceIte, ite_true, ite_false, not_true_eq_false, not_false_eq_true, frN_93 hF, h6, h7, y0, y1, y2, y3, n10]
        · have y3 := y224_0 e3
          rw [h2' (fun q => e3 q.2)]
          simp (config := {decide := true}) only [gfI_enc, gfL_enc, gfR_enc, pfI_enc, pfL_enc, pfR_enc, Option.bind_some, cI_v, cL_v, cF_v, cD_v, cR_v, cV_v, cI_x, cL_x, cR_x, cV_x, gz_0, gz_1, acc_enc, tI_sI, tL_sI, tR_sI, tN_sI, tZ_sI, tC_sI, tc_sI, tz_sI, tI_sL, tL_sL, tR_sL, tN_sL, tZ_sL, tC_sL, tc_sL, tz_sL, tI_sR, tL_sR, tR_sR, tN_sR, tZ_sR, tC_sR, tc_sR, tz_sR, tI_sZ, tL_sZ, tR_sZ, tN_sZ, tZ_sZ, tC_sZ, tc_sZ, tz_sZ, tI_sC, tL_sC, tR_sC, tN_sC, tZ_sC, tC_sC, tc_sC, tz_sC, tI_aC, tL_aC, tR_aC, tN_aC, tZ_aC, tC_aC, tc_aC, tz_aC, tI_rmL, tL_rmL, tR_rmL, tN_rmL, tZ_rmL, tC_rmL, tc_rmL, tz_rmL, tI_mk, tL_mk, tR_mk, tN_mk, tZ_mk, tC_mk, tc_mk, tz_mk, tI_pushL, tL_pushL, tR_pushL, tN_pushL, tZ_pushL, tC_pushL, tc_pushL, tz_pushL, tI_pushB, tL_pushB, tR_pushB, tN_pushB, tZ_pushB, tC_pushB, tc_pushB, tz_pushB, tI_cpL, tL_cpL, tR_cpL, tN_cpL, tZ_cpL, tC_cpL, tc_cpL, tz_cpL, eq_self, true_and, and_true, false_and, and_false, if_true, if_false, reduceIte, ite_true, ite_false, not_true_eq_false, not_false_eq_true, frN_93 hF, h6, h7, y0, y1, y2, y3, n10]
      · have y2 := y224_0 e2
        rw [h2' (fun q => e2 q.1)]
        simp (config := {decide := true}) only [gfI_enc, gfL_enc, gfR_enc, pfI_enc, pfL_enc, pfR_enc, Option.bind_some, cI_v, cL_v, cF_v, cD_v, cR_v, cV_v, cI_x, cL_x, cR_x, cV_x, gz_0, gz_1, acc_enc, tI_sI, tL_sI, tR_sI, tN_sI, tZ_sI, tC_sI, tc_sI, tz_sI, tI_sL, tL_sL, tR_sL, tN_sL, tZ_sL, tC_sL, tc_sL, tz_sL, tI_sR, tL_sR, tR_sR, tN_sR, tZ_sR, tC_sR, tc_sR, tz_sR, tI_sZ, tL_sZ, tR_sZ, tN_sZ, tZ_sZ, tC_sZ, tc_sZ, tz_sZ, tI_sC, tL_sC, tR_sC, tN_sC, tZ_sC, tC_sC, tc_sC, tz_sC, tI_aC, tL_aC, tR_aC, tN_aC, tZ_aC, tC_aC, tc_aC, tz_aC, tI_rmL, tL_rmL, tR_rmL, tN_rmL, tZ_rmL, tC_rmL, tc_rmL, tz_rmL, tI_mk, tL_mk, tR_mk, tN_mk, tZ_mk, tC_mk, tc_mk, tz_mk, tI_pushL, tL_pushL, tR_pushL, tN_pushL, tZ_pushL, tC_pushL, tc_pushL, tz_pushL, tI_pushB, tL_pushB, tR_pushB, tN_pushB, tZ_pushB, tC_pushB, tc_pushB, tz_pushB, tI_cpL, tL_cpL, tR_cpL, tN_cpL, tZ_cpL, tC_cpL, tc_cpL, tz_cpL, eq_self, true_and, and_true, false_and, and_false, if_true, if_false, reduceIte, ite_true, ite_false, not_true_eq_false, not_false_eq_true, frN_93 hF, h6, h7, y0, y1, y2, n10]
    · have y1 := y224_0 e1
      rw [h1' (fun q => e1 q.2)]
      by_cases e2 : inR p2 1 100000
      · have y2 := y224_1 e2
        by_cases e3 : inR p3 (-1) 9999
        · have y3 := y224_1 e3
          rw [h2 ⟨e2, e3⟩]
          simp (config := {decide := true}) only [gfI_enc, gfL_enc, gfR_enc, pfI_enc, pfL_enc, pfR_enc, Option.bind_some, cI_v, cL_v, cF_v, cD_v, cR_v, cV_v, cI_x, cL_x, cR_x, cV_x, gz_0, gz_1, acc_enc, tI_sI, tL_sI, tR_sI, tN_sI, tZ_sI, tC_sI, tc_sI, tz_sI, tI_sL, tL_sL, tR_sL, tN_sL, tZ_sL, tC_sL, tc_sL, tz_sL, tI_sR, tL_sR, tR_sR, tN_sR, tZ_sR, tC_sR, tc_sR, tz_sR, tI_sZ, tL_sZ, tR_sZ, tN_sZ, tZ_sZ, tC_sZ, tc_sZ, tz_sZ, tI_sC, tL_sC, tR_sC, tN_sC, tZ_sC, tC_sC, tc_sC, tz_sC, tI_aC, tL_aC, tR_aC, tN_aC, tZ_aC, tC_aC, tc_aC, tz_aC, tI_rmL, tL_rmL, tR_rmL, tN_rmL, tZ_rmL, tC_rmL, tc_rmL, tz_rmL, tI_mk, tL_mk, tR_mk, tN_mk, tZ_mk, tC_mk, tc_mk, tz_mk, tI_pushL, tL_pushL, tR_pushL, tN_pushL, tZ_pushL, tC_pushL, tc_pushL, tz_pushL, tI_pushB, tL_pushB, tR_pushB, tN_pushB, tZ_pushB, tC_pushB, tc_pushB, tz_pushB, tI_cpL, tL_cpL, tR_cpL, tN_cpL, tZ_cpL, tC_cpL, tc_cpL, tz_cpL, eq_self, true_and, and_true, false_and, and_false, if_true, if_false, reduceIte, ite_true, ite_false, not_true_eq_false, not_false_eq_true, frN_93 hF, h6, h7, y0, y1, y2, y3, n10]
        · have y3 := y224_0 e3
          rw [h2' (fun q => e3 q.2)]
          simp (config := {decide := true}) only [gfI_enc, gfL_enc, gfR_enc, pfI_enc, pfL_enc, pfR_enc, Option.bind_some, cI_v, cL_v, cF_v, cD_v, cR_v, cV_v, cI_x, cL_x, cR_x, cV_x, gz_0, gz_1, acc_enc, tI_sI, tL_sI, tR_sI, tN_sI, tZ_sI, tC_sI, tc_sI, tz_sI, tI_sL, tL_sL, tR_sL, tN_sL, tZ_sL, tC_sL, tc_sL, tz_sL, tI_sR, tL_sR, tR_sR, tN_sR, tZ_sR, tC_sR, tc_sR, tz_sR, tI_sZ, tL_sZ, tR_sZ, tN_sZ, tZ_sZ, tC_sZ, tc_sZ, tz_sZ, tI_sC, tL_sC, tR_sC, tN_sC, tZ_sC, tC_sC, tc_sC, tz_sC, tI_aC, tL_aC, tR_aC, tN_aC, tZ_aC, tC_aC, tc_aC, tz_aC, tI_rmL, tL_rmL, tR_rmL, tN_rmL, tZ_rmL, tC_rmL, tc_rmL, tz_rmL, tI_mk, tL_mk, tR_mk, tN_mk, tZ_mk, tC_mk, tc_mk, tz_mk, tI_pushL, tL_pushL, tR_pushL, tN_pushL, tZ_pushL, tC_pushL, tc_pushL, tz_pushL, tI_pushB, tL_pushB, tR_pushB, tN_pushB, tZ_pushB, tC_pushB, tc_pushB, tz_pushB, tI_cpL, tL_cpL, tR_cpL, tN_cpL, tZ_cpL, tC_cpL, tc_cpL, tz_cpL, eq_self, true_and, and_true, false_and, and_false, if_true, if_false, reduceIte, ite_true, ite_false, not_true_eq_false, not_false_eq_true, frN_93 hF, h6, h7, y0, y1, y2, y3, n10]
      · have y2 := y224_0 e2
        rw [h2' (fun q => e2 q.1)]
        simp (config := {decide := true}) only [gfI_enc, gfL_enc, gfR_enc, pfI_enc, pfL_enc, pfR_enc, Option.bind_some, cI_v, cL_v, cF_v, cD_v, cR_v, cV_v, cI_x, cL_x, cR_x, cV_x, gz_0, gz_1, acc_enc, tI_sI, tL_sI, tR_sI, tN_sI, tZ_sI, tC_sI, tc_sI, tz_sI, tI_sL, tL_sL, tR_sL, tN_sL, tZ_sL, tC_sL, tc_sL, tz_sL, tI_sR, tL_sR, tR_sR, tN_sR, tZ_sR, tC_sR, tc_sR, tz_sR, tI_sZ, tL_sZ, tR_sZ, tN_sZ, tZ_sZ, tC_sZ, tc_sZ, tz_sZ, tI_sC, tL_sC, tR_sC, tN_sC, tZ_sC, tC_sC, tc_sC, tz_sC, tI_aC, tL_aC, tR_aC, tN_aC, tZ_aC, tC_aC, tc_aC, tz_aC, tI_rmL, tL_rmL, tR_rmL, tN_rmL, tZ_rmL, tC_rmL, tc_rmL, tz_rmL, tI_mk, tL_mk, tR_mk, tN_mk, tZ_mk, tC_mk, tc_mk, tz_mk, tI_pushL, tL_pushL, tR_pushL, tN_pushL, tZ_pushL, tC_pushL, tc_pushL, tz_pushL, tI_pushB, tL_pushB, tR_pushB, tN_pushB, tZ_pushB, tC_pushB, tc_pushB, tz_pushB, tI_cpL, tL_cpL, tR_cpL, tN_cpL, tZ_cpL, tC_cpL, tc_cpL, tz_cpL, eq_self, true_and, and_true, false_and, and_false, if_true, if_false, reduceIte, ite_true, ite_false, not_true_eq_false, not_false_eq_true, frN_93 hF, h6, h7, y0, y1, y2, n10]
  · have y0 := y224_0 e0
    rw [h1' (fun q => e0 q.1)]
    by_cases e2 : inR p2 1 100000
    · have y2 := y224_1 e2
      by_cases e3 : inR p3 (-1) 9999
      · have y3 := y224_1 e3
        rw [h2 ⟨e2, e3⟩]
        simp (config := {decide := true}) only [gfI_enc, gfL_enc, gfR_enc, pfI_enc, pfL_enc, pfR_enc, Option.bind_some, cI_v, cL_v, cF_v, cD_v, cR_v, cV_v, cI_x, cL_x, cR_x, cV_x, gz_0, gz_1, acc_enc, tI_sI, tL_sI, tR_sI, tN_sI, tZ_sI, tC_sI, tc_sI, tz_sI, tI_sL, tL_sL, tR_sL, tN_sL, tZ_sL, tC_sL, tc_sL, tz_sL, tI_sR, tL_sR, tR_sR, tN_sR, tZ_sR, tC_sR, tc_sR, tz_sR, tI_sZ, tL_sZ, tR_sZ, tN_sZ, tZ_sZ, tC_sZ, tc_sZ, tz_sZ, tI_sC, tL_sC, tR_sC, tN_sC, tZ_sC, tC_sC, tc_sC, tz_sC, tI_aC, tL_aC, tR_aC, tN_aC, tZ_aC, tC_aC, tc_aC, tz_aC, tI_rmL, tL_rmL, tR_rmL, tN_rmL, tZ_rmL, tC_rmL, tc_rmL, tz_rmL, tI_mk, tL_mk, tR_mk, tN_mk, tZ_mk, tC_mk, tc_mk, tz_mk, tI_pushL, tL_pushL, tR_pushL, tN_pushL, tZ_pushL, tC_pushL, tc_pushL, tz_pushL, tI_pushB, tL_pushB, tR_pushB, tN_pushB, tZ_pushB, tC_pushB, tc_pushB, tz_pushB, tI_cpL, tL_cpL, tR_cpL, tN_cpL, tZ_cpL, tC_cpL, tc_cpL, tz_cpL, eq_self, true_and, and_true, false_and, and_false, if_true, if_false, reduceIte, ite_true, ite_false, not_true_eq_false, not_false_eq_true, frN_93 hF, h6, h7, y0, y2, y3, n10]
      · have y3 := y224_0 e3
        rw [h2' (fun q => e3 q.2)]
        simp (config := {decide := true}) only [gfI_enc, gfL_enc, gfR_enc, pfI_enc, pfL_enc, pfR_enc, Option.bind_some, cI_v, cL_v, cF_v, cD_v, cR_v, cV_v, cI_x, cL_x, cR_x, cV_x, gz_0, gz_1, acc_enc, tI_sI, tL_sI, tR_sI, tN_sI, tZ_sI, tC_sI, tc_sI, tz_sI, tI_sL, tL_sL, tR_sL, tN_sL, tZ_sL, tC_sL, tc_sL, tz_sL, tI_sR, tL_sR, tR_sR, tN_sR, tZ_sR, tC_sR, tc_sR, tz_sR, tI_sZ, tL_sZ, tR_sZ, tN_sZ, tZ_sZ, tC_sZ, tc_sZ, tz_sZ, tI_sC, tL_sC, tR_sC, tN_sC, tZ_sC, tC_sC, tc_sC, tz_sC, tI_aC, tL_aC, tR_aC, tN_aC, tZ_aC, tC_aC, tc_aC, tz_aC, tI_rmL, tL_rmL, tR_rmL, tN_rmL, tZ_rmL, tC_rmL, tc_rmL, tz_rmL, tI_mk, tL_mk, tR_mk, tN_mk, tZ_mk, tC_mk, tc_mk, tz_mk, tI_pushL, tL_pushL, tR_pushL, tN_pushL, tZ_pushL, tC_pushL, tc_pushL, tz_pushL, tI_pushB, tL_pushB, tR_pushB, tN_pushB, tZ_pushB, tC_pushB, tc_pushB, tz_pushB, tI_cpL, tL_cpL, tR_cpL, tN_cpL, tZ_cpL, tC_cpL, tc_cpL, tz_cpL, eq_self, true_and, and_true, false_and, and_false, if_true, if_false, reduceIte, ite_true, ite_false, not_true_eq_false, not_false_eq_true, frN_93 hF, h6, h7, y0, y2, y3, n10]
    · have y2 := y224_0 e2
      rw [h2' (fun q => e2 q.1)]
      simp (config := {decide := true}) only [gfI_enc, gfL_enc, gfR_enc, pfI_enc, pfL_enc, pfR_enc, Option.bind_some, cI_v, cL_v, cF_v, cD_v, cR_v, cV_v, cI_x, cL_x, cR_x, cV_x, gz_0, gz_1, acc_enc, tI_sI, tL_sI, tR_sI, tN_sI, tZ_sI, tC_sI, tc_sI, tz_sI, tI_sL, tL_sL, tR_sL, tN_sL, tZ_sL, tC_sL, tc_sL, tz_sL, tI_sR, tL_sR, tR_sR, tN_sR, tZ_sR, tC_sR, tc_sR, tz_sR, tI_sZ, tL_sZ, tR_sZ, tN_sZ, tZ_sZ, tC_sZ, tc_sZ, tz_sZ, tI_sC, tL_sC, tR_sC, tN_sC, tZ_sC, tC_sC, tc_sC, tz_sC, tI_aC, tL_aC, tR_aC, tN_aC, tZ_aC, tC_aC, tc_aC, tz_aC, tI_rmL, tL_rmL, tR_rmL, tN_rmL, tZ_rmL, tC_rmL, tc_rmL, tz_rmL, tI_mk, tL_mk, tR_mk, tN_mk, tZ_mk, tC_mk, tc_mk, tz_mk, tI_pushL, tL_pushL, tR_pushL, tN_pushL, tZ_pushL, tC_pushL, tc_pushL, tz_pushL, tI_pushB, tL_pushB, tR_pushB, tN_pushB, tZ_pushB, tC_pushB, tc_pushB, tz_pushB, tI_cpL, tL_cpL, tR_cpL, tN_cpL, tZ_cpL, tC_cpL, tc_cpL, tz_cpL, eq_self, true_and, and_true, false_and, and_false, if_true, if_false, reduceIte, ite_true, ite_false, not_true_eq_false, not_false_eq_true, frN_93 hF, h6, h7, y0, y2, n10]
theorem y242_bad {b : TS} {z : Hp} {p0 p1 p2 p3 s1 s2 : Int32} {r : Nat} (hF : FxR b) (hr : (s1 = 1 ∧ r = 1) ∨ (s1 = 0 ∧ s2 = 1 ∧ r = 2)) :
    Ru 242 61 [(0, aR (some (93, 0))), (1, aI p0), (2, aI p1), (3, aI p2), (4, aI p3)] [aI s2, aI s1, aR (some (93, 0))] (enc 2 b z) = some (.inl (some (aI 0)), enc 2 (sI b 93 0 10 (Int32.ofNat r)) z) := by
  have n10 : ¬ (1 : Int32) = 0 := by decide
  rw [lf_242_61]
  rcases hr with ⟨e1, e2⟩ | ⟨e1, e2, e3⟩
  · subst e1 e2
    rw [y225_1 _ _ hF, cI_v, if_neg n10]
    rfl
  · subst e1 e2 e3
    rw [y225_2 _ hF, cI_v, if_neg n10]
    rfl
