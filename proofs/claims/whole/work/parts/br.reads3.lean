/-! ===== the reference reads a text ===== -/
def EnL (b : TS) : Nat → List (Nat × List Int32) → Prop
  | _, [] => True
  | K, e :: l => EnC b K e ∧ e.1 < 16 ∧ e.2.length = (if e.1 = 3 then 4 else nN e.1) ∧ EnL b (K + 1) l
theorem y222_loop {g : Nat → Nat} {L : Nat} : ∀ k p b K, SnB b g L → p ≤ L → 601 ≤ p + k → 4 * K ≤ p → TokR b g L p → tI b 92 0 10 = Int32.ofNat K → tI b 92 0 8 = -1 →
    ∃ b', (∀ z, Zk z → Ru 222 21 [(0, aR (some (92, 0))), (1, aI 1)] [] (enc 2 b z) = some (.inl (some (aI (ffV (rdA g L k p)))), enc 2 b' z)) ∧ chF [85] FsB b b' ∧ Wr b b' ∧
      ∀ l, rdA g L k p = .inr l → tI b' 92 0 10 = Int32.ofNat (K + l.length) ∧ EnL b' K l ∧ ∀ m, m < 5 * K → tI b' 85 0 m = tI b 85 0 m := by
  intro k
  induction k with
  | zero =>
    intro p b K h hp hk hK hT h10 h8
    have := h.2.1
    omega
  | succ k ih =>
    intro p b K h hp hk hK hT h10 h8
    have hF := h.1
    have L6 := h.2.1
    have n10 : ¬ (1 : Int32) = 0 := by decide
    by_cases e : tk g L p < L
    · have n5 : ¬ tI b 92 0 5 = 5 := fun q => (TokR_5 hT).mp q e
      obtain ⟨i1, i2⟩ := y221 h hp hT h10 (by omega)
      cases hr : rdC g L p with
      | inl f =>
        obtain ⟨b', e1, e2, e3, e4⟩ := i1 _ hr
        have hF' := (SnB_c h e2 e3).1
        have ev : rdA g L (k + 1) p = .inl f := by rw [rdA_s, if_pos e, hr]
        refine ⟨b', fun z hz => ?_, e2, e3, fun l hl => ?_⟩
        · have ev2 : ffV (rdA g L (k + 1) p) = Int32.ofNat f := by rw [ev]; rfl
          rw [lf_222_21, ev2]
          simp (config := {decide := true}) only [gfI_enc, gfL_enc, gfR_enc, pfI_enc, pfL_enc, pfR_enc, Option.bind_some, cI_v, cL_v, cF_v, cD_v, cR_v, cV_v, cI_x, cL_x, cR_x, cV_x, gz_0, gz_1, acc_enc, tI_sI, tL_sI, tR_sI, tN_sI, tZ_sI, tC_sI, tc_sI, tz_sI, tI_sL, tL_sL, tR_sL, tN_sL, tZ_sL, tC_sL, tc_sL, tz_sL, tI_sR, tL_sR, tR_sR, tN_sR, tZ_sR, tC_sR, tc_sR, tz_sR, tI_sZ, tL_sZ, tR_sZ, tN_sZ, tZ_sZ, tC_sZ, tc_sZ, tz_sZ, tI_sC, tL_sC, tR_sC, tN_sC, tZ_sC, tC_sC, tc_sC, tz_sC, tI_aC, tL_aC, tR_aC, tN_aC, tZ_aC, tC_aC, tc_aC, tz_aC, tI_rmL, tL_rmL, tR_rmL, tN_rmL, tZ_rmL, tC_rmL, tc_rmL, tz_rmL, tI_mk, tL_mk, tR_mk, tN_mk, tZ_mk, tC_mk, tc_mk, tz_mk, tI_pushL, tL_pushL, tR_pushL, tN_pushL, tZ_pushL, tC_pushL, tc_pushL, tz_pushL, tI_pushB, tL_pushB, tR_pushB, tN_pushB, tZ_pushB, tC_pushB, tc_pushB, tz_pushB, tI_cpL, tL_cpL, tR_cpL, tN_cpL, tZ_cpL, tC_cpL, tc_cpL, tz_cpL, eq_self, true_and, and_true, false_and, and_false, if_true, if_false, reduceIte, ite_true, ite_false, not_true_eq_false, not_false_eq_true, n10, frN_92 hF, n5, e1 z hz]
          rw [lf_222_21, if_pos rfl]
          simp (config := {decide := true}) only [gfI_enc, gfL_enc, gfR_enc, pfI_enc, pfL_enc, pfR_enc, Option.bind_some, cI_v, cL_v, cF_v, cD_v, cR_v, cV_v, cI_x, cL_x, cR_x, cV_x, gz_0, gz_1, acc_enc, tI_sI, tL_sI, tR_sI, tN_sI, tZ_sI, tC_sI, tc_sI, tz_sI, tI_sL, tL_sL, tR_sL, tN_sL, tZ_sL, tC_sL, tc_sL, tz_sL, tI_sR, tL_sR, tR_sR, tN_sR, tZ_sR, tC_sR, tc_sR, tz_sR, tI_sZ, tL_sZ, tR_sZ, tN_sZ, tZ_sZ, tC_sZ, tc_sZ, tz_sZ, tI_sC, tL_sC, tR_sC, tN_sC, tZ_sC, tC_sC, tc_sC, tz_sC, tI_aC, tL_aC, tR_aC, tN_aC, tZ_aC, tC_aC, tc_aC, tz_aC, tI_rmL, tL_rmL, tR_rmL, tN_rmL, tZ_rmL, tC_rmL, tc_rmL, tz_rmL, tI_mk, tL_mk, tR_mk, tN_mk, tZ_mk, tC_mk, tc_mk, tz_mk, tI_pushL, tL_pushL, tR_pushL, tN_pushL, tZ_pushL, tC_pushL, tc_pushL, tz_pushL, tI_pushB, tL_pushB, tR_pushB, tN_pushB, tZ_pushB, tC_pushB, tc_pushB, tz_pushB, tI_cpL, tL_cpL, tR_cpL, tN_cpL, tZ_cpL, tC_cpL, tc_cpL, tz_cpL, eq_self, true_and, and_true, false_and, and_false, if_true, if_false, reduceIte, ite_true, ite_false, not_true_eq_false, not_false_eq_true, frN_92 hF', e4]
        · rw [ev] at hl
          cases hl
      | inr w =>
        obtain ⟨c, vs, r⟩ := w
        obtain ⟨b', e1, e2, e3, e4, e5, e6, e7, e8⟩ := i2 _ _ _ hr
        obtain ⟨c1, c2, c3, -, c5⟩ := rdC_b hp hr
        have v4 := vs_4 hp hr
        obtain ⟨b2, d1, d2, d3, d4⟩ := ih r b' (K + 1) (SnB_c h e2 e3) c3 (by omega) (by omega) e6 e5 (e4.trans h8)
        have ev : ffV (rdA g L (k + 1) p) = ffV (rdA g L k r) := by
          rw [rdA_s, if_pos e, hr]
          dsimp only
          cases rdA g L k r <;> rfl
        refine ⟨b2, fun z hz => ?_, chF_t e2 d2, e3.t d3, fun l hl => ?_⟩
        · rw [lf_222_21, ev]
          simp (config := {decide := true}) only [gfI_enc, gfL_enc, gfR_enc, pfI_enc, pfL_enc, pfR_enc, Option.bind_some, cI_v, cL_v, cF_v, cD_v, cR_v, cV_v, cI_x, cL_x, cR_x, cV_x, gz_0, gz_1, acc_enc, tI_sI, tL_sI, tR_sI, tN_sI, tZ_sI, tC_sI, tc_sI, tz_sI, tI_sL, tL_sL, tR_sL, tN_sL, tZ_sL, tC_sL, tc_sL, tz_sL, tI_sR, tL_sR, tR_sR, tN_sR, tZ_sR, tC_sR, tc_sR, tz_sR, tI_sZ, tL_sZ, tR_sZ, tN_sZ, tZ_sZ, tC_sZ, tc_sZ, tz_sZ, tI_sC, tL_sC, tR_sC, tN_sC, tZ_sC, tC_sC, tc_sC, tz_sC, tI_aC, tL_aC, tR_aC, tN_aC, tZ_aC, tC_aC, tc_aC, tz_aC, tI_rmL, tL_rmL, tR_rmL, tN_rmL, tZ_rmL, tC_rmL, tc_rmL, tz_rmL, tI_mk, tL_mk, tR_mk, tN_mk, tZ_mk, tC_mk, tc_mk, tz_mk, tI_pushL, tL_pushL, tR_pushL, tN_pushL, tZ_pushL, tC_pushL, tc_pushL, tz_pushL, tI_pushB, tL_pushB, tR_pushB, tN_pushB, tZ_pushB, tC_pushB, tc_pushB, tz_pushB, tI_cpL, tL_cpL, tR_cpL, tN_cpL, tZ_cpL, tC_cpL, tc_cpL, tz_cpL, eq_self, true_and, and_true, false_and, and_false, if_true, if_false, reduceIte, ite_true, ite_false, not_true_eq_false, not_false_eq_true, n10, frN_92 hF, n5, e1 z hz]
          exact d1 z hz
        · rw [rdA_s, if_pos e, hr] at hl
          dsimp only at hl
          cases hl2 : rdA g L k r with
          | inl f => rw [hl2] at hl; cases hl
          | inr l' =>
            rw [hl2] at hl
            cases hl
            obtain ⟨g1, g2, g3⟩ := d4 _ hl2
            refine ⟨?_, ⟨EnC_s e7 v4 g3, c1, c5, g2⟩, fun m hm => (g3 m (by omega)).trans (e8 m hm)⟩
            rw [g1, List.length_cons]
            congr 1
            omega
    · have y5 : tI b 92 0 5 = 5 := (TokR_5 hT).mpr e
      have ev : rdA g L (k + 1) p = .inr [] := by rw [rdA_s, if_neg e]
      refine ⟨b, fun z hz => ?_, chF_r _ _ _, Wr.rf _, fun l hl => ?_⟩
      · have ev2 : ffV (rdA g L (k + 1) p) = -1 := by rw [ev]; rfl
        rw [lf_222_21, ev2]
        simp (config := {decide := true}) only [gfI_enc, gfL_enc, gfR_enc, pfI_enc, pfL_enc, pfR_enc, Option.bind_some, cI_v, cL_v, cF_v, cD_v, cR_v, cV_v, cI_x, cL_x, cR_x, cV_x, gz_0, gz_1, acc_enc, tI_sI, tL_sI, tR_sI, tN_sI, tZ_sI, tC_sI, tc_sI, tz_sI, tI_sL, tL_sL, tR_sL, tN_sL, tZ_sL, tC_sL, tc_sL, tz_sL, tI_sR, tL_sR, tR_sR, tN_sR, tZ_sR, tC_sR, tc_sR, tz_sR, tI_sZ, tL_sZ, tR_sZ, tN_sZ, tZ_sZ, tC_sZ, tc_sZ, tz_sZ, tI_sC, tL_sC, tR_sC, tN_sC, tZ_sC, tC_sC, tc_sC, tz_sC, tI_aC, tL_aC, tR_aC, tN_aC, tZ_aC, tC_aC, tc_aC, tz_aC, tI_rmL, tL_rmL, tR_rmL, tN_rmL, tZ_rmL, tC_rmL, tc_rmL, tz_rmL, tI_mk, tL_mk, tR_mk, tN_mk, tZ_mk, tC_mk, tc_mk, tz_mk, tI_pushL, tL_pushL, tR_pushL, tN_pushL, tZ_pushL, tC_pushL, tc_pushL, tz_pushL, tI_pushB, tL_pushB, tR_pushB, tN_pushB, tZ_pushB, tC_pushB, tc_pushB, tz_pushB, tI_cpL, tL_cpL, tR_cpL, tN_cpL, tZ_cpL, tC_cpL, tc_cpL, tz_cpL, eq_self, true_and, and_true, false_and, and_false, if_true, if_false, reduceIte, ite_true, ite_false, not_true_eq_false, not_false_eq_true, n10, frN_92 hF, y5, h8]
      · rw [ev] at hl
        cases hl
        exact ⟨h10, trivial, fun _ _ => rfl⟩
theorem y222 {b : TS} {g : Nat → Nat} {L : Nat} (h : SnB b g L) : ∃ b', (∀ z, Zk z → Ex 222 [aR (some (92, 0))] (enc 2 b z) = some (.inl (some (aI (ffV (rdA g L 601 0)))), enc 2 b' z)) ∧ chF [85] FsB b b' ∧ Wr b b' ∧
    ∀ l, rdA g L 601 0 = .inr l → tI b' 92 0 10 = Int32.ofNat l.length ∧ EnL b' 0 l := by
  have hF := h.1
  have ca : chF [85] FsB b (sI (sI (sI b 92 0 4 0) 92 0 10 0) 92 0 8 (-1)) := chF_92 (chF_92 (chF_92 (chF_r _ _ _) 4 _ (by omega)) 10 _ (by omega)) 8 _ (by omega)
  have wa : Wr b (sI (sI (sI b 92 0 4 0) 92 0 10 0) 92 0 8 (-1)) := (((Wr.rf _).cI _ _ _ _).cI _ _ _ _).cI _ _ _ _
  have h1 := SnB_c h ca wa
  have v4 : tI (sI (sI (sI b 92 0 4 0) 92 0 10 0) 92 0 8 (-1)) 92 0 4 = Int32.ofNat 0 := by
    rw [tI_sI, if_neg (fun w => absurd w.2.2 (by decide)), tI_sI, if_neg (fun w => absurd w.2.2 (by decide)), tI_sI, if_pos ⟨rfl, rfl, rfl⟩]
    rfl
  have v10 : tI (sI (sI (sI b 92 0 4 0) 92 0 10 0) 92 0 8 (-1)) 92 0 10 = Int32.ofNat 0 := by
    rw [tI_sI, if_neg (fun w => absurd w.2.2 (by decide)), tI_sI, if_pos ⟨rfl, rfl, rfl⟩]
    rfl
  have v8 : tI (sI (sI (sI b 92 0 4 0) 92 0 10 0) 92 0 8 (-1)) 92 0 8 = -1 := by rw [tI_sI, if_pos ⟨rfl, rfl, rfl⟩]
  obtain ⟨b1, d1, d2, d3, d4⟩ := y216 h1 (Nat.zero_le _) v4
  have j10 : tI b1 92 0 10 = Int32.ofNat 0 := ((d2 92 (by simp)).1 0 10 (by decide)).trans v10
  have j8 : tI b1 92 0 8 = -1 := ((d2 92 (by simp)).1 0 8 (by decide)).trans v8
  obtain ⟨b2, e1, e2, e3, e4⟩ := y222_loop 601 0 b1 0 (SnB_c h1 (q2s d2) d3) (Nat.zero_le _) (by omega) (by omega) d4 j10 j8
  refine ⟨b2, fun z hz => ?_, chF_t ca (chF_t (q2s d2) e2), (wa.t d3).t e3, fun l hl => ?_⟩
  · refine (X_in (by decide +kernel) (frN_92 hF) rfl).trans ((lf_222_0 ..).trans ?_)
    simp (config := {decide := true}) only [gfI_enc, gfL_enc, gfR_enc, pfI_enc, pfL_enc, pfR_enc, Option.bind_some, cI_v, cL_v, cF_v, cD_v, cR_v, cV_v, cI_x, cL_x, cR_x, cV_x, gz_0, gz_1, acc_enc, tI_sI, tL_sI, tR_sI, tN_sI, tZ_sI, tC_sI, tc_sI, tz_sI, tI_sL, tL_sL, tR_sL, tN_sL, tZ_sL, tC_sL, tc_sL, tz_sL, tI_sR, tL_sR, tR_sR, tN_sR, tZ_sR, tC_sR, tc_sR, tz_sR, tI_sZ, tL_sZ, tR_sZ, tN_sZ, tZ_sZ, tC_sZ, tc_sZ, tz_sZ, tI_sC, tL_sC, tR_sC, tN_sC, tZ_sC, tC_sC, tc_sC, tz_sC, tI_aC, tL_aC, tR_aC, tN_aC, tZ_aC, tC_aC, tc_aC, tz_aC, tI_rmL, tL_rmL, tR_rmL, tN_rmL, tZ_rmL, tC_rmL, tc_rmL, tz_rmL, tI_mk, tL_mk, tR_mk, tN_mk, tZ_mk, tC_mk, tc_mk, tz_mk, tI_pushL, tL_pushL, tR_pushL, tN_pushL, tZ_pushL, tC_pushL, tc_pushL, tz_pushL, tI_pushB, tL_pushB, tR_pushB, tN_pushB, tZ_pushB, tC_pushB, tc_pushB, tz_pushB, tI_cpL, tL_cpL, tR_cpL, tN_cpL, tZ_cpL, tC_cpL, tc_cpL, tz_cpL, eq_self, true_and, and_true, false_and, and_false, if_true, if_false, reduceIte, ite_true, ite_false, not_true_eq_false, not_false_eq_true, frN_92 hF, d1]
    exact e1 z hz
  · obtain ⟨g1, g2, -⟩ := e4 _ hl
    rw [Nat.zero_add] at g1
    exact ⟨g1, g2⟩
