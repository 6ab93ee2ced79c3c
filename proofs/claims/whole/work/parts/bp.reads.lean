/-! ===== the reference reads a command, and a text ===== -/
theorem TokR_3 {b : TS} {g : Nat → Nat} {L p r : Nat} (h : TokR b g L p) (hr : rdE g L p = .inr r) : tI b 92 0 5 = 3 ∧ tI b 92 0 4 = Int32.ofNat r := by
  have h2 := h.2
  unfold rdE at hr
  split at hr
  · rename_i w
    cases hr
    rw [if_pos w.1, w.2, if_neg (by decide), if_neg (by decide), if_pos rfl] at h2
    exact h2
  · cases hr
theorem TokR_n3 {b : TS} {g : Nat → Nat} {L p f : Nat} (h : TokR b g L p) (hr : rdE g L p = .inl f) : ¬ tI b 92 0 5 = 3 ∧ f = tk g L p := by
  have h2 := h.2
  unfold rdE at hr
  split at hr
  · cases hr
  · rename_i w
    cases hr
    refine ⟨?_, rfl⟩
    by_cases e : tk g L p < L
    · rw [if_pos e] at h2
      split at h2
      · rw [h2.1]; decide
      · split at h2
        · rw [h2.1]
          split <;> decide
        · rw [h2.1, if_neg (fun q => w ⟨e, q⟩)]
          decide
    · rw [if_neg e] at h2
      rw [h2]
      decide
theorem TokR_5 {b : TS} {g : Nat → Nat} {L p : Nat} (h : TokR b g L p) : tI b 92 0 5 = 5 ↔ ¬ tk g L p < L := by
  have h2 := h.2
  by_cases e : tk g L p < L
  · refine ⟨fun q => ?_, fun q => absurd e q⟩
    rw [if_pos e] at h2
    split at h2
    · rw [h2.1] at q
      exact absurd q (by decide)
    · split at h2
      · rw [h2.1] at q
        split at q <;> exact absurd q (by decide)
      · rw [h2.1] at q
        split at q <;> exact absurd q (by decide)
  · rw [if_neg e] at h2
    exact ⟨fun _ => e, fun _ => h2⟩
theorem y221n {g : Nat → Nat} {L c K : Nat} (hc : c < 16) (hK : 5 * K + 4 < 800) : ∀ k i b p, SnB b g L → p ≤ L → i + k = nN c → TokR b g L p → tI b 92 0 10 = Int32.ofNat K →
    (∀ f, rdNs g L k p = .inl f → ∃ b', (∀ z, Ru 221 62 [(0, aR (some (92, 0))), (1, aI (Int32.ofNat c)), (2, aI (Int32.ofNat (i + 1)))] [] (enc 2 b z) = some (.inl (some (aI 0)), enc 2 b' z)) ∧ chF [85] FsB b b' ∧ Wr b b' ∧ tI b' 92 0 8 = Int32.ofNat f) ∧
    (∀ vs q, rdNs g L k p = .inr (vs, q) → ∃ b', (∀ z, Ru 221 62 [(0, aR (some (92, 0))), (1, aI (Int32.ofNat c)), (2, aI (Int32.ofNat (i + 1)))] [] (enc 2 b z) = Ru 221 62 [(0, aR (some (92, 0))), (1, aI (Int32.ofNat c)), (2, aI (Int32.ofNat (nN c + 1)))] [] (enc 2 b' z)) ∧ chF [85] FsB b b' ∧ Wr b b' ∧ tI b' 92 0 8 = tI b 92 0 8 ∧ tI b' 92 0 10 = tI b 92 0 10 ∧ TokR b' g L q ∧ (∀ j, j < k → tI b' 85 0 (5 * K + 1 + i + j) = vs.getD j 0) ∧ ∀ m, m < 5 * K + 1 + i → tI b' 85 0 m = tI b 85 0 m) := by
  have n4 := nN_le hc
  intro k
  induction k with
  | zero =>
    intro i b p h hp hi hT h10
    refine ⟨fun f hf => (by cases hf), fun vs q hq => ?_⟩
    cases hq
    have e : i = nN c := by omega
    subst e
    exact ⟨b, fun _ => rfl, chF_r _ _ _, Wr.rf _, rfl, rfl, hT, fun j hj => by omega, fun _ _ => rfl⟩
  | succ k ih =>
    intro i b p h hp hi hT h10
    have hF := h.1
    have n0 : ¬ Int32.ofNat (nN c) < Int32.ofNat (i + 1) := by rw [o_lt (by omega) (by omega)]; omega
    have h83 := (h.2.2.2.2 c hc).1
    have g1 : (Int32.ofNat c).toNatClampNeg = c := o_ix (by omega)
    have g2 : ¬ Int32.ofNat c < 0 := o_lt0 (by omega)
    have n10 : ¬ (1 : Int32) = 0 := by decide
    cases hr : rdNum g L p with
    | none =>
      have f219 := fun w => y219_f (w := w) h hT hr
      refine ⟨fun f hf => ?_, fun vs q hq => ?_⟩
      · unfold rdNs at hf
        rw [hr] at hf
        cases hf
        refine ⟨sI b 92 0 8 (Int32.ofNat (tk g L p)), fun z => ?_, chF_92 (chF_r _ _ _) 8 _ (by omega), (Wr.rf _).cI _ _ _ _, by rw [tI_sI, if_pos ⟨rfl, rfl, rfl⟩]⟩
        rw [lf_221_62]
        simp (config := {decide := true}) only [gfI_enc, gfL_enc, gfR_enc, pfI_enc, pfL_enc, pfR_enc, Option.bind_some, cI_v, cL_v, cF_v, cD_v, cR_v, cV_v, cI_x, cL_x, cR_x, cV_x, gz_0, gz_1, acc_enc, tI_sI, tL_sI, tR_sI, tN_sI, tZ_sI, tC_sI, tc_sI, tz_sI, tI_sL, tL_sL, tR_sL, tN_sL, tZ_sL, tC_sL, tc_sL, tz_sL, tI_sR, tL_sR, tR_sR, tN_sR, tZ_sR, tC_sR, tc_sR, tz_sR, tI_sZ, tL_sZ, tR_sZ, tN_sZ, tZ_sZ, tC_sZ, tc_sZ, tz_sZ, tI_sC, tL_sC, tR_sC, tN_sC, tZ_sC, tC_sC, tc_sC, tz_sC, tI_aC, tL_aC, tR_aC, tN_aC, tZ_aC, tC_aC, tc_aC, tz_aC, tI_rmL, tL_rmL, tR_rmL, tN_rmL, tZ_rmL, tC_rmL, tc_rmL, tz_rmL, tI_mk, tL_mk, tR_mk, tN_mk, tZ_mk, tC_mk, tc_mk, tz_mk, tI_pushL, tL_pushL, tR_pushL, tN_pushL, tZ_pushL, tC_pushL, tc_pushL, tz_pushL, tI_pushB, tL_pushB, tR_pushB, tN_pushB, tZ_pushB, tC_pushB, tc_pushB, tz_pushB, tI_cpL, tL_cpL, tR_cpL, tN_cpL, tZ_cpL, tC_cpL, tc_cpL, tz_cpL, eq_self, true_and, and_true, false_and, and_false, if_true, if_false, reduceIte, ite_true, ite_false, not_true_eq_false, not_false_eq_true, frN_92 hF, frR_92_1 hF, frN_83 hF, frZ_83 hF, gaI_enc, g1, g2, hc, h83, n0, f219]
      · unfold rdNs at hq
        rw [hr] at hq
        cases hq
    | some vq =>
      obtain ⟨v, q⟩ := vq
      obtain ⟨b1, b2, -⟩ := rdNum_b hp hr
      obtain ⟨b', d1, d2, d3, d4, d5, d6, d7⟩ := y219_r (w := i + 1) h hT hp h10 (by omega) hr
      obtain ⟨i1, i2⟩ := ih (i + 1) b' q (SnB_c h d2 d3) b2 (by omega) d6 (d5.trans h10)
      have st : ∀ z, Ru 221 62 [(0, aR (some (92, 0))), (1, aI (Int32.ofNat c)), (2, aI (Int32.ofNat (i + 1)))] [] (enc 2 b z) = Ru 221 62 [(0, aR (some (92, 0))), (1, aI (Int32.ofNat c)), (2, aI (Int32.ofNat (i + 1 + 1)))] [] (enc 2 b' z) := fun z => by
        conv => lhs; rw [lf_221_62]
        simp (config := {decide := true}) only [gfI_enc, gfL_enc, gfR_enc, pfI_enc, pfL_enc, pfR_enc, Option.bind_some, cI_v, cL_v, cF_v, cD_v, cR_v, cV_v, cI_x, cL_x, cR_x, cV_x, gz_0, gz_1, acc_enc, tI_sI, tL_sI, tR_sI, tN_sI, tZ_sI, tC_sI, tc_sI, tz_sI, tI_sL, tL_sL, tR_sL, tN_sL, tZ_sL, tC_sL, tc_sL, tz_sL, tI_sR, tL_sR, tR_sR, tN_sR, tZ_sR, tC_sR, tc_sR, tz_sR, tI_sZ, tL_sZ, tR_sZ, tN_sZ, tZ_sZ, tC_sZ, tc_sZ, tz_sZ, tI_sC, tL_sC, tR_sC, tN_sC, tZ_sC, tC_sC, tc_sC, tz_sC, tI_aC, tL_aC, tR_aC, tN_aC, tZ_aC, tC_aC, tc_aC, tz_aC, tI_rmL, tL_rmL, tR_rmL, tN_rmL, tZ_rmL, tC_rmL, tc_rmL, tz_rmL, tI_mk, tL_mk, tR_mk, tN_mk, tZ_mk, tC_mk, tc_mk, tz_mk, tI_pushL, tL_pushL, tR_pushL, tN_pushL, tZ_pushL, tC_pushL, tc_pushL, tz_pushL, tI_pushB, tL_pushB, tR_pushB, tN_pushB, tZ_pushB, tC_pushB, tc_pushB, tz_pushB, tI_cpL, tL_cpL, tR_cpL, tN_cpL, tZ_cpL, tC_cpL, tc_cpL, tz_cpL, eq_self, true_and, and_true, false_and, and_false, if_true, if_false, reduceIte, ite_true, ite_false, not_true_eq_false, not_false_eq_true, frN_92 hF, frR_92_1 hF, frN_83 hF, frZ_83 hF, gaI_enc, g1, g2, hc, h83, n0, d1, n10, o_s]
      refine ⟨fun f hf => ?_, fun vs q' hq => ?_⟩
      · unfold rdNs at hf
        rw [hr] at hf
        dsimp only at hf
        split at hf
        · rename_i f' hf'
          cases hf
          obtain ⟨b2, e1, e2, e3, e4⟩ := i1 _ hf'
          exact ⟨b2, fun z => (st z).trans (e1 z), chF_t d2 e2, d3.t e3, e4⟩
        · cases hf
      · unfold rdNs at hq
        rw [hr] at hq
        dsimp only at hq
        split at hq
        · cases hq
        · rename_i vs' r hf'
          cases hq
          obtain ⟨b2, e1, e2, e3, e4, e5, e6, e7, e8⟩ := i2 _ _ hf'
          refine ⟨b2, fun z => (st z).trans (e1 z), chF_t d2 e2, d3.t e3, e4.trans d4, e5.trans d5, e6, fun j hj => ?_, fun m hm => ?_⟩
          · cases j with
            | zero =>
              show tI b2 85 0 (5 * K + 1 + i) = v
              rw [e8 _ (by omega), d7, if_pos (by omega)]
            | succ j =>
              have := e7 j (by omega)
              rw [show 5 * K + 1 + (i + 1) + j = 5 * K + 1 + i + (j + 1) by omega] at this
              exact this
          · rw [e8 m (by omega), d7, if_neg (by omega)]
def EnC (b : TS) (K : Nat) (e : Nat × List Int32) : Prop := tI b 85 0 (5 * K) = Int32.ofNat e.1 ∧ ∀ j, j < e.2.length → tI b 85 0 (5 * K + 1 + j) = e.2.getD j 0
/-- behind the numbers and the pin: the end -/
theorem y221e {g : Nat → Nat} {L K q : Nat} {b : TS} (h : SnB b g L) (hq : q ≤ L) (hT : TokR b g L q) (h10 : tI b 92 0 10 = Int32.ofNat K) :
    (∀ f, rdE g L q = .inl f → ∀ z, (if tI b 92 0 5 = 3 then cV (Ex 216 [aR (some (92, 0))] (enc 2 b z)) (fun h6 => (gfI h6 (some (92, 0)) 18 10).bind (fun x7 => (pf h6 (some (92, 0)) 18 10 (aI (x7 + 1))).bind (fun h8 => some (.inl (some (aI 1)), h8)))) xT else cI (Ex 218 [aR (some (92, 0))] (enc 2 b z)) (fun x10 h9 => gz x10 (some (.inl (some (aI x10)), h9))) xT) = some (.inl (some (aI 0)), enc 2 (sI b 92 0 8 (Int32.ofNat f)) z)) ∧
    (∀ r, rdE g L q = .inr r → ∃ b', (∀ z, (if tI b 92 0 5 = 3 then cV (Ex 216 [aR (some (92, 0))] (enc 2 b z)) (fun h6 => (gfI h6 (some (92, 0)) 18 10).bind (fun x7 => (pf h6 (some (92, 0)) 18 10 (aI (x7 + 1))).bind (fun h8 => some (.inl (some (aI 1)), h8)))) xT else cI (Ex 218 [aR (some (92, 0))] (enc 2 b z)) (fun x10 h9 => gz x10 (some (.inl (some (aI x10)), h9))) xT) = some (.inl (some (aI 1)), enc 2 b' z)) ∧ chF [85] FsB b b' ∧ Wr b b' ∧ tI b' 92 0 8 = tI b 92 0 8 ∧ tI b' 92 0 10 = Int32.ofNat (K + 1) ∧ TokR b' g L r ∧ ∀ m, tI b' 85 0 m = tI b 85 0 m) := by
  refine ⟨fun f hf z => ?_, fun r hr => ?_⟩
  · obtain ⟨n3, e⟩ := TokR_n3 hT hf
    subst e
    rw [if_neg n3, y218 h hT, cI_v, gz_0]
  · obtain ⟨h5, h4⟩ := TokR_3 hT hr
    obtain ⟨r1, r2⟩ := rdE_b hr
    obtain ⟨b', d1, d2, d3, d4⟩ := y216 h r2 h4
    have hF' := (SnB_c h (q2s d2) d3).1
    have i10 : tI b' 92 0 10 = Int32.ofNat K := ((d2 92 (by simp)).1 0 10 (by decide)).trans h10
    refine ⟨sI b' 92 0 10 (Int32.ofNat (K + 1)), fun z => ?_, chF_92 (q2s d2) 10 _ (by omega), d3.cI _ _ _ _, ?_, ?_, ?_, fun m => ?_⟩
    · rw [if_pos h5, d1, cV_v]
      simp (config := {decide := true}) only [gfI_enc, gfL_enc, gfR_enc, pfI_enc, pfL_enc, pfR_enc, Option.bind_some, cI_v, cL_v, cF_v, cD_v, cR_v, cV_v, cI_x, cL_x, cR_x, cV_x, gz_0, gz_1, acc_enc, tI_sI, tL_sI, tR_sI, tN_sI, tZ_sI, tC_sI, tc_sI, tz_sI, tI_sL, tL_sL, tR_sL, tN_sL, tZ_sL, tC_sL, tc_sL, tz_sL, tI_sR, tL_sR, tR_sR, tN_sR, tZ_sR, tC_sR, tc_sR, tz_sR, tI_sZ, tL_sZ, tR_sZ, tN_sZ, tZ_sZ, tC_sZ, tc_sZ, tz_sZ, tI_sC, tL_sC, tR_sC, tN_sC, tZ_sC, tC_sC, tc_sC, tz_sC, tI_aC, tL_aC, tR_aC, tN_aC, tZ_aC, tC_aC, tc_aC, tz_aC, tI_rmL, tL_rmL, tR_rmL, tN_rmL, tZ_rmL, tC_rmL, tc_rmL, tz_rmL, tI_mk, tL_mk, tR_mk, tN_mk, tZ_mk, tC_mk, tc_mk, tz_mk, tI_pushL, tL_pushL, tR_pushL, tN_pushL, tZ_pushL, tC_pushL, tc_pushL, tz_pushL, tI_pushB, tL_pushB, tR_pushB, tN_pushB, tZ_pushB, tC_pushB, tc_pushB, tz_pushB, tI_cpL, tL_cpL, tR_cpL, tN_cpL, tZ_cpL, tC_cpL, tc_cpL, tz_cpL, eq_self, true_and, and_true, false_and, and_false, if_true, if_false, reduceIte, ite_true, ite_false, not_true_eq_false, not_false_eq_true, frN_92 hF', i10, o_s]
    · rw [tI_sI, if_neg (fun w => absurd w.2.2 (by decide))]
      exact (d2 92 (by simp)).1 0 8 (by decide)
    · rw [tI_sI, if_pos ⟨rfl, rfl, rfl⟩]
    · have t : ∀ f, f ≠ 10 → tI (sI b' 92 0 10 (Int32.ofNat (K + 1))) 92 0 f = tI b' 92 0 f := fun f hf => by rw [tI_sI, if_neg (fun w => hf w.2.2)]
      unfold TokR
      rw [t 6 (by decide), t 5 (by decide), t 4 (by decide), t 7 (by decide)]
      exact d4
    · rw [tI_sI, if_neg (fun w => absurd w.1 (by decide))]
      exact (d2 85 (by simp)).1 0 m (by simp [FqB])
