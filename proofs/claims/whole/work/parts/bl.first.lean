/-! ===== the class's first fault ===== -/
theorem x53 {a : TS} {z : Hp} {g : Nat → Nat} {L p : Nat} (h : SnA a g L) (hp : p ≤ L) (h1 : tI a 24 0 1 = Int32.ofNat p) : Ex 53 [aR (some (24, 0))] (enc 1 a z) = some (.inl (some (aI (if tk g L p < L then 0 else 1))), enc 1 a z) := by
  have f58 := fun z => x58 (z := z) h hp
  have t2 := tk_le g hp
  obtain ⟨hF, hL, hL6, hg⟩ := h
  refine (X_in (by decide +kernel) (fcN_24 hF) rfl).trans ((lf_53_0 ..).trans ?_)
  by_cases e : tk g L p < L
  · have e1 : Int32.ofNat (tk g L p) < Int32.ofNat L := (o_lt (by omega) (by omega)).mpr e
    simp (config := {decide := true}) only [gfI_enc, gfL_enc, gfR_enc, pfI_enc, pfL_enc, pfR_enc, Option.bind_some, cI_v, cL_v, cF_v, cD_v, cR_v, cV_v, cI_x, cL_x, cR_x, cV_x, gz_0, gz_1, acc_enc, tI_sI, tL_sI, tR_sI, tN_sI, tZ_sI, tC_sI, tc_sI, tz_sI, tI_sL, tL_sL, tR_sL, tN_sL, tZ_sL, tC_sL, tc_sL, tz_sL, tI_sR, tL_sR, tR_sR, tN_sR, tZ_sR, tC_sR, tc_sR, tz_sR, tI_sZ, tL_sZ, tR_sZ, tN_sZ, tZ_sZ, tC_sZ, tc_sZ, tz_sZ, tI_sC, tL_sC, tR_sC, tN_sC, tZ_sC, tC_sC, tc_sC, tz_sC, tI_aC, tL_aC, tR_aC, tN_aC, tZ_aC, tC_aC, tc_aC, tz_aC, tI_rmL, tL_rmL, tR_rmL, tN_rmL, tZ_rmL, tC_rmL, tc_rmL, tz_rmL, tI_mk, tL_mk, tR_mk, tN_mk, tZ_mk, tC_mk, tc_mk, tz_mk, tI_pushL, tL_pushL, tR_pushL, tN_pushL, tZ_pushL, tC_pushL, tc_pushL, tz_pushL, tI_pushB, tL_pushB, tR_pushB, tN_pushB, tZ_pushB, tC_pushB, tc_pushB, tz_pushB, tI_cpL, tL_cpL, tR_cpL, tN_cpL, tZ_cpL, tC_cpL, tc_cpL, tz_cpL, eq_self, true_and, and_true, false_and, and_false, if_true, if_false, reduceIte, ite_true, ite_false, not_true_eq_false, not_false_eq_true, fcN_24 hF, h1, f58, fcR_24_0 hF, X412, fcN_13 hF, hL, e1, e]
  · have e1 : ¬ Int32.ofNat (tk g L p) < Int32.ofNat L := fun w => e ((o_lt (by omega) (by omega)).mp w)
    simp (config := {decide := true}) only [gfI_enc, gfL_enc, gfR_enc, pfI_enc, pfL_enc, pfR_enc, Option.bind_some, cI_v, cL_v, cF_v, cD_v, cR_v, cV_v, cI_x, cL_x, cR_x, cV_x, gz_0, gz_1, acc_enc, tI_sI, tL_sI, tR_sI, tN_sI, tZ_sI, tC_sI, tc_sI, tz_sI, tI_sL, tL_sL, tR_sL, tN_sL, tZ_sL, tC_sL, tc_sL, tz_sL, tI_sR, tL_sR, tR_sR, tN_sR, tZ_sR, tC_sR, tc_sR, tz_sR, tI_sZ, tL_sZ, tR_sZ, tN_sZ, tZ_sZ, tC_sZ, tc_sZ, tz_sZ, tI_sC, tL_sC, tR_sC, tN_sC, tZ_sC, tC_sC, tc_sC, tz_sC, tI_aC, tL_aC, tR_aC, tN_aC, tZ_aC, tC_aC, tc_aC, tz_aC, tI_rmL, tL_rmL, tR_rmL, tN_rmL, tZ_rmL, tC_rmL, tc_rmL, tz_rmL, tI_mk, tL_mk, tR_mk, tN_mk, tZ_mk, tC_mk, tc_mk, tz_mk, tI_pushL, tL_pushL, tR_pushL, tN_pushL, tZ_pushL, tC_pushL, tc_pushL, tz_pushL, tI_pushB, tL_pushB, tR_pushB, tN_pushB, tZ_pushB, tC_pushB, tc_pushB, tz_pushB, tI_cpL, tL_cpL, tR_cpL, tN_cpL, tZ_cpL, tC_cpL, tc_cpL, tz_cpL, eq_self, true_and, and_true, false_and, and_false, if_true, if_false, reduceIte, ite_true, ite_false, not_true_eq_false, not_false_eq_true, fcN_24 hF, h1, f58, fcR_24_0 hF, X412, fcN_13 hF, hL, e1, e]
/-- what firstFault says -/
def ffV (r : Sum Nat (List (Nat × List Int32))) : Int32 := match r with
  | .inl f => Int32.ofNat f
  | .inr _ => -1
theorem rdA_s (g : Nat → Nat) (L k p : Nat) : rdA g L (k + 1) p = if tk g L p < L then (match rdC g L p with
      | .inl f => .inl f
      | .inr (c, vs, q) => match rdA g L k q with
        | .inl f => .inl f
        | .inr l => .inr ((c, vs) :: l)) else .inr [] := rfl
theorem rdNs_f {g : Nat → Nat} {L : Nat} : ∀ k p f, p ≤ L → rdNs g L k p = .inl f → f ≤ L := by
  intro k
  induction k with
  | zero => intro p f hp h; cases h
  | succ k ih =>
    intro p f hp h
    unfold rdNs at h
    split at h
    · cases h
      exact tk_le g hp
    · rename_i v q' e
      obtain ⟨b1, b2, -⟩ := rdNum_b hp e
      split at h
      · rename_i f' e'
        cases h
        exact ih _ _ b2 e'
      · cases h
theorem rdC_f {g : Nat → Nat} {L p f : Nat} (hp : p ≤ L) (h : rdC g L p = .inl f) : f ≤ L := by
  have t2 := tk_le g hp
  have t4 := eW_le g t2
  have hE : ∀ {q f}, q ≤ L → rdE g L q = .inl f → f ≤ L := fun {q f} hq he => by
    unfold rdE at he
    split at he
    · cases he
    · cases he
      exact tk_le g hq
  unfold rdC at h
  split at h
  · cases h
    exact t2
  · split at h
    · rename_i hn
      cases h
      exact rdNs_f _ _ _ t4 hn
    · rename_i vs q hn
      obtain ⟨n1, n2, n3⟩ := rdNs_b _ _ _ _ t4 hn
      split at h
      · split at h
        · cases h
          exact tk_le g n2
        · rename_i v r hr
          obtain ⟨p1, p2⟩ := rdPin_b n2 hr
          split at h
          · rename_i he
            cases h
            exact hE p2 he
          · cases h
      · split at h
        · rename_i he
          cases h
          exact hE n2 he
        · cases h
theorem x52_loop {g : Nat → Nat} {L : Nat} : ∀ k v a p, SnA a g L → v + k = 601 → v ≤ p → p ≤ L → tI a 24 0 1 = Int32.ofNat p →
    ∃ a', (∀ z, Zk z → Ru 52 7 [(0, aR (some (24, 0))), (1, aI (Int32.ofNat v))] [] (enc 1 a z) = some (.inl (some (aI (ffV (rdA g L k p)))), enc 1 a' z)) ∧ chF [] FsA a a' ∧ Wr a a' := by
  intro k
  induction k with
  | zero =>
    intro v a p h hv hvp hp h1
    have := h.2.2.1
    omega
  | succ k ih =>
    intro v a p h hv hvp hp h1
    have L6 := h.2.2.1
    have q : ¬ (600 : Int32) < Int32.ofNat v := by
      rw [show (600 : Int32) = Int32.ofNat 600 from rfl, o_lt (by omega) (by omega)]
      omega
    have f53 := fun z => x53 (z := z) h hp h1
    have n10 : ¬ (1 : Int32) = 0 := by decide
    by_cases e : tk g L p < L
    · simp only [if_pos e] at f53
      obtain ⟨i1, i2⟩ := x54 h hp h1
      cases hr : rdC g L p with
      | inl f =>
        obtain ⟨a', e1, e2, e3⟩ := i1 _ hr
        refine ⟨a', fun z hz => ?_, e2, e3⟩
        have f54 := e1 z hz
        have m1 : ¬ Int32.ofNat f = -1 := o_m1 (by have := rdC_f hp hr; omega)
        have ev : ffV (rdA g L (k + 1) p) = Int32.ofNat f := by
          rw [rdA_s, if_pos e, hr]
          rfl
        rw [lf_52_7, ev]
        simp (config := {decide := true}) only [gfI_enc, gfL_enc, gfR_enc, pfI_enc, pfL_enc, pfR_enc, Option.bind_some, cI_v, cL_v, cF_v, cD_v, cR_v, cV_v, cI_x, cL_x, cR_x, cV_x, gz_0, gz_1, acc_enc, tI_sI, tL_sI, tR_sI, tN_sI, tZ_sI, tC_sI, tc_sI, tz_sI, tI_sL, tL_sL, tR_sL, tN_sL, tZ_sL, tC_sL, tc_sL, tz_sL, tI_sR, tL_sR, tR_sR, tN_sR, tZ_sR, tC_sR, tc_sR, tz_sR, tI_sZ, tL_sZ, tR_sZ, tN_sZ, tZ_sZ, tC_sZ, tc_sZ, tz_sZ, tI_sC, tL_sC, tR_sC, tN_sC, tZ_sC, tC_sC, tc_sC, tz_sC, tI_aC, tL_aC, tR_aC, tN_aC, tZ_aC, tC_aC, tc_aC, tz_aC, tI_rmL, tL_rmL, tR_rmL, tN_rmL, tZ_rmL, tC_rmL, tc_rmL, tz_rmL, tI_mk, tL_mk, tR_mk, tN_mk, tZ_mk, tC_mk, tc_mk, tz_mk, tI_pushL, tL_pushL, tR_pushL, tN_pushL, tZ_pushL, tC_pushL, tc_pushL, tz_pushL, tI_pushB, tL_pushB, tR_pushB, tN_pushB, tZ_pushB, tC_pushB, tc_pushB, tz_pushB, tI_cpL, tL_cpL, tR_cpL, tN_cpL, tZ_cpL, tC_cpL, tc_cpL, tz_cpL, eq_self, true_and, and_true, false_and, and_false, if_true, if_false, reduceIte, ite_true, ite_false, not_true_eq_false, not_false_eq_true, q, f53, f54, m1]
      | inr w =>
        obtain ⟨c, vs, r⟩ := w
        obtain ⟨a', e1, e2, e3, e4, -⟩ := i2 _ _ _ hr
        obtain ⟨-, b2, b3, -⟩ := rdC_b hp hr
        obtain ⟨a2, d1, d2, d3⟩ := ih (v + 1) a' r (SnA_c h e2 e3) (by omega) (by omega) b3 e4
        refine ⟨a2, fun z hz => ?_, chF_t e2 d2, e3.t d3⟩
        have f54 := e1 z hz
        have ev : ffV (rdA g L (k + 1) p) = ffV (rdA g L k r) := by
          rw [rdA_s, if_pos e, hr]
          dsimp only
          cases rdA g L k r <;> rfl
        rw [lf_52_7, ev]
        simp (config := {decide := true}) only [gfI_enc, gfL_enc, gfR_enc, pfI_enc, pfL_enc, pfR_enc, Option.bind_some, cI_v, cL_v, cF_v, cD_v, cR_v, cV_v, cI_x, cL_x, cR_x, cV_x, gz_0, gz_1, acc_enc, tI_sI, tL_sI, tR_sI, tN_sI, tZ_sI, tC_sI, tc_sI, tz_sI, tI_sL, tL_sL, tR_sL, tN_sL, tZ_sL, tC_sL, tc_sL, tz_sL, tI_sR, tL_sR, tR_sR, tN_sR, tZ_sR, tC_sR, tc_sR, tz_sR, tI_sZ, tL_sZ, tR_sZ, tN_sZ, tZ_sZ, tC_sZ, tc_sZ, tz_sZ, tI_sC, tL_sC, tR_sC, tN_sC, tZ_sC, tC_sC, tc_sC, tz_sC, tI_aC, tL_aC, tR_aC, tN_aC, tZ_aC, tC_aC, tc_aC, tz_aC, tI_rmL, tL_rmL, tR_rmL, tN_rmL, tZ_rmL, tC_rmL, tc_rmL, tz_rmL, tI_mk, tL_mk, tR_mk, tN_mk, tZ_mk, tC_mk, tc_mk, tz_mk, tI_pushL, tL_pushL, tR_pushL, tN_pushL, tZ_pushL, tC_pushL, tc_pushL, tz_pushL, tI_pushB, tL_pushB, tR_pushB, tN_pushB, tZ_pushB, tC_pushB, tc_pushB, tz_pushB, tI_cpL, tL_cpL, tR_cpL, tN_cpL, tZ_cpL, tC_cpL, tc_cpL, tz_cpL, eq_self, true_and, and_true, false_and, and_false, if_true, if_false, reduceIte, ite_true, ite_false, not_true_eq_false, not_false_eq_true, q, f53, f54, o_s]
        exact d1 z hz
    · simp only [if_neg e] at f53
      refine ⟨a, fun z hz => ?_, chF_r _ _ _, Wr.rf _⟩
      have ev : ffV (rdA g L (k + 1) p) = -1 := by
        rw [rdA_s, if_neg e]
        rfl
      rw [lf_52_7, ev]
      simp (config := {decide := true}) only [gfI_enc, gfL_enc, gfR_enc, pfI_enc, pfL_enc, pfR_enc, Option.bind_some, cI_v, cL_v, cF_v, cD_v, cR_v, cV_v, cI_x, cL_x, cR_x, cV_x, gz_0, gz_1, acc_enc, tI_sI, tL_sI, tR_sI, tN_sI, tZ_sI, tC_sI, tc_sI, tz_sI, tI_sL, tL_sL, tR_sL, tN_sL, tZ_sL, tC_sL, tc_sL, tz_sL, tI_sR, tL_sR, tR_sR, tN_sR, tZ_sR, tC_sR, tc_sR, tz_sR, tI_sZ, tL_sZ, tR_sZ, tN_sZ, tZ_sZ, tC_sZ, tc_sZ, tz_sZ, tI_sC, tL_sC, tR_sC, tN_sC, tZ_sC, tC_sC, tc_sC, tz_sC, tI_aC, tL_aC, tR_aC, tN_aC, tZ_aC, tC_aC, tc_aC, tz_aC, tI_rmL, tL_rmL, tR_rmL, tN_rmL, tZ_rmL, tC_rmL, tc_rmL, tz_rmL, tI_mk, tL_mk, tR_mk, tN_mk, tZ_mk, tC_mk, tc_mk, tz_mk, tI_pushL, tL_pushL, tR_pushL, tN_pushL, tZ_pushL, tC_pushL, tc_pushL, tz_pushL, tI_pushB, tL_pushB, tR_pushB, tN_pushB, tZ_pushB, tC_pushB, tc_pushB, tz_pushB, tI_cpL, tL_cpL, tR_cpL, tN_cpL, tZ_cpL, tC_cpL, tc_cpL, tz_cpL, eq_self, true_and, and_true, false_and, and_false, if_true, if_false, reduceIte, ite_true, ite_false, not_true_eq_false, not_false_eq_true, q, f53, n10]
theorem x52 {a : TS} {g : Nat → Nat} {L : Nat} (h : SnA a g L) : ∃ a', (∀ z, Zk z → Ex 52 [aR (some (24, 0))] (enc 1 a z) = some (.inl (some (aI (ffV (rdA g L 601 0)))), enc 1 a' z)) ∧ chF [] FsA a a' ∧ Wr a a' := by
  have ca : chF [] FsA a (sI a 24 0 1 0) := chF_24 (chF_r _ _ _) 1 _ (Or.inl rfl)
  have wa : Wr a (sI a 24 0 1 0) := (Wr.rf _).cI _ _ _ _
  obtain ⟨a', e1, e2, e3⟩ := x52_loop 601 0 _ 0 (SnA_c h ca wa) (by omega) (by omega) (by omega) (show tI (sI a 24 0 1 0) 24 0 1 = Int32.ofNat 0 by rw [tI_sI, if_pos ⟨rfl, rfl, rfl⟩]; rfl)
  refine ⟨a', fun z hz => ?_, chF_t ca e2, wa.t e3⟩
  have hF := h.1
  refine (X_in (by decide +kernel) (fcN_24 hF) rfl).trans ((lf_52_0 ..).trans ?_)
  simp (config := {decide := true}) only [gfI_enc, gfL_enc, gfR_enc, pfI_enc, pfL_enc, pfR_enc, Option.bind_some, cI_v, cL_v, cF_v, cD_v, cR_v, cV_v, cI_x, cL_x, cR_x, cV_x, gz_0, gz_1, acc_enc, tI_sI, tL_sI, tR_sI, tN_sI, tZ_sI, tC_sI, tc_sI, tz_sI, tI_sL, tL_sL, tR_sL, tN_sL, tZ_sL, tC_sL, tc_sL, tz_sL, tI_sR, tL_sR, tR_sR, tN_sR, tZ_sR, tC_sR, tc_sR, tz_sR, tI_sZ, tL_sZ, tR_sZ, tN_sZ, tZ_sZ, tC_sZ, tc_sZ, tz_sZ, tI_sC, tL_sC, tR_sC, tN_sC, tZ_sC, tC_sC, tc_sC, tz_sC, tI_aC, tL_aC, tR_aC, tN_aC, tZ_aC, tC_aC, tc_aC, tz_aC, tI_rmL, tL_rmL, tR_rmL, tN_rmL, tZ_rmL, tC_rmL, tc_rmL, tz_rmL, tI_mk, tL_mk, tR_mk, tN_mk, tZ_mk, tC_mk, tc_mk, tz_mk, tI_pushL, tL_pushL, tR_pushL, tN_pushL, tZ_pushL, tC_pushL, tc_pushL, tz_pushL, tI_pushB, tL_pushB, tR_pushB, tN_pushB, tZ_pushB, tC_pushB, tc_pushB, tz_pushB, tI_cpL, tL_cpL, tR_cpL, tN_cpL, tZ_cpL, tC_cpL, tc_cpL, tz_cpL, eq_self, true_and, and_true, false_and, and_false, if_true, if_false, reduceIte, ite_true, ite_false, not_true_eq_false, not_false_eq_true, fcN_24 hF]
  exact e1 z hz
