/-! ===== the class reads a command ===== -/
theorem nN_le {c : Nat} (h : c < 16) : nN c ≤ 4 := by
  have : c = 0 ∨ c = 1 ∨ c = 2 ∨ c = 3 ∨ c = 4 ∨ c = 5 ∨ c = 6 ∨ c = 7 ∨ c = 8 ∨ c = 9 ∨ c = 10 ∨ c = 11 ∨ c = 12 ∨ c = 13 ∨ c = 14 ∨ c = 15 := by omega
  rcases this with e | e | e | e | e | e | e | e | e | e | e | e | e | e | e | e <;> subst e <;> decide
theorem x54_ret {a : TS} {g : Nat → Nat} {L c f : Nat} {w : Int32} (h : SnA a g L) (hc : c < 16) (h2 : tI a 24 0 2 = Int32.ofNat c) (hf : f < 2 ^ 31) : ∀ z, Zk z → Ru 54 59 [(0, aR (some (24, 0))), (3, aI (Int32.ofNat f)), (4, aI w)] [] (enc 1 a z) = some (.inl (some (aI (Int32.ofNat f))), enc 1 a z) := fun z hz => by
  have hn := nN_at (w := 1) (m := a) (z := z) (by decide) hz c hc
  have m1 : ¬ Int32.ofNat f = -1 := o_m1 hf
  rw [lf_54_59]
  by_cases e : Int32.ofNat (nN c) ≤ w
  · simp (config := {decide := true}) only [gfI_enc, gfL_enc, gfR_enc, pfI_enc, pfL_enc, pfR_enc, Option.bind_some, cI_v, cL_v, cF_v, cD_v, cR_v, cV_v, cI_x, cL_x, cR_x, cV_x, gz_0, gz_1, acc_enc, tI_sI, tL_sI, tR_sI, tN_sI, tZ_sI, tC_sI, tc_sI, tz_sI, tI_sL, tL_sL, tR_sL, tN_sL, tZ_sL, tC_sL, tc_sL, tz_sL, tI_sR, tL_sR, tR_sR, tN_sR, tZ_sR, tC_sR, tc_sR, tz_sR, tI_sZ, tL_sZ, tR_sZ, tN_sZ, tZ_sZ, tC_sZ, tc_sZ, tz_sZ, tI_sC, tL_sC, tR_sC, tN_sC, tZ_sC, tC_sC, tc_sC, tz_sC, tI_aC, tL_aC, tR_aC, tN_aC, tZ_aC, tC_aC, tc_aC, tz_aC, tI_rmL, tL_rmL, tR_rmL, tN_rmL, tZ_rmL, tC_rmL, tc_rmL, tz_rmL, tI_mk, tL_mk, tR_mk, tN_mk, tZ_mk, tC_mk, tc_mk, tz_mk, tI_pushL, tL_pushL, tR_pushL, tN_pushL, tZ_pushL, tC_pushL, tc_pushL, tz_pushL, tI_pushB, tL_pushB, tR_pushB, tN_pushB, tZ_pushB, tC_pushB, tc_pushB, tz_pushB, tI_cpL, tL_cpL, tR_cpL, tN_cpL, tZ_cpL, tC_cpL, tc_cpL, tz_cpL, eq_self, true_and, and_true, false_and, and_false, if_true, if_false, reduceIte, ite_true, ite_false, not_true_eq_false, not_false_eq_true, fcN_24 h.1, h2, hn, e, m1]
  · simp (config := {decide := true}) only [gfI_enc, gfL_enc, gfR_enc, pfI_enc, pfL_enc, pfR_enc, Option.bind_some, cI_v, cL_v, cF_v, cD_v, cR_v, cV_v, cI_x, cL_x, cR_x, cV_x, gz_0, gz_1, acc_enc, tI_sI, tL_sI, tR_sI, tN_sI, tZ_sI, tC_sI, tc_sI, tz_sI, tI_sL, tL_sL, tR_sL, tN_sL, tZ_sL, tC_sL, tc_sL, tz_sL, tI_sR, tL_sR, tR_sR, tN_sR, tZ_sR, tC_sR, tc_sR, tz_sR, tI_sZ, tL_sZ, tR_sZ, tN_sZ, tZ_sZ, tC_sZ, tc_sZ, tz_sZ, tI_sC, tL_sC, tR_sC, tN_sC, tZ_sC, tC_sC, tc_sC, tz_sC, tI_aC, tL_aC, tR_aC, tN_aC, tZ_aC, tC_aC, tc_aC, tz_aC, tI_rmL, tL_rmL, tR_rmL, tN_rmL, tZ_rmL, tC_rmL, tc_rmL, tz_rmL, tI_mk, tL_mk, tR_mk, tN_mk, tZ_mk, tC_mk, tc_mk, tz_mk, tI_pushL, tL_pushL, tR_pushL, tN_pushL, tZ_pushL, tC_pushL, tc_pushL, tz_pushL, tI_pushB, tL_pushB, tR_pushB, tN_pushB, tZ_pushB, tC_pushB, tc_pushB, tz_pushB, tI_cpL, tL_cpL, tR_cpL, tN_cpL, tZ_cpL, tC_cpL, tc_cpL, tz_cpL, eq_self, true_and, and_true, false_and, and_false, if_true, if_false, reduceIte, ite_true, ite_false, not_true_eq_false, not_false_eq_true, fcN_24 h.1, h2, hn, e, m1]
theorem x54n {g : Nat → Nat} {L c : Nat} (hc : c < 16) : ∀ k i a p, SnA a g L → p ≤ L → i + k = nN c → tI a 24 0 1 = Int32.ofNat p → tI a 24 0 2 = Int32.ofNat c →
    (∀ f, rdNs g L k p = .inl f → ∃ a', (∀ z, Zk z → Ru 54 59 [(0, aR (some (24, 0))), (3, aI (-1)), (4, aI (Int32.ofNat i))] [] (enc 1 a z) = some (.inl (some (aI (Int32.ofNat f))), enc 1 a' z)) ∧ chF [] FsA a a' ∧ Wr a a') ∧
    (∀ vs q, rdNs g L k p = .inr (vs, q) → ∃ a', (∀ z, Zk z → Ru 54 59 [(0, aR (some (24, 0))), (3, aI (-1)), (4, aI (Int32.ofNat i))] [] (enc 1 a z) = Ru 54 59 [(0, aR (some (24, 0))), (3, aI (-1)), (4, aI (Int32.ofNat (nN c)))] [] (enc 1 a' z)) ∧ chF [] FsA a a' ∧ Wr a a' ∧ tI a' 24 0 1 = Int32.ofNat q ∧ tI a' 24 0 2 = Int32.ofNat c ∧ (∀ j, j < k → tI a' 14 0 (i + j) = vs.getD j 0) ∧ ∀ j, j < i → tI a' 14 0 j = tI a 14 0 j) := by
  have n4 := nN_le hc
  intro k
  induction k with
  | zero =>
    intro i a p h hp hi h1 h2
    refine ⟨fun f hf => (by cases hf), fun vs q hq => ?_⟩
    cases hq
    have e : i = nN c := by omega
    subst e
    exact ⟨a, fun _ _ => rfl, chF_r _ _ _, Wr.rf _, h1, h2, fun j hj => by omega, fun _ _ => rfl⟩
  | succ k ih =>
    intro i a p h hp hi h1 h2
    have n0 : ¬ Int32.ofNat (nN c) ≤ Int32.ofNat i := by rw [o_le (by omega) (by omega)]; omega
    have L6 := h.2.2.1
    have t2 := tk_le g hp
    have st : ∀ z, Zk z → ∀ {x13 : Int32} {a1 : TS}, Ex 55 [aR (some (24, 0)), aI (Int32.ofNat i)] (enc 1 a z) = some (.inl (some (aI x13)), enc 1 a1 z) → Ru 54 59 [(0, aR (some (24, 0))), (3, aI (-1)), (4, aI (Int32.ofNat i))] [] (enc 1 a z) = Ru 54 59 [(0, aR (some (24, 0))), (3, aI x13), (4, aI (Int32.ofNat (i + 1)))] [] (enc 1 a1 z) := fun z hz {x13} {a1} f55 => by
      have hn := nN_at (w := 1) (m := a) (z := z) (by decide) hz c hc
      rw [lf_54_59]
      simp (config := {decide := true}) only [gfI_enc, gfL_enc, gfR_enc, pfI_enc, pfL_enc, pfR_enc, Option.bind_some, cI_v, cL_v, cF_v, cD_v, cR_v, cV_v, cI_x, cL_x, cR_x, cV_x, gz_0, gz_1, acc_enc, tI_sI, tL_sI, tR_sI, tN_sI, tZ_sI, tC_sI, tc_sI, tz_sI, tI_sL, tL_sL, tR_sL, tN_sL, tZ_sL, tC_sL, tc_sL, tz_sL, tI_sR, tL_sR, tR_sR, tN_sR, tZ_sR, tC_sR, tc_sR, tz_sR, tI_sZ, tL_sZ, tR_sZ, tN_sZ, tZ_sZ, tC_sZ, tc_sZ, tz_sZ, tI_sC, tL_sC, tR_sC, tN_sC, tZ_sC, tC_sC, tc_sC, tz_sC, tI_aC, tL_aC, tR_aC, tN_aC, tZ_aC, tC_aC, tc_aC, tz_aC, tI_rmL, tL_rmL, tR_rmL, tN_rmL, tZ_rmL, tC_rmL, tc_rmL, tz_rmL, tI_mk, tL_mk, tR_mk, tN_mk, tZ_mk, tC_mk, tc_mk, tz_mk, tI_pushL, tL_pushL, tR_pushL, tN_pushL, tZ_pushL, tC_pushL, tc_pushL, tz_pushL, tI_pushB, tL_pushB, tR_pushB, tN_pushB, tZ_pushB, tC_pushB, tc_pushB, tz_pushB, tI_cpL, tL_cpL, tR_cpL, tN_cpL, tZ_cpL, tC_cpL, tc_cpL, tz_cpL, eq_self, true_and, and_true, false_and, and_false, if_true, if_false, reduceIte, ite_true, ite_false, not_true_eq_false, not_false_eq_true, fcN_24 h.1, h2, hn, n0, f55, o_s]
    cases hr : rdNum g L p with
    | none =>
      refine ⟨fun f hf => ?_, fun vs q hq => ?_⟩
      · unfold rdNs at hf
        rw [hr] at hf
        cases hf
        exact ⟨a, fun z hz => (st z hz (x55_f h hp h1 hr)).trans (x54_ret h hc h2 (by omega) z hz), chF_r _ _ _, Wr.rf _⟩
      · unfold rdNs at hq
        rw [hr] at hq
        cases hq
    | some vq =>
      obtain ⟨v, q⟩ := vq
      obtain ⟨b1, b2, -⟩ := rdNum_b hp hr
      have ca : chF [] FsA a (sI (sI a 14 0 i v) 24 0 1 (Int32.ofNat q)) := chF_24 (chF_14 (chF_r _ _ _) i v (by omega)) 1 _ (Or.inl rfl)
      have wa : Wr a (sI (sI a 14 0 i v) 24 0 1 (Int32.ofNat q)) := ((Wr.rf _).cI _ _ _ _).cI _ _ _ _
      have h' := SnA_c h ca wa
      have h1' : tI (sI (sI a 14 0 i v) 24 0 1 (Int32.ofNat q)) 24 0 1 = Int32.ofNat q := by rw [tI_sI, if_pos ⟨rfl, rfl, rfl⟩]
      have h2' : tI (sI (sI a 14 0 i v) 24 0 1 (Int32.ofNat q)) 24 0 2 = Int32.ofNat c := by rw [tI_sI, if_neg (fun w => absurd w.2.2 (by decide)), tI_sI, if_neg (fun w => absurd w.1 (by decide))]; exact h2
      have h14 : ∀ j, tI (sI (sI a 14 0 i v) 24 0 1 (Int32.ofNat q)) 14 0 j = if j = i then v else tI a 14 0 j := fun j => by
        rw [tI_sI, if_neg (fun w => absurd w.1 (by decide)), tI_sI]
        by_cases e : j = i
        · rw [if_pos ⟨rfl, rfl, e⟩, if_pos e]
        · rw [if_neg (fun w => e w.2.2), if_neg e]
      obtain ⟨i1, i2⟩ := ih (i + 1) _ q h' b2 (by omega) h1' h2'
      have f55 := fun z => x55_r (z := z) (w := i) h hp h1 (by omega) hr
      refine ⟨fun f hf => ?_, fun vs q' hq => ?_⟩
      · unfold rdNs at hf
        rw [hr] at hf
        dsimp only at hf
        split at hf
        · rename_i f' hf'
          cases hf
          obtain ⟨a', e1, e2, e3⟩ := i1 _ hf'
          exact ⟨a', fun z hz => (st z hz (f55 z)).trans (e1 z hz), chF_t ca e2, wa.t e3⟩
        · cases hf
      · unfold rdNs at hq
        rw [hr] at hq
        dsimp only at hq
        split at hq
        · cases hq
        · rename_i vs' r hf'
          cases hq
          obtain ⟨a', e1, e2, e3, e4, e5, e6, e7⟩ := i2 _ _ hf'
          refine ⟨a', fun z hz => (st z hz (f55 z)).trans (e1 z hz), chF_t ca e2, wa.t e3, e4, e5, fun j hj => ?_, fun j hj => ?_⟩
          · cases j with
            | zero =>
              show tI a' 14 0 i = v
              rw [e7 i (by omega), h14, if_pos rfl]
            | succ j =>
              have := e6 j (by omega)
              rw [show i + 1 + j = i + (j + 1) by omega] at this
              exact this
          · rw [e7 j (by omega), h14, if_neg (by omega)]
theorem x54 {g : Nat → Nat} {L p : Nat} {a : TS} (h : SnA a g L) (hp : p ≤ L) (h1 : tI a 24 0 1 = Int32.ofNat p) :
    (∀ f, rdC g L p = .inl f → ∃ a', (∀ z, Zk z → Ex 54 [aR (some (24, 0))] (enc 1 a z) = some (.inl (some (aI (Int32.ofNat f))), enc 1 a' z)) ∧ chF [] FsA a a' ∧ Wr a a') ∧
    (∀ c vs q, rdC g L p = .inr (c, vs, q) → ∃ a', (∀ z, Zk z → Ex 54 [aR (some (24, 0))] (enc 1 a z) = some (.inl (some (aI (-1))), enc 1 a' z)) ∧ chF [] FsA a a' ∧ Wr a a' ∧ tI a' 24 0 1 = Int32.ofNat q ∧ tI a' 24 0 2 = Int32.ofNat c ∧ ∀ j, j < vs.length → tI a' 14 0 j = vs.getD j 0) := by
  have hF := h.1
  have L6 := h.2.2.1
  have t2 := tk_le g hp
  have t3 := eW_ge g L (tk g L p)
  have t4 := eW_le g t2
  have f58 := fun z => x58 (z := z) h hp
  have f59 := fun z => x59W (z := z) h t2
  have f61 := fun z hz => x61 (z := z) h hz t3 t4
  cases hc : cmdO g L (tk g L p) with
  | none =>
    refine ⟨fun f hf => ?_, fun c vs q hq => ?_⟩
    · unfold rdC at hf
      rw [hc] at hf
      cases hf
      refine ⟨sI a 24 0 2 (-1), fun z hz => ?_, chF_24 (chF_r _ _ _) 2 _ (Or.inr rfl), (Wr.rf _).cI _ _ _ _⟩
      have f61 := f61 z hz
      unfold cmdO at hc
      rw [hc] at f61
      dsimp only at f61
      have n1 : (-1 : Int32) < 0 := by decide
      refine (X_in (by decide +kernel) (fcN_24 hF) rfl).trans ((lf_54_0 ..).trans ?_)
      simp (config := {decide := true}) only [gfI_enc, gfL_enc, gfR_enc, pfI_enc, pfL_enc, pfR_enc, Option.bind_some, cI_v, cL_v, cF_v, cD_v, cR_v, cV_v, cI_x, cL_x, cR_x, cV_x, gz_0, gz_1, acc_enc, tI_sI, tL_sI, tR_sI, tN_sI, tZ_sI, tC_sI, tc_sI, tz_sI, tI_sL, tL_sL, tR_sL, tN_sL, tZ_sL, tC_sL, tc_sL, tz_sL, tI_sR, tL_sR, tR_sR, tN_sR, tZ_sR, tC_sR, tc_sR, tz_sR, tI_sZ, tL_sZ, tR_sZ, tN_sZ, tZ_sZ, tC_sZ, tc_sZ, tz_sZ, tI_sC, tL_sC, tR_sC, tN_sC, tZ_sC, tC_sC, tc_sC, tz_sC, tI_aC, tL_aC, tR_aC, tN_aC, tZ_aC, tC_aC, tc_aC, tz_aC, tI_rmL, tL_rmL, tR_rmL, tN_rmL, tZ_rmL, tC_rmL, tc_rmL, tz_rmL, tI_mk, tL_mk, tR_mk, tN_mk, tZ_mk, tC_mk, tc_mk, tz_mk, tI_pushL, tL_pushL, tR_pushL, tN_pushL, tZ_pushL, tC_pushL, tc_pushL, tz_pushL, tI_pushB, tL_pushB, tR_pushB, tN_pushB, tZ_pushB, tC_pushB, tc_pushB, tz_pushB, tI_cpL, tL_cpL, tR_cpL, tN_cpL, tZ_cpL, tC_cpL, tc_cpL, tz_cpL, eq_self, true_and, and_true, false_and, and_false, if_true, if_false, reduceIte, ite_true, ite_false, not_true_eq_false, not_false_eq_true, fcN_24 hF, h1, f58, f59, f61, n1]
    · unfold rdC at hq
      rw [hc] at hq
      cases hq
  | some c =>
    obtain ⟨c1, c2, -⟩ := cmdO_b hc
    have ca : chF [] FsA a (sI (sI a 24 0 2 (Int32.ofNat c)) 24 0 1 (Int32.ofNat (eW g L (tk g L p)))) := chF_24 (chF_24 (chF_r _ _ _) 2 _ (Or.inr rfl)) 1 _ (Or.inl rfl)
    have wa : Wr a (sI (sI a 24 0 2 (Int32.ofNat c)) 24 0 1 (Int32.ofNat (eW g L (tk g L p)))) := ((Wr.rf _).cI _ _ _ _).cI _ _ _ _
    have h' := SnA_c h ca wa
    have h1' : tI (sI (sI a 24 0 2 (Int32.ofNat c)) 24 0 1 (Int32.ofNat (eW g L (tk g L p)))) 24 0 1 = Int32.ofNat (eW g L (tk g L p)) := by rw [tI_sI, if_pos ⟨rfl, rfl, rfl⟩]
    have h2' : tI (sI (sI a 24 0 2 (Int32.ofNat c)) 24 0 1 (Int32.ofNat (eW g L (tk g L p)))) 24 0 2 = Int32.ofNat c := by rw [tI_sI, if_neg (fun w => absurd w.2.2 (by decide)), tI_sI, if_pos ⟨rfl, rfl, rfl⟩]
    have hd : ∀ z, Zk z → Ex 54 [aR (some (24, 0))] (enc 1 a z) = Ru 54 59 [(0, aR (some (24, 0))), (3, aI (-1)), (4, aI (Int32.ofNat 0))] [] (enc 1 (sI (sI a 24 0 2 (Int32.ofNat c)) 24 0 1 (Int32.ofNat (eW g L (tk g L p)))) z) := fun z hz => by
      have f61 := f61 z hz
      unfold cmdO at hc
      rw [hc] at f61
      dsimp only at f61
      have n0 : ¬ Int32.ofNat c < 0 := o_lt0 (by omega)
      have hl := nN_len (w := 1) (m := sI a 24 0 2 (Int32.ofNat c)) (z := z) (by decide) hz
      have n1 : Int32.ofNat c < 16 := by
        rw [show (16 : Int32) = Int32.ofNat 16 from rfl, o_lt (by omega) (by omega)]
        omega
      have z0 : Int32.ofNat 0 = 0 := rfl
      refine (X_in (by decide +kernel) (fcN_24 hF) rfl).trans ((lf_54_0 ..).trans ?_)
      simp (config := {decide := true}) only [gfI_enc, gfL_enc, gfR_enc, pfI_enc, pfL_enc, pfR_enc, Option.bind_some, cI_v, cL_v, cF_v, cD_v, cR_v, cV_v, cI_x, cL_x, cR_x, cV_x, gz_0, gz_1, acc_enc, tI_sI, tL_sI, tR_sI, tN_sI, tZ_sI, tC_sI, tc_sI, tz_sI, tI_sL, tL_sL, tR_sL, tN_sL, tZ_sL, tC_sL, tc_sL, tz_sL, tI_sR, tL_sR, tR_sR, tN_sR, tZ_sR, tC_sR, tc_sR, tz_sR, tI_sZ, tL_sZ, tR_sZ, tN_sZ, tZ_sZ, tC_sZ, tc_sZ, tz_sZ, tI_sC, tL_sC, tR_sC, tN_sC, tZ_sC, tC_sC, tc_sC, tz_sC, tI_aC, tL_aC, tR_aC, tN_aC, tZ_aC, tC_aC, tc_aC, tz_aC, tI_rmL, tL_rmL, tR_rmL, tN_rmL, tZ_rmL, tC_rmL, tc_rmL, tz_rmL, tI_mk, tL_mk, tR_mk, tN_mk, tZ_mk, tC_mk, tc_mk, tz_mk, tI_pushL, tL_pushL, tR_pushL, tN_pushL, tZ_pushL, tC_pushL, tc_pushL, tz_pushL, tI_pushB, tL_pushB, tR_pushB, tN_pushB, tZ_pushB, tC_pushB, tc_pushB, tz_pushB, tI_cpL, tL_cpL, tR_cpL, tN_cpL, tZ_cpL, tC_cpL, tc_cpL, tz_cpL, eq_self, true_and, and_true, false_and, and_false, if_true, if_false, reduceIte, ite_true, ite_false, not_true_eq_false, not_false_eq_true, fcN_24 hF, h1, f58, f59, f61, n0, hl, n1, z0]
    obtain ⟨i1, i2⟩ := x54n c1 (nN c) 0 _ _ h' t4 (by omega) h1' h2'
    have n3 : Int32.ofNat (nN c) ≤ Int32.ofNat (nN c) := Int32.le_refl _
    have n4 := nN_le c1
    cases hn : rdNs g L (nN c) (eW g L (tk g L p)) with
    | inl f' =>
      refine ⟨fun f hf => ?_, fun c' vs q hq => ?_⟩
      · unfold rdC at hf
        rw [hc] at hf
        dsimp only at hf
        rw [hn] at hf
        cases hf
        obtain ⟨a', e1, e2, e3⟩ := i1 _ hn
        exact ⟨a', fun z hz => (hd z hz).trans (e1 z hz), chF_t ca e2, wa.t e3⟩
      · unfold rdC at hq
        rw [hc] at hq
        dsimp only at hq
        rw [hn] at hq
        cases hq
    | inr vr =>
      obtain ⟨vs0, q0⟩ := vr
      obtain ⟨a1, e1, e2, e3, e4, e5, e6, -⟩ := i2 _ _ hn
      obtain ⟨b1, b2, b3⟩ := rdNs_b _ _ _ _ t4 hn
      have ca1 := chF_t ca e2
      have wa1 := wa.t e3
      have ha1 := SnA_c h ca1 wa1
      have hF1 := ha1.1
      by_cases c3 : c = 3
      · subst c3
        cases hp3 : rdPin g L q0 with
        | none =>
          refine ⟨fun f hf => ?_, fun c' vs q hq => ?_⟩
          · unfold rdC at hf
            rw [hc] at hf
            dsimp only at hf
            rw [hn] at hf
            dsimp only at hf
            rw [if_pos rfl, hp3] at hf
            cases hf
            refine ⟨a1, fun z hz => ((hd z hz).trans (e1 z hz)).trans ?_, ca1, wa1⟩
            have hnn := nN_at (w := 1) (m := a1) (z := z) (by decide) hz 3 c1
            have f56 := x56_f ha1 hz b2 e4 hp3
            have m1 : ¬ Int32.ofNat (tk g L q0) = -1 := o_m1 (by have := tk_le g b2; omega)
            have o3 : Int32.ofNat 3 = 3 := rfl
            rw [o3] at hnn e5
            rw [lf_54_59]
            simp (config := {decide := true}) only [gfI_enc, gfL_enc, gfR_enc, pfI_enc, pfL_enc, pfR_enc, Option.bind_some, cI_v, cL_v, cF_v, cD_v, cR_v, cV_v, cI_x, cL_x, cR_x, cV_x, gz_0, gz_1, acc_enc, tI_sI, tL_sI, tR_sI, tN_sI, tZ_sI, tC_sI, tc_sI, tz_sI, tI_sL, tL_sL, tR_sL, tN_sL, tZ_sL, tC_sL, tc_sL, tz_sL, tI_sR, tL_sR, tR_sR, tN_sR, tZ_sR, tC_sR, tc_sR, tz_sR, tI_sZ, tL_sZ, tR_sZ, tN_sZ, tZ_sZ, tC_sZ, tc_sZ, tz_sZ, tI_sC, tL_sC, tR_sC, tN_sC, tZ_sC, tC_sC, tc_sC, tz_sC, tI_aC, tL_aC, tR_aC, tN_aC, tZ_aC, tC_aC, tc_aC, tz_aC, tI_rmL, tL_rmL, tR_rmL, tN_rmL, tZ_rmL, tC_rmL, tc_rmL, tz_rmL, tI_mk, tL_mk, tR_mk, tN_mk, tZ_mk, tC_mk, tc_mk, tz_mk, tI_pushL, tL_pushL, tR_pushL, tN_pushL, tZ_pushL, tC_pushL, tc_pushL, tz_pushL, tI_pushB, tL_pushB, tR_pushB, tN_pushB, tZ_pushB, tC_pushB, tc_pushB, tz_pushB, tI_cpL, tL_cpL, tR_cpL, tN_cpL, tZ_cpL, tC_cpL, tc_cpL, tz_cpL, eq_self, true_and, and_true, false_and, and_false, if_true, if_false, reduceIte, ite_true, ite_false, not_true_eq_false, not_false_eq_true, fcN_24 hF1, e5, hnn, n3, f56, m1]
          · unfold rdC at hq
            rw [hc] at hq
            dsimp only at hq
            rw [hn] at hq
            dsimp only at hq
            rw [if_pos rfl, hp3] at hq
            cases hq
        | some vq =>
          obtain ⟨v, q1⟩ := vq
          obtain ⟨d1, d2⟩ := rdPin_b b2 hp3
          have ca2 : chF [] FsA a (sI (sI a1 14 0 3 v) 24 0 1 (Int32.ofNat q1)) := chF_24 (chF_14 ca1 3 v (by omega)) 1 _ (Or.inl rfl)
          have wa2 : Wr a (sI (sI a1 14 0 3 v) 24 0 1 (Int32.ofNat q1)) := (wa1.cI _ _ _ _).cI _ _ _ _
          have ha2 := SnA_c h ca2 wa2
          have h1'' : tI (sI (sI a1 14 0 3 v) 24 0 1 (Int32.ofNat q1)) 24 0 1 = Int32.ofNat q1 := by rw [tI_sI, if_pos ⟨rfl, rfl, rfl⟩]
          have st : ∀ z, Zk z → ∀ {x : Int32} {a9 : TS}, Ex 57 [aR (some (24, 0))] (enc 1 (sI (sI a1 14 0 3 v) 24 0 1 (Int32.ofNat q1)) z) = some (.inl (some (aI x)), enc 1 a9 z) → Ex 54 [aR (some (24, 0))] (enc 1 a z) = some (.inl (some (aI x)), enc 1 a9 z) := fun z hz {x} {a9} f57 => by
            refine ((hd z hz).trans (e1 z hz)).trans ?_
            have hnn := nN_at (w := 1) (m := a1) (z := z) (by decide) hz 3 c1
            have f56 := x56_r ha1 b2 e4 hp3 z hz
            have o3 : Int32.ofNat 3 = 3 := rfl
            rw [o3] at hnn e5
            rw [lf_54_59]
            simp (config := {decide := true}) only [gfI_enc, gfL_enc, gfR_enc, pfI_enc, pfL_enc, pfR_enc, Option.bind_some, cI_v, cL_v, cF_v, cD_v, cR_v, cV_v, cI_x, cL_x, cR_x, cV_x, gz_0, gz_1, acc_enc, tI_sI, tL_sI, tR_sI, tN_sI, tZ_sI, tC_sI, tc_sI, tz_sI, tI_sL, tL_sL, tR_sL, tN_sL, tZ_sL, tC_sL, tc_sL, tz_sL, tI_sR, tL_sR, tR_sR, tN_sR, tZ_sR, tC_sR, tc_sR, tz_sR, tI_sZ, tL_sZ, tR_sZ, tN_sZ, tZ_sZ, tC_sZ, tc_sZ, tz_sZ, tI_sC, tL_sC, tR_sC, tN_sC, tZ_sC, tC_sC, tc_sC, tz_sC, tI_aC, tL_aC, tR_aC, tN_aC, tZ_aC, tC_aC, tc_aC, tz_aC, tI_rmL, tL_rmL, tR_rmL, tN_rmL, tZ_rmL, tC_rmL, tc_rmL, tz_rmL, tI_mk, tL_mk, tR_mk, tN_mk, tZ_mk, tC_mk, tc_mk, tz_mk, tI_pushL, tL_pushL, tR_pushL, tN_pushL, tZ_pushL, tC_pushL, tc_pushL, tz_pushL, tI_pushB, tL_pushB, tR_pushB, tN_pushB, tZ_pushB, tC_pushB, tc_pushB, tz_pushB, tI_cpL, tL_cpL, tR_cpL, tN_cpL, tZ_cpL, tC_cpL, tc_cpL, tz_cpL, eq_self, true_and, and_true, false_and, and_false, if_true, if_false, reduceIte, ite_true, ite_false, not_true_eq_false, not_false_eq_true, fcN_24 hF1, e5, hnn, n3, f56, f57]
          cases he : rdE g L q1 with
          | inl f' =>
            refine ⟨fun f hf => ?_, fun c' vs q hq => ?_⟩
            · unfold rdC at hf
              rw [hc] at hf
              dsimp only at hf
              rw [hn] at hf
              dsimp only at hf
              rw [if_pos rfl, hp3] at hf
              dsimp only at hf
              rw [he] at hf
              cases hf
              exact ⟨_, fun z hz => st z hz (x57_f ha2 d2 h1'' he), ca2, wa2⟩
            · unfold rdC at hq
              rw [hc] at hq
              dsimp only at hq
              rw [hn] at hq
              dsimp only at hq
              rw [if_pos rfl, hp3] at hq
              dsimp only at hq
              rw [he] at hq
              cases hq
          | inr r' =>
            refine ⟨fun f hf => ?_, fun c' vs q hq => ?_⟩
            · unfold rdC at hf
              rw [hc] at hf
              dsimp only at hf
              rw [hn] at hf
              dsimp only at hf
              rw [if_pos rfl, hp3] at hf
              dsimp only at hf
              rw [he] at hf
              cases hf
            · unfold rdC at hq
              rw [hc] at hq
              dsimp only at hq
              rw [hn] at hq
              dsimp only at hq
              rw [if_pos rfl, hp3] at hq
              dsimp only at hq
              rw [he] at hq
              cases hq
              refine ⟨_, fun z hz => st z hz (x57_r ha2 d2 h1'' he), chF_24 ca2 1 _ (Or.inl rfl), wa2.cI _ _ _ _, by rw [tI_sI, if_pos ⟨rfl, rfl, rfl⟩], ?_, fun j hj => ?_⟩
              · rw [tI_sI, if_neg (fun w => absurd w.2.2 (by decide)), tI_sI, if_neg (fun w => absurd w.2.2 (by decide)), tI_sI, if_neg (fun w => absurd w.1 (by decide))]
                exact e5
              · have b3' : vs0.length = 3 := b3
                rw [List.length_append, b3'] at hj
                have hj : j < 3 + 1 := hj
                rw [tI_sI, if_neg (fun w => absurd w.1 (by decide)), tI_sI, if_neg (fun w => absurd w.1 (by decide)), tI_sI]
                by_cases ej : j = 3
                · subst ej
                  rw [if_pos ⟨rfl, rfl, rfl⟩, List.getD_eq_getElem?_getD, List.getElem?_append_right (by omega), b3']
                  rfl
                · rw [if_neg (fun w => ej w.2.2), List.getD_eq_getElem?_getD, List.getElem?_append_left (by omega), ← List.getD_eq_getElem?_getD]
                  have := e6 j (by rw [show nN 3 = 3 from by decide]; omega)
                  rw [Nat.zero_add] at this
                  exact this
      · have n3' : ¬ Int32.ofNat c = 3 := fun w => c3 (o_inj (by omega) (by omega) (show Int32.ofNat c = Int32.ofNat 3 from w))
        have st : ∀ z, Zk z → ∀ {x : Int32} {a9 : TS}, Ex 57 [aR (some (24, 0))] (enc 1 a1 z) = some (.inl (some (aI x)), enc 1 a9 z) → Ex 54 [aR (some (24, 0))] (enc 1 a z) = some (.inl (some (aI x)), enc 1 a9 z) := fun z hz {x} {a9} f57 => by
          refine ((hd z hz).trans (e1 z hz)).trans ?_
          have hnn := nN_at (w := 1) (m := a1) (z := z) (by decide) hz c c1
          rw [lf_54_59]
          simp (config := {decide := true}) only [gfI_enc, gfL_enc, gfR_enc, pfI_enc, pfL_enc, pfR_enc, Option.bind_some, cI_v, cL_v, cF_v, cD_v, cR_v, cV_v, cI_x, cL_x, cR_x, cV_x, gz_0, gz_1, acc_enc, tI_sI, tL_sI, tR_sI, tN_sI, tZ_sI, tC_sI, tc_sI, tz_sI, tI_sL, tL_sL, tR_sL, tN_sL, tZ_sL, tC_sL, tc_sL, tz_sL, tI_sR, tL_sR, tR_sR, tN_sR, tZ_sR, tC_sR, tc_sR, tz_sR, tI_sZ, tL_sZ, tR_sZ, tN_sZ, tZ_sZ, tC_sZ, tc_sZ, tz_sZ, tI_sC, tL_sC, tR_sC, tN_sC, tZ_sC, tC_sC, tc_sC, tz_sC, tI_aC, tL_aC, tR_aC, tN_aC, tZ_aC, tC_aC, tc_aC, tz_aC, tI_rmL, tL_rmL, tR_rmL, tN_rmL, tZ_rmL, tC_rmL, tc_rmL, tz_rmL, tI_mk, tL_mk, tR_mk, tN_mk, tZ_mk, tC_mk, tc_mk, tz_mk, tI_pushL, tL_pushL, tR_pushL, tN_pushL, tZ_pushL, tC_pushL, tc_pushL, tz_pushL, tI_pushB, tL_pushB, tR_pushB, tN_pushB, tZ_pushB, tC_pushB, tc_pushB, tz_pushB, tI_cpL, tL_cpL, tR_cpL, tN_cpL, tZ_cpL, tC_cpL, tc_cpL, tz_cpL, eq_self, true_and, and_true, false_and, and_false, if_true, if_false, reduceIte, ite_true, ite_false, not_true_eq_false, not_false_eq_true, fcN_24 hF1, e5, hnn, n3, n3', f57]
        cases he : rdE g L q0 with
        | inl f' =>
          refine ⟨fun f hf => ?_, fun c' vs q hq => ?_⟩
          · unfold rdC at hf
            rw [hc] at hf
            dsimp only at hf
            rw [hn] at hf
            dsimp only at hf
            rw [if_neg c3, he] at hf
            cases hf
            exact ⟨_, fun z hz => st z hz (x57_f ha1 b2 e4 he), ca1, wa1⟩
          · unfold rdC at hq
            rw [hc] at hq
            dsimp only at hq
            rw [hn] at hq
            dsimp only at hq
            rw [if_neg c3, he] at hq
            cases hq
        | inr r' =>
          refine ⟨fun f hf => ?_, fun c' vs q hq => ?_⟩
          · unfold rdC at hf
            rw [hc] at hf
            dsimp only at hf
            rw [hn] at hf
            dsimp only at hf
            rw [if_neg c3, he] at hf
            cases hf
          · unfold rdC at hq
            rw [hc] at hq
            dsimp only at hq
            rw [hn] at hq
            dsimp only at hq
            rw [if_neg c3, he] at hq
            cases hq
            refine ⟨_, fun z hz => st z hz (x57_r ha1 b2 e4 he), chF_24 ca1 1 _ (Or.inl rfl), wa1.cI _ _ _ _, by rw [tI_sI, if_pos ⟨rfl, rfl, rfl⟩], ?_, fun j hj => ?_⟩
            · rw [tI_sI, if_neg (fun w => absurd w.2.2 (by decide))]
              exact e5
            · rw [tI_sI, if_neg (fun w => absurd w.1 (by decide))]
              have := e6 j (by omega)
              rw [Nat.zero_add] at this
              exact this
