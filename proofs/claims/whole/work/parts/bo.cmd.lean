/-! ===== the reference reads words and numbers ===== -/
theorem o_5 (n w : Nat) : (5 : Int32) * Int32.ofNat n + Int32.ofNat w = Int32.ofNat (5 * n + w) := by
  have : (5 : Int32) * Int32.ofNat n = Int32.ofNat (5 * n) := (Int32.ofNat_mul 5 n).symm
  rw [this, o_a]
theorem chF_85 {b b' : TS} (h : chF [85] FsB b b') (k : Nat) (v : Int32) : chF [85] FsB b (sI b' 85 0 k v) := fun s hs => by
  obtain ⟨c1, c2, c3, c4, c5, c6⟩ := h s hs
  have hs' : s ≠ 85 := fun e => hs (by simp [e])
  exact ⟨fun i k q => by rw [tI_sI, if_neg (fun w => hs' w.1)]; exact c1 i k q, c2, c3, c4, c5, c6⟩
theorem TokR_4 {b : TS} {g : Nat → Nat} {L p : Nat} (h : TokR b g L p) (hw : tk g L p < L) (h97 : 97 ≤ g (tk g L p) ∧ g (tk g L p) ≤ 122) : tI b 92 0 5 = 1 ∧ tI b 92 0 4 = Int32.ofNat (eW g L (tk g L p)) := by
  have := h.2
  rw [if_pos hw, if_pos h97] at this
  exact this
/-- no word: the kind is another -/
theorem TokR_n1 {b : TS} {g : Nat → Nat} {L p : Nat} (h : TokR b g L p) (hw : ¬ (tk g L p < L ∧ 97 ≤ g (tk g L p) ∧ g (tk g L p) ≤ 122)) : ¬ tI b 92 0 5 = 1 := by
  have h2 := h.2
  by_cases e : tk g L p < L
  · rw [if_pos e, if_neg (fun q => hw ⟨e, q⟩)] at h2
    split at h2
    · rw [h2.1]
      split <;> decide
    · rw [h2.1]
      split <;> decide
  · rw [if_neg e] at h2
    rw [h2]
    decide
/-- a number, or none -/
theorem TokR_2 {b : TS} {g : Nat → Nat} {L p q : Nat} {v : Int32} (hp : p ≤ L) (h : TokR b g L p) (hr : rdNum g L p = some (v, q)) : tI b 92 0 5 = 2 ∧ tI b 92 0 4 = Int32.ofNat q ∧ tI b 92 0 7 = v := by
  obtain ⟨b1, b2, b3, b4, b5, b6⟩ := rdNum_b hp hr
  have hd : tk g L p < L ∧ 48 ≤ g (tk g L p) ∧ g (tk g L p) ≤ 57 := Classical.byContradiction (fun w => by
    have : eD g L (tk g L p) = tk g L p := rE_out w
    omega)
  have h2 := h.2
  rw [if_pos hd.1, if_neg (fun w => by omega), if_pos hd.2, ← b3, if_pos b5, Nat.min_eq_left b5, ← b6] at h2
  exact h2
theorem TokR_n2 {b : TS} {g : Nat → Nat} {L p : Nat} (h : TokR b g L p) (hr : rdNum g L p = none) : ¬ tI b 92 0 5 = 2 := by
  have h2 := h.2
  unfold rdNum at hr
  split at hr
  · rename_i w
    by_cases e : tk g L p < L
    · rw [if_pos e] at h2
      split at h2
      · rw [h2.1]; decide
      · split at h2
        · rename_i hd
          have : eD g L (tk g L p) = eD g L (tk g L p + 1) := rE_in ⟨e, hd⟩
          have := eD_ge g L (tk g L p + 1)
          have w2 : 7 < eD g L (tk g L p) - tk g L p := by
            rcases w with w | w
            · omega
            · exact w
          rw [h2.1, if_neg (by omega)]
          decide
        · rw [h2.1]
          split <;> decide
    · rw [if_neg e] at h2
      rw [h2]
      decide
  · cases hr
theorem y217 {b : TS} {z : Hp} {g : Nat → Nat} {L p j : Nat} (h : SnB b g L) (hT : TokR b g L p) (hp : p ≤ L) (hz : Zk z) (hj : j < 17) : Ex 217 [aR (some (92, 0)), aR (some (0, 10 + j))] (enc 2 b z) = some (.inl (some (aI (if wm g (tk g L p) (eW g L (tk g L p)) (wd j) then 1 else 0))), enc 2 b z) := by
  have hF := h.1
  have L6 := h.2.1
  have f415 := X415 (w := 2) (m := b) (z := z) (by decide) hz hj
  have t2 := tk_le g hp
  have t3 := eW_ge g L (tk g L p)
  have t4 := eW_le g t2
  have n10 : ¬ (1 : Int32) = 0 := by decide
  have wl := wd_3 hj
  have wl7 : (wd j).length ≤ 7 := by
    have : j = 0 ∨ j = 1 ∨ j = 2 ∨ j = 3 ∨ j = 4 ∨ j = 5 ∨ j = 6 ∨ j = 7 ∨ j = 8 ∨ j = 9 ∨ j = 10 ∨ j = 11 ∨ j = 12 ∨ j = 13 ∨ j = 14 ∨ j = 15 ∨ j = 16 := by omega
    rcases this with e | e | e | e | e | e | e | e | e | e | e | e | e | e | e | e | e <;> subst e <;> decide
  have h6 := hT.1
  have no : ∀ k, Ru 217 32 [(0, aR (some (92, 0))), (1, aR (some (0, 10 + j))), (2, aI 0), (3, aI k)] [] (enc 2 b z) = some (.inl (some (aI 0)), enc 2 b z) := fun k => by
    rw [lf_217_32, f415, cI_v]
    by_cases e : Int32.ofNat (wd j).length ≤ k
    · rw [if_pos e, gz_0]
    · rw [if_neg e, if_pos rfl, gz_0]
  have loop : eW g L (tk g L p) - tk g L p = (wd j).length → ∀ n k, k + n = (wd j).length → Ru 217 32 [(0, aR (some (92, 0))), (1, aR (some (0, 10 + j))), (2, aI 1), (3, aI (Int32.ofNat k))] [] (enc 2 b z) = some (.inl (some (aI (if weq g (tk g L p) (wd j) k then 1 else 0))), enc 2 b z) := by
    intro hlen n
    induction n with
    | zero =>
      intro k hk
      have q : Int32.ofNat (wd j).length ≤ Int32.ofNat k := by rw [o_le (by omega) (by omega)]; omega
      rw [lf_217_32, f415, cI_v, if_pos q, if_pos (weq_end g _ (wd j) (by omega)), gz_1]
    | succ n ih =>
      intro k hk
      have hkl : k < (wd j).length := by omega
      have q : ¬ Int32.ofNat (wd j).length ≤ Int32.ofNat k := by rw [o_le (by omega) (by omega)]; omega
      have hsk : tk g L p + k < L := by omega
      obtain ⟨v, v1, v2⟩ := h.2.2.2.1 (tk g L p + k) hsk
      have ha : Int32.ofNat (tk g L p) + Int32.ofNat k = Int32.ofNat (tk g L p + k) := o_a ..
      have g1 : (Int32.ofNat (tk g L p + k)).toNatClampNeg = tk g L p + k := o_ix (by omega)
      have g2 : ¬ Int32.ofNat (tk g L p + k) < 0 := o_lt0 (by omega)
      have g3 : tk g L p + k < 600 := by omega
      have f416 := X416 (w := 2) (m := b) (z := z) (x := Int32.ofNat k) (by decide) hz hj (o_lt0 (by omega)) (by rw [o_ix (by omega)]; exact hkl)
      rw [o_ix (by omega)] at f416
      have w2 := wd_le hj k
      have hi2 := ih (k + 1) (by omega)
      rw [lf_217_32]
      by_cases e1 : g (tk g L p + k) = (wd j).getD k 0
      · rw [ite_c (weq_s e1)]
        simp (config := {decide := true}) only [gfI_enc, gfL_enc, gfR_enc, pfI_enc, pfL_enc, pfR_enc, Option.bind_some, cI_v, cL_v, cF_v, cD_v, cR_v, cV_v, cI_x, cL_x, cR_x, cV_x, gz_0, gz_1, acc_enc, tI_sI, tL_sI, tR_sI, tN_sI, tZ_sI, tC_sI, tc_sI, tz_sI, tI_sL, tL_sL, tR_sL, tN_sL, tZ_sL, tC_sL, tc_sL, tz_sL, tI_sR, tL_sR, tR_sR, tN_sR, tZ_sR, tC_sR, tc_sR, tz_sR, tI_sZ, tL_sZ, tR_sZ, tN_sZ, tZ_sZ, tC_sZ, tc_sZ, tz_sZ, tI_sC, tL_sC, tR_sC, tN_sC, tZ_sC, tC_sC, tc_sC, tz_sC, tI_aC, tL_aC, tR_aC, tN_aC, tZ_aC, tC_aC, tc_aC, tz_aC, tI_rmL, tL_rmL, tR_rmL, tN_rmL, tZ_rmL, tC_rmL, tc_rmL, tz_rmL, tI_mk, tL_mk, tR_mk, tN_mk, tZ_mk, tC_mk, tc_mk, tz_mk, tI_pushL, tL_pushL, tR_pushL, tN_pushL, tZ_pushL, tC_pushL, tc_pushL, tz_pushL, tI_pushB, tL_pushB, tR_pushB, tN_pushB, tZ_pushB, tC_pushB, tc_pushB, tz_pushB, tI_cpL, tL_cpL, tR_cpL, tN_cpL, tZ_cpL, tC_cpL, tc_cpL, tz_cpL, eq_self, true_and, and_true, false_and, and_false, if_true, if_false, reduceIte, ite_true, ite_false, not_true_eq_false, not_false_eq_true, f415, q, n10, frN_92 hF, frR_92_2 hF, h6, ha, frN_84 hF, frZ_84 hF, gaI_enc, g1, g2, g3, v, f416, e1, o_s]
        exact hi2
      · have e2 : ¬ Int32.ofNat (g (tk g L p + k)) = Int32.ofNat ((wd j).getD k 0) := fun w => e1 (o_inj (by omega) (by omega) w)
        rw [if_neg (weq_n hkl e1)]
        simp (config := {decide := true}) only [gfI_enc, gfL_enc, gfR_enc, pfI_enc, pfL_enc, pfR_enc, Option.bind_some, cI_v, cL_v, cF_v, cD_v, cR_v, cV_v, cI_x, cL_x, cR_x, cV_x, gz_0, gz_1, acc_enc, tI_sI, tL_sI, tR_sI, tN_sI, tZ_sI, tC_sI, tc_sI, tz_sI, tI_sL, tL_sL, tR_sL, tN_sL, tZ_sL, tC_sL, tc_sL, tz_sL, tI_sR, tL_sR, tR_sR, tN_sR, tZ_sR, tC_sR, tc_sR, tz_sR, tI_sZ, tL_sZ, tR_sZ, tN_sZ, tZ_sZ, tC_sZ, tc_sZ, tz_sZ, tI_sC, tL_sC, tR_sC, tN_sC, tZ_sC, tC_sC, tc_sC, tz_sC, tI_aC, tL_aC, tR_aC, tN_aC, tZ_aC, tC_aC, tc_aC, tz_aC, tI_rmL, tL_rmL, tR_rmL, tN_rmL, tZ_rmL, tC_rmL, tc_rmL, tz_rmL, tI_mk, tL_mk, tR_mk, tN_mk, tZ_mk, tC_mk, tc_mk, tz_mk, tI_pushL, tL_pushL, tR_pushL, tN_pushL, tZ_pushL, tC_pushL, tc_pushL, tz_pushL, tI_pushB, tL_pushB, tR_pushB, tN_pushB, tZ_pushB, tC_pushB, tc_pushB, tz_pushB, tI_cpL, tL_cpL, tR_cpL, tN_cpL, tZ_cpL, tC_cpL, tc_cpL, tz_cpL, eq_self, true_and, and_true, false_and, and_false, if_true, if_false, reduceIte, ite_true, ite_false, not_true_eq_false, not_false_eq_true, f415, q, n10, frN_92 hF, frR_92_2 hF, h6, ha, frN_84 hF, frZ_84 hF, gaI_enc, g1, g2, g3, v, f416, e2, o_s]
        exact no _
  by_cases w : tk g L p < L ∧ 97 ≤ g (tk g L p) ∧ g (tk g L p) ≤ 122
  · obtain ⟨h5, h4⟩ := TokR_4 hT w.1 w.2
    have hd : Int32.ofNat (eW g L (tk g L p)) - Int32.ofNat (tk g L p) = Int32.ofNat (eW g L (tk g L p) - tk g L p) := o_sb t3
    refine (X_in (by decide +kernel) (frN_92 hF) rfl).trans ((lf_217_0 ..).trans ?_)
    by_cases e1 : eW g L (tk g L p) - tk g L p = (wd j).length
    · have l0 := loop e1 (wd j).length 0 (by omega)
      have : (wm g (tk g L p) (eW g L (tk g L p)) (wd j)) ↔ weq g (tk g L p) (wd j) 0 := ⟨fun q => q.2, fun q => ⟨e1, q⟩⟩
      rw [ite_c this]
      simp (config := {decide := true}) only [gfI_enc, gfL_enc, gfR_enc, pfI_enc, pfL_enc, pfR_enc, Option.bind_some, cI_v, cL_v, cF_v, cD_v, cR_v, cV_v, cI_x, cL_x, cR_x, cV_x, gz_0, gz_1, acc_enc, tI_sI, tL_sI, tR_sI, tN_sI, tZ_sI, tC_sI, tc_sI, tz_sI, tI_sL, tL_sL, tR_sL, tN_sL, tZ_sL, tC_sL, tc_sL, tz_sL, tI_sR, tL_sR, tR_sR, tN_sR, tZ_sR, tC_sR, tc_sR, tz_sR, tI_sZ, tL_sZ, tR_sZ, tN_sZ, tZ_sZ, tC_sZ, tc_sZ, tz_sZ, tI_sC, tL_sC, tR_sC, tN_sC, tZ_sC, tC_sC, tc_sC, tz_sC, tI_aC, tL_aC, tR_aC, tN_aC, tZ_aC, tC_aC, tc_aC, tz_aC, tI_rmL, tL_rmL, tR_rmL, tN_rmL, tZ_rmL, tC_rmL, tc_rmL, tz_rmL, tI_mk, tL_mk, tR_mk, tN_mk, tZ_mk, tC_mk, tc_mk, tz_mk, tI_pushL, tL_pushL, tR_pushL, tN_pushL, tZ_pushL, tC_pushL, tc_pushL, tz_pushL, tI_pushB, tL_pushB, tR_pushB, tN_pushB, tZ_pushB, tC_pushB, tc_pushB, tz_pushB, tI_cpL, tL_cpL, tR_cpL, tN_cpL, tZ_cpL, tC_cpL, tc_cpL, tz_cpL, eq_self, true_and, and_true, false_and, and_false, if_true, if_false, reduceIte, ite_true, ite_false, not_true_eq_false, not_false_eq_true, frN_92 hF, h5, h4, h6, f415, hd, e1]
      exact l0
    · have e2 : ¬ Int32.ofNat (eW g L (tk g L p) - tk g L p) = Int32.ofNat (wd j).length := fun w => e1 (o_inj (by omega) (by omega) w)
      rw [if_neg (fun q => e1 q.1)]
      simp (config := {decide := true}) only [gfI_enc, gfL_enc, gfR_enc, pfI_enc, pfL_enc, pfR_enc, Option.bind_some, cI_v, cL_v, cF_v, cD_v, cR_v, cV_v, cI_x, cL_x, cR_x, cV_x, gz_0, gz_1, acc_enc, tI_sI, tL_sI, tR_sI, tN_sI, tZ_sI, tC_sI, tc_sI, tz_sI, tI_sL, tL_sL, tR_sL, tN_sL, tZ_sL, tC_sL, tc_sL, tz_sL, tI_sR, tL_sR, tR_sR, tN_sR, tZ_sR, tC_sR, tc_sR, tz_sR, tI_sZ, tL_sZ, tR_sZ, tN_sZ, tZ_sZ, tC_sZ, tc_sZ, tz_sZ, tI_sC, tL_sC, tR_sC, tN_sC, tZ_sC, tC_sC, tc_sC, tz_sC, tI_aC, tL_aC, tR_aC, tN_aC, tZ_aC, tC_aC, tc_aC, tz_aC, tI_rmL, tL_rmL, tR_rmL, tN_rmL, tZ_rmL, tC_rmL, tc_rmL, tz_rmL, tI_mk, tL_mk, tR_mk, tN_mk, tZ_mk, tC_mk, tc_mk, tz_mk, tI_pushL, tL_pushL, tR_pushL, tN_pushL, tZ_pushL, tC_pushL, tc_pushL, tz_pushL, tI_pushB, tL_pushB, tR_pushB, tN_pushB, tZ_pushB, tC_pushB, tc_pushB, tz_pushB, tI_cpL, tL_cpL, tR_cpL, tN_cpL, tZ_cpL, tC_cpL, tc_cpL, tz_cpL, eq_self, true_and, and_true, false_and, and_false, if_true, if_false, reduceIte, ite_true, ite_false, not_true_eq_false, not_false_eq_true, frN_92 hF, h5, h4, h6, f415, hd, e2]
      exact no _
  · have h5 := TokR_n1 hT w
    have e0 : eW g L (tk g L p) = tk g L p := rE_out w
    have wn : ¬ wm g (tk g L p) (eW g L (tk g L p)) (wd j) := fun q => by
      have := q.1
      omega
    refine (X_in (by decide +kernel) (frN_92 hF) rfl).trans ((lf_217_0 ..).trans ?_)
    rw [if_neg wn]
    simp (config := {decide := true}) only [gfI_enc, gfL_enc, gfR_enc, pfI_enc, pfL_enc, pfR_enc, Option.bind_some, cI_v, cL_v, cF_v, cD_v, cR_v, cV_v, cI_x, cL_x, cR_x, cV_x, gz_0, gz_1, acc_enc, tI_sI, tL_sI, tR_sI, tN_sI, tZ_sI, tC_sI, tc_sI, tz_sI, tI_sL, tL_sL, tR_sL, tN_sL, tZ_sL, tC_sL, tc_sL, tz_sL, tI_sR, tL_sR, tR_sR, tN_sR, tZ_sR, tC_sR, tc_sR, tz_sR, tI_sZ, tL_sZ, tR_sZ, tN_sZ, tZ_sZ, tC_sZ, tc_sZ, tz_sZ, tI_sC, tL_sC, tR_sC, tN_sC, tZ_sC, tC_sC, tc_sC, tz_sC, tI_aC, tL_aC, tR_aC, tN_aC, tZ_aC, tC_aC, tc_aC, tz_aC, tI_rmL, tL_rmL, tR_rmL, tN_rmL, tZ_rmL, tC_rmL, tc_rmL, tz_rmL, tI_mk, tL_mk, tR_mk, tN_mk, tZ_mk, tC_mk, tc_mk, tz_mk, tI_pushL, tL_pushL, tR_pushL, tN_pushL, tZ_pushL, tC_pushL, tc_pushL, tz_pushL, tI_pushB, tL_pushB, tR_pushB, tN_pushB, tZ_pushB, tC_pushB, tc_pushB, tz_pushB, tI_cpL, tL_cpL, tR_cpL, tN_cpL, tZ_cpL, tC_cpL, tc_cpL, tz_cpL, eq_self, true_and, and_true, false_and, and_false, if_true, if_false, reduceIte, ite_true, ite_false, not_true_eq_false, not_false_eq_true, frN_92 hF, h5]
    exact no _
theorem y218 {b : TS} {z : Hp} {g : Nat → Nat} {L p : Nat} (h : SnB b g L) (hT : TokR b g L p) : Ex 218 [aR (some (92, 0))] (enc 2 b z) = some (.inl (some (aI 0)), enc 2 (sI b 92 0 8 (Int32.ofNat (tk g L p))) z) := by
  have hF := h.1
  have h6 := hT.1
  refine (X_in (by decide +kernel) (frN_92 hF) rfl).trans ((lf_218_0 ..).trans ?_)
  simp (config := {decide := true}) only [gfI_enc, gfL_enc, gfR_enc, pfI_enc, pfL_enc, pfR_enc, Option.bind_some, cI_v, cL_v, cF_v, cD_v, cR_v, cV_v, cI_x, cL_x, cR_x, cV_x, gz_0, gz_1, acc_enc, tI_sI, tL_sI, tR_sI, tN_sI, tZ_sI, tC_sI, tc_sI, tz_sI, tI_sL, tL_sL, tR_sL, tN_sL, tZ_sL, tC_sL, tc_sL, tz_sL, tI_sR, tL_sR, tR_sR, tN_sR, tZ_sR, tC_sR, tc_sR, tz_sR, tI_sZ, tL_sZ, tR_sZ, tN_sZ, tZ_sZ, tC_sZ, tc_sZ, tz_sZ, tI_sC, tL_sC, tR_sC, tN_sC, tZ_sC, tC_sC, tc_sC, tz_sC, tI_aC, tL_aC, tR_aC, tN_aC, tZ_aC, tC_aC, tc_aC, tz_aC, tI_rmL, tL_rmL, tR_rmL, tN_rmL, tZ_rmL, tC_rmL, tc_rmL, tz_rmL, tI_mk, tL_mk, tR_mk, tN_mk, tZ_mk, tC_mk, tc_mk, tz_mk, tI_pushL, tL_pushL, tR_pushL, tN_pushL, tZ_pushL, tC_pushL, tc_pushL, tz_pushL, tI_pushB, tL_pushB, tR_pushB, tN_pushB, tZ_pushB, tC_pushB, tc_pushB, tz_pushB, tI_cpL, tL_cpL, tR_cpL, tN_cpL, tZ_cpL, tC_cpL, tc_cpL, tz_cpL, eq_self, true_and, and_true, false_and, and_false, if_true, if_false, reduceIte, ite_true, ite_false, not_true_eq_false, not_false_eq_true, frN_92 hF, h6]
theorem y219_f {b : TS} {g : Nat → Nat} {L p : Nat} {w : Int32} (h : SnB b g L) (hT : TokR b g L p) (hr : rdNum g L p = none) : ∀ z, Ex 219 [aR (some (92, 0)), aI w] (enc 2 b z) = some (.inl (some (aI 0)), enc 2 (sI b 92 0 8 (Int32.ofNat (tk g L p))) z) := fun z => by
  have hF := h.1
  have h5 := TokR_n2 hT hr
  have f218 := fun z => y218 (z := z) h hT
  refine (X_in (by decide +kernel) (frN_92 hF) rfl).trans ((lf_219_0 ..).trans ?_)
  simp (config := {decide := true}) only [gfI_enc, gfL_enc, gfR_enc, pfI_enc, pfL_enc, pfR_enc, Option.bind_some, cI_v, cL_v, cF_v, cD_v, cR_v, cV_v, cI_x, cL_x, cR_x, cV_x, gz_0, gz_1, acc_enc, tI_sI, tL_sI, tR_sI, tN_sI, tZ_sI, tC_sI, tc_sI, tz_sI, tI_sL, tL_sL, tR_sL, tN_sL, tZ_sL, tC_sL, tc_sL, tz_sL, tI_sR, tL_sR, tR_sR, tN_sR, tZ_sR, tC_sR, tc_sR, tz_sR, tI_sZ, tL_sZ, tR_sZ, tN_sZ, tZ_sZ, tC_sZ, tc_sZ, tz_sZ, tI_sC, tL_sC, tR_sC, tN_sC, tZ_sC, tC_sC, tc_sC, tz_sC, tI_aC, tL_aC, tR_aC, tN_aC, tZ_aC, tC_aC, tc_aC, tz_aC, tI_rmL, tL_rmL, tR_rmL, tN_rmL, tZ_rmL, tC_rmL, tc_rmL, tz_rmL, tI_mk, tL_mk, tR_mk, tN_mk, tZ_mk, tC_mk, tc_mk, tz_mk, tI_pushL, tL_pushL, tR_pushL, tN_pushL, tZ_pushL, tC_pushL, tc_pushL, tz_pushL, tI_pushB, tL_pushB, tR_pushB, tN_pushB, tZ_pushB, tC_pushB, tc_pushB, tz_pushB, tI_cpL, tL_cpL, tR_cpL, tN_cpL, tZ_cpL, tC_cpL, tc_cpL, tz_cpL, eq_self, true_and, and_true, false_and, and_false, if_true, if_false, reduceIte, ite_true, ite_false, not_true_eq_false, not_false_eq_true, frN_92 hF, h5, f218]
theorem y219_r {b : TS} {g : Nat → Nat} {L p q K w : Nat} {v : Int32} (h : SnB b g L) (hT : TokR b g L p) (hp : p ≤ L) (h10 : tI b 92 0 10 = Int32.ofNat K) (hw : 5 * K + w < 800) (hr : rdNum g L p = some (v, q)) :
    ∃ b', (∀ z, Ex 219 [aR (some (92, 0)), aI (Int32.ofNat w)] (enc 2 b z) = some (.inl (some (aI 1)), enc 2 b' z)) ∧ chF [85] FsB b b' ∧ Wr b b' ∧ tI b' 92 0 8 = tI b 92 0 8 ∧ tI b' 92 0 10 = tI b 92 0 10 ∧ TokR b' g L q ∧ ∀ m, tI b' 85 0 m = if m = 5 * K + w then v else tI b 85 0 m := by
  have hF := h.1
  obtain ⟨h5, h4, h7⟩ := TokR_2 hp hT hr
  obtain ⟨b1, b2, -⟩ := rdNum_b hp hr
  have ca : chF [85] FsB b (sI b 85 0 (5 * K + w) v) := chF_85 (chF_r _ _ _) _ _
  have wa : Wr b (sI b 85 0 (5 * K + w) v) := (Wr.rf _).cI _ _ _ _
  have i92 : ∀ f, tI (sI b 85 0 (5 * K + w) v) 92 0 f = tI b 92 0 f := fun f => by rw [tI_sI, if_neg (fun w => absurd w.1 (by decide))]
  obtain ⟨b', d1, d2, d3, d4⟩ := y216 (SnB_c h ca wa) b2 ((i92 4).trans h4)
  have j92 : ∀ f, f ≠ 4 → f ≠ 5 → f ≠ 6 → f ≠ 7 → tI b' 92 0 f = tI b 92 0 f := fun f e4 e5 e6 e7 => by
    rw [(d2 92 (by simp)).1 0 f (by simp [FqB, e4, e5, e6, e7]), i92]
  refine ⟨b', fun z => ?_, chF_t ca (q2s d2), wa.t d3, j92 8 (by decide) (by decide) (by decide) (by decide), j92 10 (by decide) (by decide) (by decide) (by decide), d4, fun m => ?_⟩
  · have g1 : (Int32.ofNat (5 * K + w)).toNatClampNeg = 5 * K + w := o_ix (by omega)
    have g2 : ¬ Int32.ofNat (5 * K + w) < 0 := o_lt0 (by omega)
    have o5 := o_5 K w
    refine (X_in (by decide +kernel) (frN_92 hF) rfl).trans ((lf_219_0 ..).trans ?_)
    simp (config := {decide := true}) only [gfI_enc, gfL_enc, gfR_enc, pfI_enc, pfL_enc, pfR_enc, Option.bind_some, cI_v, cL_v, cF_v, cD_v, cR_v, cV_v, cI_x, cL_x, cR_x, cV_x, gz_0, gz_1, acc_enc, tI_sI, tL_sI, tR_sI, tN_sI, tZ_sI, tC_sI, tc_sI, tz_sI, tI_sL, tL_sL, tR_sL, tN_sL, tZ_sL, tC_sL, tc_sL, tz_sL, tI_sR, tL_sR, tR_sR, tN_sR, tZ_sR, tC_sR, tc_sR, tz_sR, tI_sZ, tL_sZ, tR_sZ, tN_sZ, tZ_sZ, tC_sZ, tc_sZ, tz_sZ, tI_sC, tL_sC, tR_sC, tN_sC, tZ_sC, tC_sC, tc_sC, tz_sC, tI_aC, tL_aC, tR_aC, tN_aC, tZ_aC, tC_aC, tc_aC, tz_aC, tI_rmL, tL_rmL, tR_rmL, tN_rmL, tZ_rmL, tC_rmL, tc_rmL, tz_rmL, tI_mk, tL_mk, tR_mk, tN_mk, tZ_mk, tC_mk, tc_mk, tz_mk, tI_pushL, tL_pushL, tR_pushL, tN_pushL, tZ_pushL, tC_pushL, tc_pushL, tz_pushL, tI_pushB, tL_pushB, tR_pushB, tN_pushB, tZ_pushB, tC_pushB, tc_pushB, tz_pushB, tI_cpL, tL_cpL, tR_cpL, tN_cpL, tZ_cpL, tC_cpL, tc_cpL, tz_cpL, eq_self, true_and, and_true, false_and, and_false, if_true, if_false, reduceIte, ite_true, ite_false, not_true_eq_false, not_false_eq_true, frN_92 hF, h5, frR_92_9 hF, h10, h7, o5, frN_85 hF, frZ_85 hF, paI_enc, g1, g2, hw, d1]
  · rw [(d2 85 (by simp)).1 0 m (by simp [FqB]), tI_sI]
    by_cases e : m = 5 * K + w
    · rw [if_pos ⟨rfl, rfl, e⟩, if_pos e]
    · rw [if_neg (fun w => e w.2.2), if_neg e]
theorem y220_f {b : TS} {g : Nat → Nat} {L p : Nat} (h : SnB b g L) (hT : TokR b g L p) (hp : p ≤ L) (hr : rdPin g L p = none) : ∀ z, Zk z → Ex 220 [aR (some (92, 0))] (enc 2 b z) = some (.inl (some (aI 0)), enc 2 (sI b 92 0 8 (Int32.ofNat (tk g L p))) z) := fun z hz => by
  have hF := h.1
  have f217 : Ex 217 [aR (some (92, 0)), aR (some (0, 10))] (enc 2 b z) = _ := y217 (j := 0) h hT hp hz (by omega)
  unfold rdPin at hr
  split at hr
  · cases hr
  · rename_i w
    rw [if_neg w] at f217
    have f219 := fun w => y219_f (w := w) h hT hr
    refine (X_in (by decide +kernel) (frN_92 hF) rfl).trans ((lf_220_0 ..).trans ?_)
    simp (config := {decide := true}) only [gfI_enc, gfL_enc, gfR_enc, pfI_enc, pfL_enc, pfR_enc, Option.bind_some, cI_v, cL_v, cF_v, cD_v, cR_v, cV_v, cI_x, cL_x, cR_x, cV_x, gz_0, gz_1, acc_enc, tI_sI, tL_sI, tR_sI, tN_sI, tZ_sI, tC_sI, tc_sI, tz_sI, tI_sL, tL_sL, tR_sL, tN_sL, tZ_sL, tC_sL, tc_sL, tz_sL, tI_sR, tL_sR, tR_sR, tN_sR, tZ_sR, tC_sR, tc_sR, tz_sR, tI_sZ, tL_sZ, tR_sZ, tN_sZ, tZ_sZ, tC_sZ, tc_sZ, tz_sZ, tI_sC, tL_sC, tR_sC, tN_sC, tZ_sC, tC_sC, tc_sC, tz_sC, tI_aC, tL_aC, tR_aC, tN_aC, tZ_aC, tC_aC, tc_aC, tz_aC, tI_rmL, tL_rmL, tR_rmL, tN_rmL, tZ_rmL, tC_rmL, tc_rmL, tz_rmL, tI_mk, tL_mk, tR_mk, tN_mk, tZ_mk, tC_mk, tc_mk, tz_mk, tI_pushL, tL_pushL, tR_pushL, tN_pushL, tZ_pushL, tC_pushL, tc_pushL, tz_pushL, tI_pushB, tL_pushB, tR_pushB, tN_pushB, tZ_pushB, tC_pushB, tc_pushB, tz_pushB, tI_cpL, tL_cpL, tR_cpL, tN_cpL, tZ_cpL, tC_cpL, tc_cpL, tz_cpL, eq_self, true_and, and_true, false_and, and_false, if_true, if_false, reduceIte, ite_true, ite_false, not_true_eq_false, not_false_eq_true, f217, f219]
theorem y220_r {b : TS} {g : Nat → Nat} {L p q K : Nat} {v : Int32} (h : SnB b g L) (hT : TokR b g L p) (hp : p ≤ L) (h10 : tI b 92 0 10 = Int32.ofNat K) (hw : 5 * K + 4 < 800) (hr : rdPin g L p = some (v, q)) :
    ∃ b', (∀ z, Zk z → Ex 220 [aR (some (92, 0))] (enc 2 b z) = some (.inl (some (aI 1)), enc 2 b' z)) ∧ chF [85] FsB b b' ∧ Wr b b' ∧ tI b' 92 0 8 = tI b 92 0 8 ∧ tI b' 92 0 10 = tI b 92 0 10 ∧ TokR b' g L q ∧ ∀ m, tI b' 85 0 m = if m = 5 * K + 4 then v else tI b 85 0 m := by
  have hF := h.1
  have n10 : ¬ (1 : Int32) = 0 := by decide
  have t2 := tk_le g hp
  have t3 := eW_ge g L (tk g L p)
  have t4 := eW_le g t2
  have f217 : ∀ z, Zk z → Ex 217 [aR (some (92, 0)), aR (some (0, 10))] (enc 2 b z) = _ := fun z hz => y217 (j := 0) h hT hp hz (by omega)
  unfold rdPin at hr
  split at hr
  · rename_i w
    cases hr
    have hwd : tk g L p < L ∧ 97 ≤ g (tk g L p) ∧ g (tk g L p) ≤ 122 := Classical.byContradiction (fun q => by
      have e0 : eW g L (tk g L p) = tk g L p := rE_out q
      have := w.1
      have := wd_3 (c := 0) (by omega)
      omega)
    obtain ⟨h5, h4⟩ := TokR_4 hT hwd.1 hwd.2
    have ca : chF [85] FsB b (sI b 85 0 (5 * K + 4) (-1)) := chF_85 (chF_r _ _ _) _ _
    have wa : Wr b (sI b 85 0 (5 * K + 4) (-1)) := (Wr.rf _).cI _ _ _ _
    have i92 : ∀ f, tI (sI b 85 0 (5 * K + 4) (-1)) 92 0 f = tI b 92 0 f := fun f => by rw [tI_sI, if_neg (fun w => absurd w.1 (by decide))]
    obtain ⟨b', d1, d2, d3, d4⟩ := y216 (SnB_c h ca wa) t4 ((i92 4).trans h4)
    have j92 : ∀ f, f ≠ 4 → f ≠ 5 → f ≠ 6 → f ≠ 7 → tI b' 92 0 f = tI b 92 0 f := fun f e4 e5 e6 e7 => by
      rw [(d2 92 (by simp)).1 0 f (by simp [FqB, e4, e5, e6, e7]), i92]
    refine ⟨b', fun z hz => ?_, chF_t ca (q2s d2), wa.t d3, j92 8 (by decide) (by decide) (by decide) (by decide), j92 10 (by decide) (by decide) (by decide) (by decide), d4, fun m => ?_⟩
    · have f217 := f217 z hz
      rw [if_pos w] at f217
      have g1 : (Int32.ofNat (5 * K + 4)).toNatClampNeg = 5 * K + 4 := o_ix (by omega)
      have g2 : ¬ Int32.ofNat (5 * K + 4) < 0 := o_lt0 (by omega)
      have o5 : (5 : Int32) * Int32.ofNat K + 4 = Int32.ofNat (5 * K + 4) := o_5 K 4
      refine (X_in (by decide +kernel) (frN_92 hF) rfl).trans ((lf_220_0 ..).trans ?_)
      simp (config := {decide := true}) only [gfI_enc, gfL_enc, gfR_enc, pfI_enc, pfL_enc, pfR_enc, Option.bind_some, cI_v, cL_v, cF_v, cD_v, cR_v, cV_v, cI_x, cL_x, cR_x, cV_x, gz_0, gz_1, acc_enc, tI_sI, tL_sI, tR_sI, tN_sI, tZ_sI, tC_sI, tc_sI, tz_sI, tI_sL, tL_sL, tR_sL, tN_sL, tZ_sL, tC_sL, tc_sL, tz_sL, tI_sR, tL_sR, tR_sR, tN_sR, tZ_sR, tC_sR, tc_sR, tz_sR, tI_sZ, tL_sZ, tR_sZ, tN_sZ, tZ_sZ, tC_sZ, tc_sZ, tz_sZ, tI_sC, tL_sC, tR_sC, tN_sC, tZ_sC, tC_sC, tc_sC, tz_sC, tI_aC, tL_aC, tR_aC, tN_aC, tZ_aC, tC_aC, tc_aC, tz_aC, tI_rmL, tL_rmL, tR_rmL, tN_rmL, tZ_rmL, tC_rmL, tc_rmL, tz_rmL, tI_mk, tL_mk, tR_mk, tN_mk, tZ_mk, tC_mk, tc_mk, tz_mk, tI_pushL, tL_pushL, tR_pushL, tN_pushL, tZ_pushL, tC_pushL, tc_pushL, tz_pushL, tI_pushB, tL_pushB, tR_pushB, tN_pushB, tZ_pushB, tC_pushB, tc_pushB, tz_pushB, tI_cpL, tL_cpL, tR_cpL, tN_cpL, tZ_cpL, tC_cpL, tc_cpL, tz_cpL, eq_self, true_and, and_true, false_and, and_false, if_true, if_false, reduceIte, ite_true, ite_false, not_true_eq_false, not_false_eq_true, f217, n10, frN_92 hF, frR_92_9 hF, h10, o5, frN_85 hF, frZ_85 hF, paI_enc, g1, g2, hw, d1]
    · rw [(d2 85 (by simp)).1 0 m (by simp [FqB]), tI_sI]
      by_cases e : m = 5 * K + 4
      · rw [if_pos ⟨rfl, rfl, e⟩, if_pos e]
      · rw [if_neg (fun w => e w.2.2), if_neg e]
  · rename_i w
    obtain ⟨b', d1, d2⟩ := y219_r (w := 4) h hT hp h10 hw hr
    refine ⟨b', fun z hz => ?_, d2⟩
    have f217 := f217 z hz
    rw [if_neg w] at f217
    have f219 : ∀ z, Ex 219 [aR (some (92, 0)), aI 4] (enc 2 b z) = some (.inl (some (aI 1)), enc 2 b' z) := d1
    refine (X_in (by decide +kernel) (frN_92 hF) rfl).trans ((lf_220_0 ..).trans ?_)
    simp (config := {decide := true}) only [gfI_enc, gfL_enc, gfR_enc, pfI_enc, pfL_enc, pfR_enc, Option.bind_some, cI_v, cL_v, cF_v, cD_v, cR_v, cV_v, cI_x, cL_x, cR_x, cV_x, gz_0, gz_1, acc_enc, tI_sI, tL_sI, tR_sI, tN_sI, tZ_sI, tC_sI, tc_sI, tz_sI, tI_sL, tL_sL, tR_sL, tN_sL, tZ_sL, tC_sL, tc_sL, tz_sL, tI_sR, tL_sR, tR_sR, tN_sR, tZ_sR, tC_sR, tc_sR, tz_sR, tI_sZ, tL_sZ, tR_sZ, tN_sZ, tZ_sZ, tC_sZ, tc_sZ, tz_sZ, tI_sC, tL_sC, tR_sC, tN_sC, tZ_sC, tC_sC, tc_sC, tz_sC, tI_aC, tL_aC, tR_aC, tN_aC, tZ_aC, tC_aC, tc_aC, tz_aC, tI_rmL, tL_rmL, tR_rmL, tN_rmL, tZ_rmL, tC_rmL, tc_rmL, tz_rmL, tI_mk, tL_mk, tR_mk, tN_mk, tZ_mk, tC_mk, tc_mk, tz_mk, tI_pushL, tL_pushL, tR_pushL, tN_pushL, tZ_pushL, tC_pushL, tc_pushL, tz_pushL, tI_pushB, tL_pushB, tR_pushB, tN_pushB, tZ_pushB, tC_pushB, tc_pushB, tz_pushB, tI_cpL, tL_cpL, tR_cpL, tN_cpL, tZ_cpL, tC_cpL, tc_cpL, tz_cpL, eq_self, true_and, and_true, false_and, and_false, if_true, if_false, reduceIte, ite_true, ite_false, not_true_eq_false, not_false_eq_true, f217, f219]
