/-! ===== play ===== -/
theorem rdA_f {g : Nat → Nat} {L : Nat} : ∀ k p f, p ≤ L → rdA g L k p = .inl f → f ≤ L := by
  intro k
  induction k with
  | zero => intro p f hp h; cases h
  | succ k ih =>
    intro p f hp h
    rw [rdA_s] at h
    split at h
    · split at h
      · rename_i f' e
        cases h
        exact rdC_f hp e
      · rename_i c vs q e
        obtain ⟨-, -, q2, -⟩ := rdC_b hp e
        split at h
        · rename_i f' e'
          cases h
          exact ih _ _ q2 e'
        · cases h
    · cases h
theorem EnL_s {b b' : TS} (hs : ∀ m, tI b' 85 0 m = tI b 85 0 m) : ∀ l K, EnL b K l → EnL b' K l := by
  intro l
  induction l with
  | nil => intro K h; exact trivial
  | cons e l ih =>
    intro K h
    obtain ⟨⟨h1, h2⟩, h3, h4, h5⟩ := h
    exact ⟨⟨(hs _).trans h1, fun j hj => (hs _).trans (h2 j hj)⟩, h3, h4, ih _ h5⟩
/-- what the reference keeps of a text -/
def txT (b b' : TS) : Prop := tI b' 92 0 3 = tI b 92 0 3 ∧ (∀ c, tI b' 83 0 c = tI b 83 0 c) ∧ ∀ c, tR b' 82 0 c = tR b 82 0 c
theorem txT_s {b b' : TS} (hb : sam0 txB b b') : txT b b' := ⟨(hb 92 (by simp [txB])).1 0 3, fun c => (hb 83 (by simp [txB])).1 0 c, fun c => (hb 82 (by simp [txB])).2.1 0 c⟩
theorem txT_t {b c d : TS} (h1 : txT b c) (h2 : txT c d) : txT b d := ⟨h2.1.trans h1.1, fun k => (h2.2.1 k).trans (h1.2.1 k), fun k => (h2.2.2 k).trans (h1.2.2 k)⟩
theorem play_loop {g : Nat → Nat} {L n : Nat} (hn : n ≤ 511) : ∀ k v K C p a b l (m : Int32), Core a b C → PcA a → SnA a g L → tI a 24 0 1 = Int32.ofNat p → p ≤ L → v + k = 601 → v ≤ p → rdA g L k p = .inr l → EnL b K l → tI b 92 0 10 = Int32.ofNat (K + l.length) → 4 * K ≤ p → 8 * C + (L - p) ≤ 8 * n →
    ∃ a' b' w C', (∀ z, Zk z → Ru 79 42 [(0, aR (some (96, 0))), (1, aI m), (2, aI (Int32.ofNat v))] [] (enc 1 a z) = some (.inl (some (aI w)), enc 1 (sZ a' 13 0 0) z)) ∧ (∀ z, Zk z → Ru 260 39 [(0, aR (some (97, 0))), (2, aI m), (3, aI (Int32.ofNat K))] [] (enc 2 b z) = some (.inl (some (aI w)), enc 2 (sI b' 97 0 8 0) z)) ∧ Core a' b' C' ∧ PcA a' ∧ 8 * C' ≤ 8 * n ∧ Wr a a' ∧ Wr b b' ∧ txT b b' := by
  intro k
  induction k with
  | zero =>
    intro v K C p a b l m hc hp hs h1 hpL hv hvp
    have := hs.2.2.1
    omega
  | succ k ih =>
    intro v K C p a b l m hc hpc hs h1 hpL hv hvp hr hE h10 hK hB
    have hF := r_FC hc.1.1
    have hFR := r_FR hc.1.1
    have L6 := hs.2.2.1
    have q6 : ¬ (600 : Int32) < Int32.ofNat v := by
      rw [show (600 : Int32) = Int32.ofNat 600 from rfl, o_lt (by omega) (by omega)]
      omega
    have f53 := fun z => x53 (z := z) hs hpL h1
    have n10 : ¬ (1 : Int32) = 0 := by decide
    rw [rdA_s] at hr
    by_cases e : tk g L p < L
    · rw [if_pos e] at hr
      simp only [if_pos e] at f53
      obtain ⟨-, i2⟩ := x54 hs hpL h1
      cases hrc : rdC g L p with
      | inl f => rw [hrc] at hr; cases hr
      | inr w =>
        obtain ⟨c, vs, q⟩ := w
        rw [hrc] at hr
        dsimp only at hr
        cases hra : rdA g L k q with
        | inl f => rw [hra] at hr; cases hr
        | inr l' =>
          rw [hra] at hr
          cases hr
          obtain ⟨a1, e1, e2, e3, e4, e5, e6⟩ := i2 _ _ _ hrc
          obtain ⟨c1, c2, c3, c4, c5⟩ := rdC_b hpL hrc
          obtain ⟨⟨E1, E2⟩, -, -, E5⟩ := hE
          have hc1 : Core a1 b C := Core_w hc e2 e3 (chF_r _ _ _) (Wr.rf _)
          have hpc1 : PcA a1 := PcA_c e2 (by decide) (by decide) hpc
          have hs1 := SnA_c hs e2 e3
          have hF1 := hs1.1
          have hlen : Int32.ofNat (K + ((c, vs) :: l').length) = Int32.ofNat (K + 1 + l'.length) := by
            rw [List.length_cons]
            congr 1
            omega
          rw [hlen] at h10
          have l150 : K + 1 + l'.length < 2 ^ 30 ∨ ¬ K + 1 + l'.length < 2 ^ 30 := Classical.em _
          have lb : ∀ k p l, rdA g L k p = .inr l → l.length ≤ k := by
            intro k
            induction k with
            | zero => intro p l h; cases h; exact Nat.le_refl _
            | succ k ih2 =>
              intro p l h
              rw [rdA_s] at h
              split at h
              · split at h
                · cases h
                · rename_i c vs q e
                  split at h
                  · cases h
                  · rename_i l2 e2
                    cases h
                    have := ih2 _ _ e2
                    rw [List.length_cons]
                    omega
              · cases h
                exact Nat.zero_le _
          have lb1 := lb _ _ _ hra
          have nle : ¬ Int32.ofNat (K + 1 + l'.length) ≤ Int32.ofNat K := by rw [o_le (by omega) (by omega)]; omega
          have o5 := o_50 K
          have hd := disp (K := K) (c := c) hc1 c1 (by omega) E1 (fun j hj => by
            have hj' : j < vs.length := by rw [c5]; exact hj
            rw [e6 j hj']
            exact (E2 j hj').symm) (fun w => by have := c4 w; omega)
          have hB' : 8 * (if c = 7 then C + 1 else C) + (L - q) ≤ 8 * n := by
            by_cases w : c = 7
            · have := c4 w
              rw [if_pos w]
              omega
            · rw [if_neg w]
              omega
          rcases hd with ⟨r, kk, b', r0, k0, f80, f261, hk, hcc, hw, hsm⟩ | ⟨a2, b', f80, f81, f261, hk, hcc, hw, hw', hsa, hsb⟩
          · have i85 := (hsm.1 85 (by simp [txB])).1
            have i92 := (hsm.1 92 (by simp [txB])).1
            obtain ⟨a', b2, w, C', g1, g2, g3, g4, g5, g6, g7, g8⟩ := ih (v + 1) (K + 1) C q a1 b' l' m hcc hpc1 hs1 e4 c3 (by omega) (by omega) hra (EnL_s (fun m => i85 0 m) _ _ E5) ((i92 0 10).trans h10) (by omega) (by omega)
            refine ⟨a', b2, w, C', fun z hz => ?_, fun z hz => ?_, g3, g4, g5, e3.t g6, hw.t g7, txT_t (txT_s hsm.1) g8⟩
            · have f54 := e1 z hz
              rw [lf_79_42]
              simp (config := {decide := true}) only [gfI_enc, gfL_enc, gfR_enc, pfI_enc, pfL_enc, pfR_enc, Option.bind_some, cI_v, cL_v, cF_v, cD_v, cR_v, cV_v, cI_x, cL_x, cR_x, cV_x, gz_0, gz_1, acc_enc, tI_sI, tL_sI, tR_sI, tN_sI, tZ_sI, tC_sI, tc_sI, tz_sI, tI_sL, tL_sL, tR_sL, tN_sL, tZ_sL, tC_sL, tc_sL, tz_sL, tI_sR, tL_sR, tR_sR, tN_sR, tZ_sR, tC_sR, tc_sR, tz_sR, tI_sZ, tL_sZ, tR_sZ, tN_sZ, tZ_sZ, tC_sZ, tc_sZ, tz_sZ, tI_sC, tL_sC, tR_sC, tN_sC, tZ_sC, tC_sC, tc_sC, tz_sC, tI_aC, tL_aC, tR_aC, tN_aC, tZ_aC, tC_aC, tc_aC, tz_aC, tI_rmL, tL_rmL, tR_rmL, tN_rmL, tZ_rmL, tC_rmL, tc_rmL, tz_rmL, tI_mk, tL_mk, tR_mk, tN_mk, tZ_mk, tC_mk, tc_mk, tz_mk, tI_pushL, tL_pushL, tR_pushL, tN_pushL, tZ_pushL, tC_pushL, tc_pushL, tz_pushL, tI_pushB, tL_pushB, tR_pushB, tN_pushB, tZ_pushB, tC_pushB, tc_pushB, tz_pushB, tI_cpL, tL_cpL, tR_cpL, tN_cpL, tZ_cpL, tC_cpL, tc_cpL, tz_cpL, eq_self, true_and, and_true, false_and, and_false, if_true, if_false, reduceIte, ite_true, ite_false, not_true_eq_false, not_false_eq_true, q6, fcN_96 hF, fcR_96_0 hF, f53, f54, fcN_96 hF1, fcR_96_0 hF1, fcN_24 hF1, fcR_24_3 hF1, e5, f80, r0, o_s]
              exact g1 z hz
            · have hFR' := r_FR hcc.1.1
              have z0 : m + 0 = m := Int32.add_zero _
              rw [lf_260_39]
              simp (config := {decide := true}) only [gfI_enc, gfL_enc, gfR_enc, pfI_enc, pfL_enc, pfR_enc, Option.bind_some, cI_v, cL_v, cF_v, cD_v, cR_v, cV_v, cI_x, cL_x, cR_x, cV_x, gz_0, gz_1, acc_enc, tI_sI, tL_sI, tR_sI, tN_sI, tZ_sI, tC_sI, tc_sI, tz_sI, tI_sL, tL_sL, tR_sL, tN_sL, tZ_sL, tC_sL, tc_sL, tz_sL, tI_sR, tL_sR, tR_sR, tN_sR, tZ_sR, tC_sR, tc_sR, tz_sR, tI_sZ, tL_sZ, tR_sZ, tN_sZ, tZ_sZ, tC_sZ, tc_sZ, tz_sZ, tI_sC, tL_sC, tR_sC, tN_sC, tZ_sC, tC_sC, tc_sC, tz_sC, tI_aC, tL_aC, tR_aC, tN_aC, tZ_aC, tC_aC, tc_aC, tz_aC, tI_rmL, tL_rmL, tR_rmL, tN_rmL, tZ_rmL, tC_rmL, tc_rmL, tz_rmL, tI_mk, tL_mk, tR_mk, tN_mk, tZ_mk, tC_mk, tc_mk, tz_mk, tI_pushL, tL_pushL, tR_pushL, tN_pushL, tZ_pushL, tC_pushL, tc_pushL, tz_pushL, tI_pushB, tL_pushB, tR_pushB, tN_pushB, tZ_pushB, tC_pushB, tc_pushB, tz_pushB, tI_cpL, tL_cpL, tR_cpL, tN_cpL, tZ_cpL, tC_cpL, tc_cpL, tz_cpL, eq_self, true_and, and_true, false_and, and_false, if_true, if_false, reduceIte, ite_true, ite_false, not_true_eq_false, not_false_eq_true, frN_97 hFR, frR_97_1 hFR, frN_92 hFR, h10, nle, o5, f261, frN_97 hFR', hk, k0, z0, o_s]
              exact g2 z hz
          · have i85 := (hsb.1 85 (by simp [txB])).1
            have i92 := (hsb.1 92 (by simp [txB])).1
            obtain ⟨i13, -, -, z13, -⟩ := hsa.1 13 (by simp [txA])
            obtain ⟨i24, -⟩ := hsa.1 24 (by simp [txA])
            have hF2 := r_FC hcc.1.1
            have hs2 : SnA a2 g L := ⟨hF2, (z13 0).trans hs1.2.1, L6, fun k hk => by rw [i13]; exact hs1.2.2.2 k hk⟩
            obtain ⟨a', b2, w, C', g1, g2, g3, g4, g5, g6, g7, g8⟩ := ih (v + 1) (K + 1) _ q a2 b' l' (m + 1) hcc (hsa.2 rfl hpc1) hs2 ((i24 0 1).trans e4) c3 (by omega) (by omega) hra (EnL_s (fun m => i85 0 m) _ _ E5) ((i92 0 10).trans h10) (by omega) hB'
            refine ⟨a', b2, w, C', fun z hz => ?_, fun z hz => ?_, g3, g4, g5, (e3.t hw).t g6, hw'.t g7, txT_t (txT_s hsb.1) g8⟩
            · have f54 := e1 z hz
              rw [lf_79_42]
              simp (config := {decide := true}) only [gfI_enc, gfL_enc, gfR_enc, pfI_enc, pfL_enc, pfR_enc, Option.bind_some, cI_v, cL_v, cF_v, cD_v, cR_v, cV_v, cI_x, cL_x, cR_x, cV_x, gz_0, gz_1, acc_enc, tI_sI, tL_sI, tR_sI, tN_sI, tZ_sI, tC_sI, tc_sI, tz_sI, tI_sL, tL_sL, tR_sL, tN_sL, tZ_sL, tC_sL, tc_sL, tz_sL, tI_sR, tL_sR, tR_sR, tN_sR, tZ_sR, tC_sR, tc_sR, tz_sR, tI_sZ, tL_sZ, tR_sZ, tN_sZ, tZ_sZ, tC_sZ, tc_sZ, tz_sZ, tI_sC, tL_sC, tR_sC, tN_sC, tZ_sC, tC_sC, tc_sC, tz_sC, tI_aC, tL_aC, tR_aC, tN_aC, tZ_aC, tC_aC, tc_aC, tz_aC, tI_rmL, tL_rmL, tR_rmL, tN_rmL, tZ_rmL, tC_rmL, tc_rmL, tz_rmL, tI_mk, tL_mk, tR_mk, tN_mk, tZ_mk, tC_mk, tc_mk, tz_mk, tI_pushL, tL_pushL, tR_pushL, tN_pushL, tZ_pushL, tC_pushL, tc_pushL, tz_pushL, tI_pushB, tL_pushB, tR_pushB, tN_pushB, tZ_pushB, tC_pushB, tc_pushB, tz_pushB, tI_cpL, tL_cpL, tR_cpL, tN_cpL, tZ_cpL, tC_cpL, tc_cpL, tz_cpL, eq_self, true_and, and_true, false_and, and_false, if_true, if_false, reduceIte, ite_true, ite_false, not_true_eq_false, not_false_eq_true, q6, fcN_96 hF, fcR_96_0 hF, f53, f54, fcN_96 hF1, fcR_96_0 hF1, fcN_24 hF1, fcR_24_3 hF1, e5, f80, f81, o_s]
              exact g1 z hz
            · have hFR' := r_FR hcc.1.1
              rw [lf_260_39]
              simp (config := {decide := true}) only [gfI_enc, gfL_enc, gfR_enc, pfI_enc, pfL_enc, pfR_enc, Option.bind_some, cI_v, cL_v, cF_v, cD_v, cR_v, cV_v, cI_x, cL_x, cR_x, cV_x, gz_0, gz_1, acc_enc, tI_sI, tL_sI, tR_sI, tN_sI, tZ_sI, tC_sI, tc_sI, tz_sI, tI_sL, tL_sL, tR_sL, tN_sL, tZ_sL, tC_sL, tc_sL, tz_sL, tI_sR, tL_sR, tR_sR, tN_sR, tZ_sR, tC_sR, tc_sR, tz_sR, tI_sZ, tL_sZ, tR_sZ, tN_sZ, tZ_sZ, tC_sZ, tc_sZ, tz_sZ, tI_sC, tL_sC, tR_sC, tN_sC, tZ_sC, tC_sC, tc_sC, tz_sC, tI_aC, tL_aC, tR_aC, tN_aC, tZ_aC, tC_aC, tc_aC, tz_aC, tI_rmL, tL_rmL, tR_rmL, tN_rmL, tZ_rmL, tC_rmL, tc_rmL, tz_rmL, tI_mk, tL_mk, tR_mk, tN_mk, tZ_mk, tC_mk, tc_mk, tz_mk, tI_pushL, tL_pushL, tR_pushL, tN_pushL, tZ_pushL, tC_pushL, tc_pushL, tz_pushL, tI_pushB, tL_pushB, tR_pushB, tN_pushB, tZ_pushB, tC_pushB, tc_pushB, tz_pushB, tI_cpL, tL_cpL, tR_cpL, tN_cpL, tZ_cpL, tC_cpL, tc_cpL, tz_cpL, eq_self, true_and, and_true, false_and, and_false, if_true, if_false, reduceIte, ite_true, ite_false, not_true_eq_false, not_false_eq_true, frN_97 hFR, frR_97_1 hFR, frN_92 hFR, h10, nle, o5, f261, frN_97 hFR', hk, o_s]
              exact g2 z hz
    · rw [if_neg e] at hr
      cases hr
      simp only [if_neg e] at f53
      have le : Int32.ofNat (K + 0) ≤ Int32.ofNat K := Int32.le_refl _
      have h10 : tI b 92 0 10 = Int32.ofNat (K + 0) := h10
      have f252 := fun v z => y252 (b := b) (z := z) (v := v) hFR
      refine ⟨a, b, m, C, fun z hz => ?_, fun z hz => ?_, hc, hpc, by omega, Wr.rf _, Wr.rf _, rfl, fun _ => rfl, fun _ => rfl⟩
      · rw [lf_79_42]
        simp (config := {decide := true}) only [gfI_enc, gfL_enc, gfR_enc, pfI_enc, pfL_enc, pfR_enc, Option.bind_some, cI_v, cL_v, cF_v, cD_v, cR_v, cV_v, cI_x, cL_x, cR_x, cV_x, gz_0, gz_1, acc_enc, tI_sI, tL_sI, tR_sI, tN_sI, tZ_sI, tC_sI, tc_sI, tz_sI, tI_sL, tL_sL, tR_sL, tN_sL, tZ_sL, tC_sL, tc_sL, tz_sL, tI_sR, tL_sR, tR_sR, tN_sR, tZ_sR, tC_sR, tc_sR, tz_sR, tI_sZ, tL_sZ, tR_sZ, tN_sZ, tZ_sZ, tC_sZ, tc_sZ, tz_sZ, tI_sC, tL_sC, tR_sC, tN_sC, tZ_sC, tC_sC, tc_sC, tz_sC, tI_aC, tL_aC, tR_aC, tN_aC, tZ_aC, tC_aC, tc_aC, tz_aC, tI_rmL, tL_rmL, tR_rmL, tN_rmL, tZ_rmL, tC_rmL, tc_rmL, tz_rmL, tI_mk, tL_mk, tR_mk, tN_mk, tZ_mk, tC_mk, tc_mk, tz_mk, tI_pushL, tL_pushL, tR_pushL, tN_pushL, tZ_pushL, tC_pushL, tc_pushL, tz_pushL, tI_pushB, tL_pushB, tR_pushB, tN_pushB, tZ_pushB, tC_pushB, tc_pushB, tz_pushB, tI_cpL, tL_cpL, tR_cpL, tN_cpL, tZ_cpL, tC_cpL, tc_cpL, tz_cpL, eq_self, true_and, and_true, false_and, and_false, if_true, if_false, reduceIte, ite_true, ite_false, not_true_eq_false, not_false_eq_true, q6, fcN_96 hF, fcR_96_0 hF, f53, n10, fcN_24 hF, fcR_24_0 hF, X414, fcN_13 hF]
      · rw [lf_260_39]
        simp (config := {decide := true}) only [gfI_enc, gfL_enc, gfR_enc, pfI_enc, pfL_enc, pfR_enc, Option.bind_some, cI_v, cL_v, cF_v, cD_v, cR_v, cV_v, cI_x, cL_x, cR_x, cV_x, gz_0, gz_1, acc_enc, tI_sI, tL_sI, tR_sI, tN_sI, tZ_sI, tC_sI, tc_sI, tz_sI, tI_sL, tL_sL, tR_sL, tN_sL, tZ_sL, tC_sL, tc_sL, tz_sL, tI_sR, tL_sR, tR_sR, tN_sR, tZ_sR, tC_sR, tc_sR, tz_sR, tI_sZ, tL_sZ, tR_sZ, tN_sZ, tZ_sZ, tC_sZ, tc_sZ, tz_sZ, tI_sC, tL_sC, tR_sC, tN_sC, tZ_sC, tC_sC, tc_sC, tz_sC, tI_aC, tL_aC, tR_aC, tN_aC, tZ_aC, tC_aC, tc_aC, tz_aC, tI_rmL, tL_rmL, tR_rmL, tN_rmL, tZ_rmL, tC_rmL, tc_rmL, tz_rmL, tI_mk, tL_mk, tR_mk, tN_mk, tZ_mk, tC_mk, tc_mk, tz_mk, tI_pushL, tL_pushL, tR_pushL, tN_pushL, tZ_pushL, tC_pushL, tc_pushL, tz_pushL, tI_pushB, tL_pushB, tR_pushB, tN_pushB, tZ_pushB, tC_pushB, tc_pushB, tz_pushB, tI_cpL, tL_cpL, tR_cpL, tN_cpL, tZ_cpL, tC_cpL, tc_cpL, tz_cpL, eq_self, true_and, and_true, false_and, and_false, if_true, if_false, reduceIte, ite_true, ite_false, not_true_eq_false, not_false_eq_true, frN_97 hFR, frR_97_1 hFR, frN_92 hFR, h10, le, f252]
theorem chF_z13 {a : TS} : chF [13] [] a (sZ a 13 0 0) := fun s hs => by
  have e : ¬ s = 13 := fun q => hs (by simp [q])
  exact ⟨fun _ _ _ => rfl, fun _ _ _ => rfl, fun _ _ => rfl, rfl, fun i => by rw [tZ_sZ, if_neg (fun w => e w.1)], fun _ => rfl⟩
theorem z13_w {a : TS} : Wr a (sZ a 13 0 0) := (Wr.rf _).cZ 13 0 (Or.inr (by decide +kernel))
theorem z13_v {a : TS} : tZ (sZ a 13 0 0) 13 0 = 0 := by rw [tZ_sZ, if_pos ⟨rfl, rfl⟩]
theorem Tx_z {a b b' : TS} (h : Tx a b) : Tx (sZ a 13 0 0) b' := by
  obtain ⟨-, -, h3, -⟩ := h
  unfold Tx
  rw [z13_v]
  exact ⟨Nat.zero_le _, Nat.zero_le _, h3, fun k hk => absurd hk (Nat.not_lt_zero k)⟩
theorem chF_923 {b : TS} {v : Int32} : chF [84] [(92, 3)] b (sI b 92 0 3 v) := fun s hs => by
  exact ⟨fun i k q => by rw [tI_sI, if_neg (fun w => q (by simp [w.1, w.2.2]))], fun i k _ => rfl, fun i k => rfl, rfl, fun i => rfl, fun i => rfl⟩
/-- the text is played -/
theorem t_play {a b : TS} {n : Nat} (hn : n ≤ 511) (h : IvH a b n) : PubT aI 79 [aR (some (96, 0))] 260 [aR (some (97, 0))] k2 a b n := by
  obtain ⟨C, hc, hp, ht, hB⟩ := h
  obtain ⟨sa, sb⟩ := Sn_AB hc ht
  obtain ⟨a', e1, e2, e3⟩ := x52 sa
  obtain ⟨b', d1, d2, d3, d4⟩ := y222 sb
  have hc1 := Core_w hc e2 e3 d2 d3
  have hp1 : PcA a' := PcA_c e2 (by decide) (by decide) hp
  have ht1 := Tw_w ht e2 d2
  have hF := r_FC hc.1.1
  have hFR := r_FR hc.1.1
  have hF' := r_FC hc1.1.1
  have hFR' := r_FR hc1.1.1
  have n10 : ¬ (1 : Int32) = 0 := by decide
  have c3 : chF [84] [(92, 3)] b' (sI b' 92 0 3 0) := chF_923
  have w3 : Wr b' (sI b' 92 0 3 0) := (Wr.rf _).cI _ _ _ _
  have hFR3 : FxR (sI b' 92 0 3 0) := FxR_s hFR' w3 c3 (by decide)
  have v3 : tI (sI b' 92 0 3 0) 92 0 3 = 0 := by rw [tI_sI, if_pos ⟨rfl, rfl, rfl⟩]
  have tb3 : ∀ c, c < 16 → tI (sI b' 92 0 3 0) 83 0 c = Int32.ofNat (nN c) ∧ tR (sI b' 92 0 3 0) 82 0 c = some (0, 10 + (c + 1)) := fun c hc => by
    rw [tI_sI, if_neg (fun w => absurd w.1 (by decide)), tR_sI]
    exact ht1.2 c hc
  cases hr : rdA (gOf a) (tZ a 13 0) 601 0 with
  | inl f =>
    have fL := rdA_f _ _ _ (Nat.zero_le _) hr
    have t1 := hc.2.2.1
    have ev1 : ffV (rdA (gOf a) (tZ a 13 0) 601 0) = Int32.ofNat f := by rw [hr]; rfl
    have m1 : ¬ Int32.ofNat f = -1 := o_m1 (by omega)
    rw [ev1] at e1 d1
    have f251 := fun v z => y251 (b := sI b' 92 0 3 0) (z := z) (v := v) hFR3
    have hc2 : Core (sZ a' 13 0 0) (sI b' 92 0 3 0) C := Core_ty hc1 chF_z13 z13_w c3 w3 (Tx_z hc1.2.2)
    have ct : chF [] FtH (sI b' 92 0 3 0) (sI (sI b' 92 0 3 0) 97 0 8 1) := th_c
    have htw : Tw (sZ a' 13 0 0) (sI b' 92 0 3 0) := ⟨by rw [v3, z13_v]; rfl, tb3⟩
    refine Or.inl ⟨2, 0, sZ a' 13 0 0, sI (sI b' 92 0 3 0) 97 0 8 1, by decide, by decide, by decide, fun z hz => ?_, fun z hz => ?_, th_v, ⟨C, Core_th hc2 ct th_w, PcA_c (chF_z13 (a := a')) (by decide) (by decide) hp1, Tw_th htw ct, by rw [z13_v]; omega⟩, e3.t z13_w, (d3.t w3).t th_w⟩
    · refine (X_in (by decide +kernel) (fcN_96 hF) rfl).trans ((lf_79_0 ..).trans ?_)
      simp (config := {decide := true}) only [gfI_enc, gfL_enc, gfR_enc, pfI_enc, pfL_enc, pfR_enc, Option.bind_some, cI_v, cL_v, cF_v, cD_v, cR_v, cV_v, cI_x, cL_x, cR_x, cV_x, gz_0, gz_1, acc_enc, tI_sI, tL_sI, tR_sI, tN_sI, tZ_sI, tC_sI, tc_sI, tz_sI, tI_sL, tL_sL, tR_sL, tN_sL, tZ_sL, tC_sL, tc_sL, tz_sL, tI_sR, tL_sR, tR_sR, tN_sR, tZ_sR, tC_sR, tc_sR, tz_sR, tI_sZ, tL_sZ, tR_sZ, tN_sZ, tZ_sZ, tC_sZ, tc_sZ, tz_sZ, tI_sC, tL_sC, tR_sC, tN_sC, tZ_sC, tC_sC, tc_sC, tz_sC, tI_aC, tL_aC, tR_aC, tN_aC, tZ_aC, tC_aC, tc_aC, tz_aC, tI_rmL, tL_rmL, tR_rmL, tN_rmL, tZ_rmL, tC_rmL, tc_rmL, tz_rmL, tI_mk, tL_mk, tR_mk, tN_mk, tZ_mk, tC_mk, tc_mk, tz_mk, tI_pushL, tL_pushL, tR_pushL, tN_pushL, tZ_pushL, tC_pushL, tc_pushL, tz_pushL, tI_pushB, tL_pushB, tR_pushB, tN_pushB, tZ_pushB, tC_pushB, tc_pushB, tz_pushB, tI_cpL, tL_cpL, tR_cpL, tN_cpL, tZ_cpL, tC_cpL, tc_cpL, tz_cpL, eq_self, true_and, and_true, false_and, and_false, if_true, if_false, reduceIte, ite_true, ite_false, not_true_eq_false, not_false_eq_true, fcN_96 hF, fcR_96_0 hF, e1 z hz, m1, fcN_96 hF', fcR_96_0 hF', fcN_24 hF', fcR_24_0 hF', X414, fcN_13 hF', hC_enc]
      rfl
    · refine (X_in (by decide +kernel) (frN_97 hFR) rfl).trans ((lf_260_0 ..).trans ?_)
      simp (config := {decide := true}) only [gfI_enc, gfL_enc, gfR_enc, pfI_enc, pfL_enc, pfR_enc, Option.bind_some, cI_v, cL_v, cF_v, cD_v, cR_v, cV_v, cI_x, cL_x, cR_x, cV_x, gz_0, gz_1, acc_enc, tI_sI, tL_sI, tR_sI, tN_sI, tZ_sI, tC_sI, tc_sI, tz_sI, tI_sL, tL_sL, tR_sL, tN_sL, tZ_sL, tC_sL, tc_sL, tz_sL, tI_sR, tL_sR, tR_sR, tN_sR, tZ_sR, tC_sR, tc_sR, tz_sR, tI_sZ, tL_sZ, tR_sZ, tN_sZ, tZ_sZ, tC_sZ, tc_sZ, tz_sZ, tI_sC, tL_sC, tR_sC, tN_sC, tZ_sC, tC_sC, tc_sC, tz_sC, tI_aC, tL_aC, tR_aC, tN_aC, tZ_aC, tC_aC, tc_aC, tz_aC, tI_rmL, tL_rmL, tR_rmL, tN_rmL, tZ_rmL, tC_rmL, tc_rmL, tz_rmL, tI_mk, tL_mk, tR_mk, tN_mk, tZ_mk, tC_mk, tc_mk, tz_mk, tI_pushL, tL_pushL, tR_pushL, tN_pushL, tZ_pushL, tC_pushL, tc_pushL, tz_pushL, tI_pushB, tL_pushB, tR_pushB, tN_pushB, tZ_pushB, tC_pushB, tc_pushB, tz_pushB, tI_cpL, tL_cpL, tR_cpL, tN_cpL, tZ_cpL, tC_cpL, tc_cpL, tz_cpL, eq_self, true_and, and_true, false_and, and_false, if_true, if_false, reduceIte, ite_true, ite_false, not_true_eq_false, not_false_eq_true, frN_97 hFR, frR_97_1 hFR, d1 z hz, m1, frN_97 hFR', frR_97_1 hFR', frN_92 hFR', f251]
  | inr l =>
    have ev1 : ffV (rdA (gOf a) (tZ a 13 0) 601 0) = -1 := by rw [hr]; rfl
    rw [ev1] at e1 d1
    obtain ⟨g10, gE⟩ := d4 _ hr
    have ca1 : chF [] FsA a' (sI a' 24 0 1 0) := chF_24 (chF_r _ _ _) 1 _ (Or.inl rfl)
    have wa1 : Wr a' (sI a' 24 0 1 0) := (Wr.rf _).cI _ _ _ _
    have hc2 : Core (sI a' 24 0 1 0) b' C := Core_w hc1 ca1 wa1 (chF_r _ _ _) (Wr.rf _)
    have hc3 : Core (sI a' 24 0 1 0) (sI b' 92 0 3 0) C := Core_ty hc2 (chF_r _ _ _) (Wr.rf _) c3 w3 (by
      have := hc2.2.2
      unfold Tx at *
      refine ⟨this.1, this.2.1, this.2.2.1, fun k hk => ?_⟩
      rw [tI_sI b', if_neg (fun w => absurd w.1 (by decide))]
      exact this.2.2.2 k hk)
    have hs : SnA (sI a' 24 0 1 0) (gOf a) (tZ a 13 0) := SnA_c (SnA_c sa e2 e3) ca1 wa1
    have h24 : tI (sI a' 24 0 1 0) 24 0 1 = Int32.ofNat 0 := by rw [tI_sI, if_pos ⟨rfl, rfl, rfl⟩]; rfl
    have g10' : tI (sI b' 92 0 3 0) 92 0 10 = Int32.ofNat (0 + l.length) := by
      rw [tI_sI, if_neg (fun w => absurd w.2.2 (by decide)), Nat.zero_add]
      exact g10
    have gE' : EnL (sI b' 92 0 3 0) 0 l := EnL_s (fun m => by rw [tI_sI, if_neg (fun w => absurd w.1 (by decide))]) _ _ gE
    obtain ⟨a2, b2, w, C', p1, p2, p3, p4, p5, p6, p7, p8⟩ := play_loop hn 601 0 0 C 0 (sI a' 24 0 1 0) (sI b' 92 0 3 0) l 0 hc3 (PcA_c ca1 (by decide) (by decide) hp1) hs h24 (Nat.zero_le _) (by omega) (Nat.le_refl _) hr gE' g10' (by omega) (by omega)
    have hc4 : Core (sZ a2 13 0 0) b2 C' := Core_ty p3 chF_z13 z13_w (chF_r _ _ _) (Wr.rf _) (Tx_z p3.2.2)
    have htw : Tw (sZ a2 13 0 0) b2 := ⟨by rw [p8.1, v3, z13_v]; rfl, fun c hc => by rw [p8.2.1, p8.2.2]; exact tb3 c hc⟩
    have ct : chF [] FtH b2 (sI b2 97 0 8 0) := th_c
    refine Or.inr ⟨w, sZ a2 13 0 0, sI b2 97 0 8 0, fun z hz => ?_, fun z hz => ?_, th_v, ⟨C', Core_th hc4 ct th_w, PcA_c (chF_z13 (a := a2)) (by decide) (by decide) p4, Tw_th htw ct, by rw [z13_v]; omega⟩, ((e3.t wa1).t p6).t z13_w, ((d3.t w3).t p7).t th_w⟩
    · refine (X_in (by decide +kernel) (fcN_96 hF) rfl).trans ((lf_79_0 ..).trans ?_)
      simp (config := {decide := true}) only [gfI_enc, gfL_enc, gfR_enc, pfI_enc, pfL_enc, pfR_enc, Option.bind_some, cI_v, cL_v, cF_v, cD_v, cR_v, cV_v, cI_x, cL_x, cR_x, cV_x, gz_0, gz_1, acc_enc, tI_sI, tL_sI, tR_sI, tN_sI, tZ_sI, tC_sI, tc_sI, tz_sI, tI_sL, tL_sL, tR_sL, tN_sL, tZ_sL, tC_sL, tc_sL, tz_sL, tI_sR, tL_sR, tR_sR, tN_sR, tZ_sR, tC_sR, tc_sR, tz_sR, tI_sZ, tL_sZ, tR_sZ, tN_sZ, tZ_sZ, tC_sZ, tc_sZ, tz_sZ, tI_sC, tL_sC, tR_sC, tN_sC, tZ_sC, tC_sC, tc_sC, tz_sC, tI_aC, tL_aC, tR_aC, tN_aC, tZ_aC, tC_aC, tc_aC, tz_aC, tI_rmL, tL_rmL, tR_rmL, tN_rmL, tZ_rmL, tC_rmL, tc_rmL, tz_rmL, tI_mk, tL_mk, tR_mk, tN_mk, tZ_mk, tC_mk, tc_mk, tz_mk, tI_pushL, tL_pushL, tR_pushL, tN_pushL, tZ_pushL, tC_pushL, tc_pushL, tz_pushL, tI_pushB, tL_pushB, tR_pushB, tN_pushB, tZ_pushB, tC_pushB, tc_pushB, tz_pushB, tI_cpL, tL_cpL, tR_cpL, tN_cpL, tZ_cpL, tC_cpL, tc_cpL, tz_cpL, eq_self, true_and, and_true, false_and, and_false, if_true, if_false, reduceIte, ite_true, ite_false, not_true_eq_false, not_false_eq_true, fcN_96 hF, fcR_96_0 hF, e1 z hz, fcN_96 hF', fcR_96_0 hF', fcN_24 hF']
      exact p1 z hz
    · refine (X_in (by decide +kernel) (frN_97 hFR) rfl).trans ((lf_260_0 ..).trans ?_)
      simp (config := {decide := true}) only [gfI_enc, gfL_enc, gfR_enc, pfI_enc, pfL_enc, pfR_enc, Option.bind_some, cI_v, cL_v, cF_v, cD_v, cR_v, cV_v, cI_x, cL_x, cR_x, cV_x, gz_0, gz_1, acc_enc, tI_sI, tL_sI, tR_sI, tN_sI, tZ_sI, tC_sI, tc_sI, tz_sI, tI_sL, tL_sL, tR_sL, tN_sL, tZ_sL, tC_sL, tc_sL, tz_sL, tI_sR, tL_sR, tR_sR, tN_sR, tZ_sR, tC_sR, tc_sR, tz_sR, tI_sZ, tL_sZ, tR_sZ, tN_sZ, tZ_sZ, tC_sZ, tc_sZ, tz_sZ, tI_sC, tL_sC, tR_sC, tN_sC, tZ_sC, tC_sC, tc_sC, tz_sC, tI_aC, tL_aC, tR_aC, tN_aC, tZ_aC, tC_aC, tc_aC, tz_aC, tI_rmL, tL_rmL, tR_rmL, tN_rmL, tZ_rmL, tC_rmL, tc_rmL, tz_rmL, tI_mk, tL_mk, tR_mk, tN_mk, tZ_mk, tC_mk, tc_mk, tz_mk, tI_pushL, tL_pushL, tR_pushL, tN_pushL, tZ_pushL, tC_pushL, tc_pushL, tz_pushL, tI_pushB, tL_pushB, tR_pushB, tN_pushB, tZ_pushB, tC_pushB, tc_pushB, tz_pushB, tI_cpL, tL_cpL, tR_cpL, tN_cpL, tZ_cpL, tC_cpL, tc_cpL, tz_cpL, eq_self, true_and, and_true, false_and, and_false, if_true, if_false, reduceIte, ite_true, ite_false, not_true_eq_false, not_false_eq_true, frN_97 hFR, frR_97_1 hFR, d1 z hz, frN_97 hFR', frR_97_1 hFR', frN_92 hFR', n10]
      exact p2 z hz
