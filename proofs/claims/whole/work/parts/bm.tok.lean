/-! ===== the reference's tokens ===== -/
def FsB : List (Nat × Nat) := [(92, 4), (92, 5), (92, 6), (92, 7), (92, 8), (92, 10)]
def SnB (b : TS) (g : Nat → Nat) (L : Nat) : Prop := FxR b ∧ L ≤ 600 ∧ tI b 92 0 3 = Int32.ofNat L ∧ (∀ k, k < L → tI b 84 0 k = Int32.ofNat (g k) ∧ 32 ≤ g k ∧ g k ≤ 126) ∧ ∀ c, c < 16 → tI b 83 0 c = Int32.ofNat (nN c) ∧ tR b 82 0 c = some (0, 10 + (c + 1))
theorem SnB_c {b b' : TS} {g : Nat → Nat} {L : Nat} (h : SnB b g L) (hb : chF [85] FsB b b') (wb : Wr b b') : SnB b' g L := by
  obtain ⟨hF, hL6, hL, hg, ht⟩ := h
  refine ⟨FxR_s hF wb hb (by decide), hL6, ?_, fun k hk => ?_, fun c hc => ?_⟩
  · rw [(hb 92 (by simp)).1 0 3 (by decide)]; exact hL
  · rw [(hb 84 (by simp)).1 0 k (by simp [FsB])]; exact hg k hk
  · rw [(hb 83 (by simp)).1 0 c (by simp [FsB]), (hb 82 (by simp)).2.2.1]; exact ht c hc
theorem chF_92 {b b' : TS} (h : chF [85] FsB b b') (f : Nat) (v : Int32) (hf : f = 4 ∨ f = 5 ∨ f = 6 ∨ f = 7 ∨ f = 8 ∨ f = 10) : chF [85] FsB b (sI b' 92 0 f v) := fun s hs => by
  obtain ⟨c1, c2, c3, c4, c5, c6⟩ := h s hs
  refine ⟨fun i k q => ?_, c2, c3, c4, c5, c6⟩
  rw [tI_sI, if_neg (fun w => q (by obtain ⟨w1, -, w3⟩ := w; subst w1 w3; rcases hf with e | e | e | e | e | e <;> subst e <;> simp [FsB]))]
  exact c1 i k q
def FqB : List (Nat × Nat) := [(92, 4), (92, 5), (92, 6), (92, 7)]
theorem q2s {b b' : TS} (h : chF [] FqB b b') : chF [85] FsB b b' := chF_m h (fun s hs => by cases hs) (fun q hq => Or.inl (by
  unfold FqB at hq
  unfold FsB
  simp only [List.mem_cons, List.not_mem_nil, or_false] at hq ⊢
  rcases hq with e | e | e | e <;> simp [e]))
theorem chF_92q {b b' : TS} (h : chF [] FqB b b') (f : Nat) (v : Int32) (hf : f = 4 ∨ f = 5 ∨ f = 6 ∨ f = 7) : chF [] FqB b (sI b' 92 0 f v) := fun s hs => by
  obtain ⟨c1, c2, c3, c4, c5, c6⟩ := h s hs
  refine ⟨fun i k q => ?_, c2, c3, c4, c5, c6⟩
  rw [tI_sI, if_neg (fun w => q (by obtain ⟨w1, -, w3⟩ := w; subst w1 w3; rcases hf with e | e | e | e <;> subst e <;> simp [FqB]))]
  exact c1 i k q
/-- one sign more of a token -/
def adv (b : TS) (v : Int32) (i : Nat) : TS := sI (sI b 92 0 7 v) 92 0 4 (Int32.ofNat i)
theorem adv_c {b : TS} {v : Int32} {i : Nat} : chF [] FqB b (adv b v i) ∧ Wr b (adv b v i) ∧ tI (adv b v i) 92 0 4 = Int32.ofNat i ∧ tI (adv b v i) 92 0 7 = v ∧ (∀ f, f ≠ 4 → f ≠ 7 → tI (adv b v i) 92 0 f = tI b 92 0 f) := by
  refine ⟨chF_92q (chF_92q (chF_r _ _ _) 7 _ (by omega)) 4 _ (by omega), ((Wr.rf _).cI _ _ _ _).cI _ _ _ _, ?_, ?_, fun f h4 h7 => ?_⟩ <;> unfold adv
  · rw [tI_sI, if_pos ⟨rfl, rfl, rfl⟩]
  · rw [tI_sI, if_neg (fun w => absurd w.2.2 (by decide)), tI_sI, if_pos ⟨rfl, rfl, rfl⟩]
  · rw [tI_sI, if_neg (fun w => h4 w.2.2), tI_sI, if_neg (fun w => h7 w.2.2)]
theorem ne_48 {n : Nat} (h : n < 200) : (Int32.ofNat n < 48 ↔ n < 48) ∧ ((57 : Int32) < Int32.ofNat n ↔ 57 < n) ∧ (Int32.ofNat n ≤ 57 ↔ n ≤ 57) ∧ (Int32.ofNat n < 97 ↔ n < 97) ∧ ((122 : Int32) < Int32.ofNat n ↔ 122 < n) ∧ (Int32.ofNat n ≤ 122 ↔ n ≤ 122) ∧ (Int32.ofNat n = 59 ↔ n = 59) ∧ (Int32.ofNat n = 32 ↔ n = 32) := by
  refine ⟨o_lt (by omega) (by decide), o_lt (by decide) (by omega), o_le (by omega) (by decide), o_lt (by omega) (by decide), o_lt (by decide) (by omega), o_le (by omega) (by decide), o_beq (by omega) (by decide), o_beq (by omega) (by decide)⟩
/-- a word's signs -/
theorem y216_W {g : Nat → Nat} {L : Nat} : ∀ n i b, SnB b g L → i + n + 1 = L → tI b 92 0 4 = Int32.ofNat i → ∃ b', (∀ z, Ru 216 145 [(0, aR (some (92, 0))), (2, aI 1), (3, aI 0)] [] (enc 2 b z) = some (.inl none, enc 2 b' z)) ∧ chF [] FqB b b' ∧ Wr b b' ∧ tI b' 92 0 4 = Int32.ofNat (eW g L (i + 1)) ∧ tI b' 92 0 5 = tI b 92 0 5 ∧ tI b' 92 0 6 = tI b 92 0 6 := by
  intro n
  induction n with
  | zero =>
    intro i b h hi h4
    obtain ⟨c1, c2, c3, c4, c5⟩ := adv_c (b := b) (v := tI b 92 0 7) (i := i + 1)
    have hF := h.1
    have L6 := h.2.1
    have hL := h.2.2.1
    have e1 : Int32.ofNat L ≤ Int32.ofNat (i + 1) := by rw [o_le (by omega) (by omega)]; omega
    have e2 : eW g L (i + 1) = i + 1 := rE_out (fun w => by omega)
    have cb5 : chF [] FqB b (sI (adv b (tI b 92 0 7) (i + 1)) 92 0 5 (tI b 92 0 5)) := chF_92q c1 5 _ (by omega)
    refine ⟨sI (adv b (tI b 92 0 7) (i + 1)) 92 0 5 (tI b 92 0 5), fun z => ?_, cb5, c2.cI _ _ _ _, ?_, ?_, ?_⟩
    · rw [lf_216_145, if_pos rfl, lf_216_187]
      simp (config := {decide := true}) only [gfI_enc, gfL_enc, gfR_enc, pfI_enc, pfL_enc, pfR_enc, Option.bind_some, cI_v, cL_v, cF_v, cD_v, cR_v, cV_v, cI_x, cL_x, cR_x, cV_x, gz_0, gz_1, acc_enc, tI_sI, tL_sI, tR_sI, tN_sI, tZ_sI, tC_sI, tc_sI, tz_sI, tI_sL, tL_sL, tR_sL, tN_sL, tZ_sL, tC_sL, tc_sL, tz_sL, tI_sR, tL_sR, tR_sR, tN_sR, tZ_sR, tC_sR, tc_sR, tz_sR, tI_sZ, tL_sZ, tR_sZ, tN_sZ, tZ_sZ, tC_sZ, tc_sZ, tz_sZ, tI_sC, tL_sC, tR_sC, tN_sC, tZ_sC, tC_sC, tc_sC, tz_sC, tI_aC, tL_aC, tR_aC, tN_aC, tZ_aC, tC_aC, tc_aC, tz_aC, tI_rmL, tL_rmL, tR_rmL, tN_rmL, tZ_rmL, tC_rmL, tc_rmL, tz_rmL, tI_mk, tL_mk, tR_mk, tN_mk, tZ_mk, tC_mk, tc_mk, tz_mk, tI_pushL, tL_pushL, tR_pushL, tN_pushL, tZ_pushL, tC_pushL, tc_pushL, tz_pushL, tI_pushB, tL_pushB, tR_pushB, tN_pushB, tZ_pushB, tC_pushB, tc_pushB, tz_pushB, tI_cpL, tL_cpL, tR_cpL, tN_cpL, tZ_cpL, tC_cpL, tc_cpL, tz_cpL, eq_self, true_and, and_true, false_and, and_false, if_true, if_false, reduceIte, ite_true, ite_false, not_true_eq_false, not_false_eq_true, frN_92 hF]
      rw [lf_216_191]
      simp (config := {decide := true}) only [gfI_enc, gfL_enc, gfR_enc, pfI_enc, pfL_enc, pfR_enc, Option.bind_some, cI_v, cL_v, cF_v, cD_v, cR_v, cV_v, cI_x, cL_x, cR_x, cV_x, gz_0, gz_1, acc_enc, tI_sI, tL_sI, tR_sI, tN_sI, tZ_sI, tC_sI, tc_sI, tz_sI, tI_sL, tL_sL, tR_sL, tN_sL, tZ_sL, tC_sL, tc_sL, tz_sL, tI_sR, tL_sR, tR_sR, tN_sR, tZ_sR, tC_sR, tc_sR, tz_sR, tI_sZ, tL_sZ, tR_sZ, tN_sZ, tZ_sZ, tC_sZ, tc_sZ, tz_sZ, tI_sC, tL_sC, tR_sC, tN_sC, tZ_sC, tC_sC, tc_sC, tz_sC, tI_aC, tL_aC, tR_aC, tN_aC, tZ_aC, tC_aC, tc_aC, tz_aC, tI_rmL, tL_rmL, tR_rmL, tN_rmL, tZ_rmL, tC_rmL, tc_rmL, tz_rmL, tI_mk, tL_mk, tR_mk, tN_mk, tZ_mk, tC_mk, tc_mk, tz_mk, tI_pushL, tL_pushL, tR_pushL, tN_pushL, tZ_pushL, tC_pushL, tc_pushL, tz_pushL, tI_pushB, tL_pushB, tR_pushB, tN_pushB, tZ_pushB, tC_pushB, tc_pushB, tz_pushB, tI_cpL, tL_cpL, tR_cpL, tN_cpL, tZ_cpL, tC_cpL, tc_cpL, tz_cpL, eq_self, true_and, and_true, false_and, and_false, if_true, if_false, reduceIte, ite_true, ite_false, not_true_eq_false, not_false_eq_true, frN_92 hF, h4, o_s, hL, e1]
      rw [lf_216_279, if_pos rfl, lf_216_302]
      simp (config := {decide := true}) only [gfI_enc, gfL_enc, gfR_enc, pfI_enc, pfL_enc, pfR_enc, Option.bind_some, cI_v, cL_v, cF_v, cD_v, cR_v, cV_v, cI_x, cL_x, cR_x, cV_x, gz_0, gz_1, acc_enc, tI_sI, tL_sI, tR_sI, tN_sI, tZ_sI, tC_sI, tc_sI, tz_sI, tI_sL, tL_sL, tR_sL, tN_sL, tZ_sL, tC_sL, tc_sL, tz_sL, tI_sR, tL_sR, tR_sR, tN_sR, tZ_sR, tC_sR, tc_sR, tz_sR, tI_sZ, tL_sZ, tR_sZ, tN_sZ, tZ_sZ, tC_sZ, tc_sZ, tz_sZ, tI_sC, tL_sC, tR_sC, tN_sC, tZ_sC, tC_sC, tc_sC, tz_sC, tI_aC, tL_aC, tR_aC, tN_aC, tZ_aC, tC_aC, tc_aC, tz_aC, tI_rmL, tL_rmL, tR_rmL, tN_rmL, tZ_rmL, tC_rmL, tc_rmL, tz_rmL, tI_mk, tL_mk, tR_mk, tN_mk, tZ_mk, tC_mk, tc_mk, tz_mk, tI_pushL, tL_pushL, tR_pushL, tN_pushL, tZ_pushL, tC_pushL, tc_pushL, tz_pushL, tI_pushB, tL_pushB, tR_pushB, tN_pushB, tZ_pushB, tC_pushB, tc_pushB, tz_pushB, tI_cpL, tL_cpL, tR_cpL, tN_cpL, tZ_cpL, tC_cpL, tc_cpL, tz_cpL, eq_self, true_and, and_true, false_and, and_false, if_true, if_false, reduceIte, ite_true, ite_false, not_true_eq_false, not_false_eq_true, frN_92 hF]
      rfl
    · rw [tI_sI, if_neg (fun w => absurd w.2.2 (by decide)), c3, e2]
    · rw [tI_sI, if_pos ⟨rfl, rfl, rfl⟩]
    · rw [tI_sI, if_neg (fun w => absurd w.2.2 (by decide)), c5 6 (by decide) (by decide)]
  | succ n ih =>
    intro i b h hi h4
    obtain ⟨c1, c2, c3, c4, c5⟩ := adv_c (b := b) (v := tI b 92 0 7) (i := i + 1)
    have hF := h.1
    have L6 := h.2.1
    have hL := h.2.2.1
    have h' := SnB_c h (q2s c1) c2
    have hF' := h'.1
    have e1 : ¬ Int32.ofNat L ≤ Int32.ofNat (i + 1) := by rw [o_le (by omega) (by omega)]; omega
    obtain ⟨v, v1, v2⟩ := h.2.2.2.1 (i + 1) (by omega)
    obtain ⟨-, -, -, k4, -, k6, -⟩ := ne_48 (n := g (i + 1)) (by omega)
    have g1 : (Int32.ofNat (i + 1)).toNatClampNeg = i + 1 := o_ix (by omega)
    have g2 : ¬ Int32.ofNat (i + 1) < 0 := o_lt0 (by omega)
    have g3 : i + 1 < 600 := by omega
    have n10 : ¬ (1 : Int32) = 0 := by decide
    by_cases w : 97 ≤ g (i + 1) ∧ g (i + 1) ≤ 122
    · have e2 : eW g L (i + 1) = eW g L (i + 1 + 1) := rE_in ⟨by omega, w⟩
      have w1 : ¬ Int32.ofNat (g (i + 1)) < 97 := fun q => by have := k4.mp q; omega
      have w2 : Int32.ofNat (g (i + 1)) ≤ 122 := k6.mpr w.2
      obtain ⟨b', d1, d2, d3, d4, d5, d6⟩ := ih (i + 1) _ h' (by omega) c3
      refine ⟨b', fun z => ?_, chF_t c1 d2, c2.t d3, by rw [d4, e2], by rw [d5, c5 5 (by decide) (by decide)], by rw [d6, c5 6 (by decide) (by decide)]⟩
      rw [lf_216_145, if_pos rfl, lf_216_187]
      simp (config := {decide := true}) only [gfI_enc, gfL_enc, gfR_enc, pfI_enc, pfL_enc, pfR_enc, Option.bind_some, cI_v, cL_v, cF_v, cD_v, cR_v, cV_v, cI_x, cL_x, cR_x, cV_x, gz_0, gz_1, acc_enc, tI_sI, tL_sI, tR_sI, tN_sI, tZ_sI, tC_sI, tc_sI, tz_sI, tI_sL, tL_sL, tR_sL, tN_sL, tZ_sL, tC_sL, tc_sL, tz_sL, tI_sR, tL_sR, tR_sR, tN_sR, tZ_sR, tC_sR, tc_sR, tz_sR, tI_sZ, tL_sZ, tR_sZ, tN_sZ, tZ_sZ, tC_sZ, tc_sZ, tz_sZ, tI_sC, tL_sC, tR_sC, tN_sC, tZ_sC, tC_sC, tc_sC, tz_sC, tI_aC, tL_aC, tR_aC, tN_aC, tZ_aC, tC_aC, tc_aC, tz_aC, tI_rmL, tL_rmL, tR_rmL, tN_rmL, tZ_rmL, tC_rmL, tc_rmL, tz_rmL, tI_mk, tL_mk, tR_mk, tN_mk, tZ_mk, tC_mk, tc_mk, tz_mk, tI_pushL, tL_pushL, tR_pushL, tN_pushL, tZ_pushL, tC_pushL, tc_pushL, tz_pushL, tI_pushB, tL_pushB, tR_pushB, tN_pushB, tZ_pushB, tC_pushB, tc_pushB, tz_pushB, tI_cpL, tL_cpL, tR_cpL, tN_cpL, tZ_cpL, tC_cpL, tc_cpL, tz_cpL, eq_self, true_and, and_true, false_and, and_false, if_true, if_false, reduceIte, ite_true, ite_false, not_true_eq_false, not_false_eq_true, frN_92 hF]
      rw [lf_216_191]
      simp (config := {decide := true}) only [gfI_enc, gfL_enc, gfR_enc, pfI_enc, pfL_enc, pfR_enc, Option.bind_some, cI_v, cL_v, cF_v, cD_v, cR_v, cV_v, cI_x, cL_x, cR_x, cV_x, gz_0, gz_1, acc_enc, tI_sI, tL_sI, tR_sI, tN_sI, tZ_sI, tC_sI, tc_sI, tz_sI, tI_sL, tL_sL, tR_sL, tN_sL, tZ_sL, tC_sL, tc_sL, tz_sL, tI_sR, tL_sR, tR_sR, tN_sR, tZ_sR, tC_sR, tc_sR, tz_sR, tI_sZ, tL_sZ, tR_sZ, tN_sZ, tZ_sZ, tC_sZ, tc_sZ, tz_sZ, tI_sC, tL_sC, tR_sC, tN_sC, tZ_sC, tC_sC, tc_sC, tz_sC, tI_aC, tL_aC, tR_aC, tN_aC, tZ_aC, tC_aC, tc_aC, tz_aC, tI_rmL, tL_rmL, tR_rmL, tN_rmL, tZ_rmL, tC_rmL, tc_rmL, tz_rmL, tI_mk, tL_mk, tR_mk, tN_mk, tZ_mk, tC_mk, tc_mk, tz_mk, tI_pushL, tL_pushL, tR_pushL, tN_pushL, tZ_pushL, tC_pushL, tc_pushL, tz_pushL, tI_pushB, tL_pushB, tR_pushB, tN_pushB, tZ_pushB, tC_pushB, tc_pushB, tz_pushB, tI_cpL, tL_cpL, tR_cpL, tN_cpL, tZ_cpL, tC_cpL, tc_cpL, tz_cpL, eq_self, true_and, and_true, false_and, and_false, if_true, if_false, reduceIte, ite_true, ite_false, not_true_eq_false, not_false_eq_true, frN_92 hF, h4, o_s, hL, e1, n10, frR_92_2 hF, frN_84 hF, frZ_84 hF, gaI_enc, g1, g2, g3, v, w1, w2]
      exact d1 z
    · have e2 : eW g L (i + 1) = i + 1 := rE_out (fun q => w q.2)
      have cb5 : chF [] FqB b (sI (adv b (tI b 92 0 7) (i + 1)) 92 0 5 (tI b 92 0 5)) := chF_92q c1 5 _ (by omega)
      refine ⟨sI (adv b (tI b 92 0 7) (i + 1)) 92 0 5 (tI b 92 0 5), fun z => ?_, cb5, c2.cI _ _ _ _, ?_, ?_, ?_⟩
      · rw [lf_216_145, if_pos rfl, lf_216_187]
        simp (config := {decide := true}) only [gfI_enc, gfL_enc, gfR_enc, pfI_enc, pfL_enc, pfR_enc, Option.bind_some, cI_v, cL_v, cF_v, cD_v, cR_v, cV_v, cI_x, cL_x, cR_x, cV_x, gz_0, gz_1, acc_enc, tI_sI, tL_sI, tR_sI, tN_sI, tZ_sI, tC_sI, tc_sI, tz_sI, tI_sL, tL_sL, tR_sL, tN_sL, tZ_sL, tC_sL, tc_sL, tz_sL, tI_sR, tL_sR, tR_sR, tN_sR, tZ_sR, tC_sR, tc_sR, tz_sR, tI_sZ, tL_sZ, tR_sZ, tN_sZ, tZ_sZ, tC_sZ, tc_sZ, tz_sZ, tI_sC, tL_sC, tR_sC, tN_sC, tZ_sC, tC_sC, tc_sC, tz_sC, tI_aC, tL_aC, tR_aC, tN_aC, tZ_aC, tC_aC, tc_aC, tz_aC, tI_rmL, tL_rmL, tR_rmL, tN_rmL, tZ_rmL, tC_rmL, tc_rmL, tz_rmL, tI_mk, tL_mk, tR_mk, tN_mk, tZ_mk, tC_mk, tc_mk, tz_mk, tI_pushL, tL_pushL, tR_pushL, tN_pushL, tZ_pushL, tC_pushL, tc_pushL, tz_pushL, tI_pushB, tL_pushB, tR_pushB, tN_pushB, tZ_pushB, tC_pushB, tc_pushB, tz_pushB, tI_cpL, tL_cpL, tR_cpL, tN_cpL, tZ_cpL, tC_cpL, tc_cpL, tz_cpL, eq_self, true_and, and_true, false_and, and_false, if_true, if_false, reduceIte, ite_true, ite_false, not_true_eq_false, not_false_eq_true, frN_92 hF]
        rw [lf_216_191]
        by_cases w1 : Int32.ofNat (g (i + 1)) < 97
        · simp (config := {decide := true}) only [gfI_enc, gfL_enc, gfR_enc, pfI_enc, pfL_enc, pfR_enc, Option.bind_some, cI_v, cL_v, cF_v, cD_v, cR_v, cV_v, cI_x, cL_x, cR_x, cV_x, gz_0, gz_1, acc_enc, tI_sI, tL_sI, tR_sI, tN_sI, tZ_sI, tC_sI, tc_sI, tz_sI, tI_sL, tL_sL, tR_sL, tN_sL, tZ_sL, tC_sL, tc_sL, tz_sL, tI_sR, tL_sR, tR_sR, tN_sR, tZ_sR, tC_sR, tc_sR, tz_sR, tI_sZ, tL_sZ, tR_sZ, tN_sZ, tZ_sZ, tC_sZ, tc_sZ, tz_sZ, tI_sC, tL_sC, tR_sC, tN_sC, tZ_sC, tC_sC, tc_sC, tz_sC, tI_aC, tL_aC, tR_aC, tN_aC, tZ_aC, tC_aC, tc_aC, tz_aC, tI_rmL, tL_rmL, tR_rmL, tN_rmL, tZ_rmL, tC_rmL, tc_rmL, tz_rmL, tI_mk, tL_mk, tR_mk, tN_mk, tZ_mk, tC_mk, tc_mk, tz_mk, tI_pushL, tL_pushL, tR_pushL, tN_pushL, tZ_pushL, tC_pushL, tc_pushL, tz_pushL, tI_pushB, tL_pushB, tR_pushB, tN_pushB, tZ_pushB, tC_pushB, tc_pushB, tz_pushB, tI_cpL, tL_cpL, tR_cpL, tN_cpL, tZ_cpL, tC_cpL, tc_cpL, tz_cpL, eq_self, true_and, and_true, false_and, and_false, if_true, if_false, reduceIte, ite_true, ite_false, not_true_eq_false, not_false_eq_true, frN_92 hF, h4, o_s, hL, e1, n10, frR_92_2 hF, frN_84 hF, frZ_84 hF, gaI_enc, g1, g2, g3, v, w1]
          rw [lf_216_279, if_pos rfl, lf_216_302]
          simp (config := {decide := true}) only [gfI_enc, gfL_enc, gfR_enc, pfI_enc, pfL_enc, pfR_enc, Option.bind_some, cI_v, cL_v, cF_v, cD_v, cR_v, cV_v, cI_x, cL_x, cR_x, cV_x, gz_0, gz_1, acc_enc, tI_sI, tL_sI, tR_sI, tN_sI, tZ_sI, tC_sI, tc_sI, tz_sI, tI_sL, tL_sL, tR_sL, tN_sL, tZ_sL, tC_sL, tc_sL, tz_sL, tI_sR, tL_sR, tR_sR, tN_sR, tZ_sR, tC_sR, tc_sR, tz_sR, tI_sZ, tL_sZ, tR_sZ, tN_sZ, tZ_sZ, tC_sZ, tc_sZ, tz_sZ, tI_sC, tL_sC, tR_sC, tN_sC, tZ_sC, tC_sC, tc_sC, tz_sC, tI_aC, tL_aC, tR_aC, tN_aC, tZ_aC, tC_aC, tc_aC, tz_aC, tI_rmL, tL_rmL, tR_rmL, tN_rmL, tZ_rmL, tC_rmL, tc_rmL, tz_rmL, tI_mk, tL_mk, tR_mk, tN_mk, tZ_mk, tC_mk, tc_mk, tz_mk, tI_pushL, tL_pushL, tR_pushL, tN_pushL, tZ_pushL, tC_pushL, tc_pushL, tz_pushL, tI_pushB, tL_pushB, tR_pushB, tN_pushB, tZ_pushB, tC_pushB, tc_pushB, tz_pushB, tI_cpL, tL_cpL, tR_cpL, tN_cpL, tZ_cpL, tC_cpL, tc_cpL, tz_cpL, eq_self, true_and, and_true, false_and, and_false, if_true, if_false, reduceIte, ite_true, ite_false, not_true_eq_false, not_false_eq_true, frN_92 hF]
          rfl
        · have w2 : ¬ Int32.ofNat (g (i + 1)) ≤ 122 := fun q => w ⟨by
            have : ¬ g (i + 1) < 97 := fun q2 => w1 (k4.mpr q2)
            omega, k6.mp q⟩
          simp (config := {decide := true}) only [gfI_enc, gfL_enc, gfR_enc, pfI_enc, pfL_enc, pfR_enc, Option.bind_some, cI_v, cL_v, cF_v, cD_v, cR_v, cV_v, cI_x, cL_x, cR_x, cV_x, gz_0, gz_1, acc_enc, tI_sI, tL_sI, tR_sI, tN_sI, tZ_sI, tC_sI, tc_sI, tz_sI, tI_sL, tL_sL, tR_sL, tN_sL, tZ_sL, tC_sL, tc_sL, tz_sL, tI_sR, tL_sR, tR_sR, tN_sR, tZ_sR, tC_sR, tc_sR, tz_sR, tI_sZ, tL_sZ, tR_sZ, tN_sZ, tZ_sZ, tC_sZ, tc_sZ, tz_sZ, tI_sC, tL_sC, tR_sC, tN_sC, tZ_sC, tC_sC, tc_sC, tz_sC, tI_aC, tL_aC, tR_aC, tN_aC, tZ_aC, tC_aC, tc_aC, tz_aC, tI_rmL, tL_rmL, tR_rmL, tN_rmL, tZ_rmL, tC_rmL, tc_rmL, tz_rmL, tI_mk, tL_mk, tR_mk, tN_mk, tZ_mk, tC_mk, tc_mk, tz_mk, tI_pushL, tL_pushL, tR_pushL, tN_pushL, tZ_pushL, tC_pushL, tc_pushL, tz_pushL, tI_pushB, tL_pushB, tR_pushB, tN_pushB, tZ_pushB, tC_pushB, tc_pushB, tz_pushB, tI_cpL, tL_cpL, tR_cpL, tN_cpL, tZ_cpL, tC_cpL, tc_cpL, tz_cpL, eq_self, true_and, and_true, false_and, and_false, if_true, if_false, reduceIte, ite_true, ite_false, not_true_eq_false, not_false_eq_true, frN_92 hF, h4, o_s, hL, e1, n10, frR_92_2 hF, frN_84 hF, frZ_84 hF, gaI_enc, g1, g2, g3, v, w1, w2]
          rw [lf_216_279, if_pos rfl, lf_216_302]
          simp (config := {decide := true}) only [gfI_enc, gfL_enc, gfR_enc, pfI_enc, pfL_enc, pfR_enc, Option.bind_some, cI_v, cL_v, cF_v, cD_v, cR_v, cV_v, cI_x, cL_x, cR_x, cV_x, gz_0, gz_1, acc_enc, tI_sI, tL_sI, tR_sI, tN_sI, tZ_sI, tC_sI, tc_sI, tz_sI, tI_sL, tL_sL, tR_sL, tN_sL, tZ_sL, tC_sL, tc_sL, tz_sL, tI_sR, tL_sR, tR_sR, tN_sR, tZ_sR, tC_sR, tc_sR, tz_sR, tI_sZ, tL_sZ, tR_sZ, tN_sZ, tZ_sZ, tC_sZ, tc_sZ, tz_sZ, tI_sC, tL_sC, tR_sC, tN_sC, tZ_sC, tC_sC, tc_sC, tz_sC, tI_aC, tL_aC, tR_aC, tN_aC, tZ_aC, tC_aC, tc_aC, tz_aC, tI_rmL, tL_rmL, tR_rmL, tN_rmL, tZ_rmL, tC_rmL, tc_rmL, tz_rmL, tI_mk, tL_mk, tR_mk, tN_mk, tZ_mk, tC_mk, tc_mk, tz_mk, tI_pushL, tL_pushL, tR_pushL, tN_pushL, tZ_pushL, tC_pushL, tc_pushL, tz_pushL, tI_pushB, tL_pushB, tR_pushB, tN_pushB, tZ_pushB, tC_pushB, tc_pushB, tz_pushB, tI_cpL, tL_cpL, tR_cpL, tN_cpL, tZ_cpL, tC_cpL, tc_cpL, tz_cpL, eq_self, true_and, and_true, false_and, and_false, if_true, if_false, reduceIte, ite_true, ite_false, not_true_eq_false, not_false_eq_true, frN_92 hF]
          rfl
      · rw [tI_sI, if_neg (fun w => absurd w.2.2 (by decide)), c3, e2]
      · rw [tI_sI, if_pos ⟨rfl, rfl, rfl⟩]
      · rw [tI_sI, if_neg (fun w => absurd w.2.2 (by decide)), c5 6 (by decide) (by decide)]
/-- a number's end -/
theorem y216_E {b : TS} {z : Hp} {g : Nat → Nat} {L s e : Nat} (h : SnB b g L) (hse : s ≤ e) (he : e ≤ L) (h4 : tI b 92 0 4 = Int32.ofNat e) (h6 : tI b 92 0 6 = Int32.ofNat s) : Ru 216 279 [(0, aR (some (92, 0))), (3, aI 1)] [] (enc 2 b z) = some (.inl none, enc 2 (sI b 92 0 5 (if e - s ≤ 7 then tI b 92 0 5 else 4)) z) := by
  have hF := h.1
  have L6 := h.2.1
  have e3 : Int32.ofNat e - Int32.ofNat s = Int32.ofNat (e - s) := o_sb hse
  have n10 : ¬ (1 : Int32) = 0 := by decide
  by_cases w : e - s ≤ 7
  · have w1 : Int32.ofNat (e - s) ≤ 7 := by
      rw [show (7 : Int32) = Int32.ofNat 7 from rfl, o_le (by omega) (by omega)]
      exact w
    rw [lf_216_279]
    simp (config := {decide := true}) only [gfI_enc, gfL_enc, gfR_enc, pfI_enc, pfL_enc, pfR_enc, Option.bind_some, cI_v, cL_v, cF_v, cD_v, cR_v, cV_v, cI_x, cL_x, cR_x, cV_x, gz_0, gz_1, acc_enc, tI_sI, tL_sI, tR_sI, tN_sI, tZ_sI, tC_sI, tc_sI, tz_sI, tI_sL, tL_sL, tR_sL, tN_sL, tZ_sL, tC_sL, tc_sL, tz_sL, tI_sR, tL_sR, tR_sR, tN_sR, tZ_sR, tC_sR, tc_sR, tz_sR, tI_sZ, tL_sZ, tR_sZ, tN_sZ, tZ_sZ, tC_sZ, tc_sZ, tz_sZ, tI_sC, tL_sC, tR_sC, tN_sC, tZ_sC, tC_sC, tc_sC, tz_sC, tI_aC, tL_aC, tR_aC, tN_aC, tZ_aC, tC_aC, tc_aC, tz_aC, tI_rmL, tL_rmL, tR_rmL, tN_rmL, tZ_rmL, tC_rmL, tc_rmL, tz_rmL, tI_mk, tL_mk, tR_mk, tN_mk, tZ_mk, tC_mk, tc_mk, tz_mk, tI_pushL, tL_pushL, tR_pushL, tN_pushL, tZ_pushL, tC_pushL, tc_pushL, tz_pushL, tI_pushB, tL_pushB, tR_pushB, tN_pushB, tZ_pushB, tC_pushB, tc_pushB, tz_pushB, tI_cpL, tL_cpL, tR_cpL, tN_cpL, tZ_cpL, tC_cpL, tc_cpL, tz_cpL, eq_self, true_and, and_true, false_and, and_false, if_true, if_false, reduceIte, ite_true, ite_false, not_true_eq_false, not_false_eq_true, n10, frN_92 hF, h4, h6, e3, w1, w]
    rw [lf_216_302]
    simp (config := {decide := true}) only [gfI_enc, gfL_enc, gfR_enc, pfI_enc, pfL_enc, pfR_enc, Option.bind_some, cI_v, cL_v, cF_v, cD_v, cR_v, cV_v, cI_x, cL_x, cR_x, cV_x, gz_0, gz_1, acc_enc, tI_sI, tL_sI, tR_sI, tN_sI, tZ_sI, tC_sI, tc_sI, tz_sI, tI_sL, tL_sL, tR_sL, tN_sL, tZ_sL, tC_sL, tc_sL, tz_sL, tI_sR, tL_sR, tR_sR, tN_sR, tZ_sR, tC_sR, tc_sR, tz_sR, tI_sZ, tL_sZ, tR_sZ, tN_sZ, tZ_sZ, tC_sZ, tc_sZ, tz_sZ, tI_sC, tL_sC, tR_sC, tN_sC, tZ_sC, tC_sC, tc_sC, tz_sC, tI_aC, tL_aC, tR_aC, tN_aC, tZ_aC, tC_aC, tc_aC, tz_aC, tI_rmL, tL_rmL, tR_rmL, tN_rmL, tZ_rmL, tC_rmL, tc_rmL, tz_rmL, tI_mk, tL_mk, tR_mk, tN_mk, tZ_mk, tC_mk, tc_mk, tz_mk, tI_pushL, tL_pushL, tR_pushL, tN_pushL, tZ_pushL, tC_pushL, tc_pushL, tz_pushL, tI_pushB, tL_pushB, tR_pushB, tN_pushB, tZ_pushB, tC_pushB, tc_pushB, tz_pushB, tI_cpL, tL_cpL, tR_cpL, tN_cpL, tZ_cpL, tC_cpL, tc_cpL, tz_cpL, eq_self, true_and, and_true, false_and, and_false, if_true, if_false, reduceIte, ite_true, ite_false, not_true_eq_false, not_false_eq_true, frN_92 hF]
  · have w1 : ¬ Int32.ofNat (e - s) ≤ 7 := by
      rw [show (7 : Int32) = Int32.ofNat 7 from rfl, o_le (by omega) (by omega)]
      exact w
    rw [lf_216_279]
    simp (config := {decide := true}) only [gfI_enc, gfL_enc, gfR_enc, pfI_enc, pfL_enc, pfR_enc, Option.bind_some, cI_v, cL_v, cF_v, cD_v, cR_v, cV_v, cI_x, cL_x, cR_x, cV_x, gz_0, gz_1, acc_enc, tI_sI, tL_sI, tR_sI, tN_sI, tZ_sI, tC_sI, tc_sI, tz_sI, tI_sL, tL_sL, tR_sL, tN_sL, tZ_sL, tC_sL, tc_sL, tz_sL, tI_sR, tL_sR, tR_sR, tN_sR, tZ_sR, tC_sR, tc_sR, tz_sR, tI_sZ, tL_sZ, tR_sZ, tN_sZ, tZ_sZ, tC_sZ, tc_sZ, tz_sZ, tI_sC, tL_sC, tR_sC, tN_sC, tZ_sC, tC_sC, tc_sC, tz_sC, tI_aC, tL_aC, tR_aC, tN_aC, tZ_aC, tC_aC, tc_aC, tz_aC, tI_rmL, tL_rmL, tR_rmL, tN_rmL, tZ_rmL, tC_rmL, tc_rmL, tz_rmL, tI_mk, tL_mk, tR_mk, tN_mk, tZ_mk, tC_mk, tc_mk, tz_mk, tI_pushL, tL_pushL, tR_pushL, tN_pushL, tZ_pushL, tC_pushL, tc_pushL, tz_pushL, tI_pushB, tL_pushB, tR_pushB, tN_pushB, tZ_pushB, tC_pushB, tc_pushB, tz_pushB, tI_cpL, tL_cpL, tR_cpL, tN_cpL, tZ_cpL, tC_cpL, tc_cpL, tz_cpL, eq_self, true_and, and_true, false_and, and_false, if_true, if_false, reduceIte, ite_true, ite_false, not_true_eq_false, not_false_eq_true, n10, frN_92 hF, h4, h6, e3, w1, w]
/-- a number's signs -/
theorem y216_D {g : Nat → Nat} {L s : Nat} : ∀ n i b, SnB b g L → i + n + 1 = L → s ≤ i → tI b 92 0 4 = Int32.ofNat i → tI b 92 0 6 = Int32.ofNat s → tI b 92 0 7 = nv g s (min (i - s) 7) → ∃ b', (∀ z, Ru 216 145 [(0, aR (some (92, 0))), (2, aI 0), (3, aI 1)] [] (enc 2 b z) = some (.inl none, enc 2 b' z)) ∧ chF [] FqB b b' ∧ Wr b b' ∧ tI b' 92 0 4 = Int32.ofNat (eD g L (i + 1)) ∧ tI b' 92 0 5 = (if eD g L (i + 1) - s ≤ 7 then tI b 92 0 5 else 4) ∧ tI b' 92 0 6 = tI b 92 0 6 ∧ tI b' 92 0 7 = nv g s (min (eD g L (i + 1) - s) 7) := by
  intro n
  induction n with
  | zero =>
    intro i b h hi hs h4 h6 h7
    have hF := h.1
    have L6 := h.2.1
    obtain ⟨c1, c2, c3, c4, c5⟩ := adv_c (b := b) (v := nv g s (min (i + 1 - s) 7)) (i := i + 1)
    have h' := SnB_c h (q2s c1) c2
    have hL := h.2.2.1
    have e1 : Int32.ofNat L ≤ Int32.ofNat (i + 1) := by rw [o_le (by omega) (by omega)]; omega
    have e2 : eD g L (i + 1) = i + 1 := rE_out (fun w => by omega)
    have hE := fun z => y216_E (z := z) (s := s) (e := i + 1) h' (by omega) (by omega) c3 ((c5 6 (by decide) (by decide)).trans h6)
    refine ⟨sI (adv b (nv g s (min (i + 1 - s) 7)) (i + 1)) 92 0 5 (if i + 1 - s ≤ 7 then tI (adv b (nv g s (min (i + 1 - s) 7)) (i + 1)) 92 0 5 else 4), fun z => ?_, chF_92q c1 5 _ (by omega), c2.cI _ _ _ _, ?_, ?_, ?_, ?_⟩
    · refine Eq.trans ?_ (hE z)
      obtain ⟨v, -⟩ := h.2.2.2.1 i (by omega)
      have g1 : (Int32.ofNat i).toNatClampNeg = i := o_ix (by omega)
      have g2 : ¬ Int32.ofNat i < 0 := o_lt0 (by omega)
      have g3 : i < 600 := by omega
      have n10 : ¬ (1 : Int32) = 0 := by decide
      have e3 : Int32.ofNat i - Int32.ofNat s = Int32.ofNat (i - s) := o_sb hs
      by_cases w : 7 ≤ i - s
      · have w1 : (7 : Int32) ≤ Int32.ofNat (i - s) := by
          rw [show (7 : Int32) = Int32.ofNat 7 from rfl, o_le (by omega) (by omega)]
          exact w
        have m1 : min (i + 1 - s) 7 = min (i - s) 7 := by omega
        rw [m1]
        rw [lf_216_145]
        simp (config := {decide := true}) only [gfI_enc, gfL_enc, gfR_enc, pfI_enc, pfL_enc, pfR_enc, Option.bind_some, cI_v, cL_v, cF_v, cD_v, cR_v, cV_v, cI_x, cL_x, cR_x, cV_x, gz_0, gz_1, acc_enc, tI_sI, tL_sI, tR_sI, tN_sI, tZ_sI, tC_sI, tc_sI, tz_sI, tI_sL, tL_sL, tR_sL, tN_sL, tZ_sL, tC_sL, tc_sL, tz_sL, tI_sR, tL_sR, tR_sR, tN_sR, tZ_sR, tC_sR, tc_sR, tz_sR, tI_sZ, tL_sZ, tR_sZ, tN_sZ, tZ_sZ, tC_sZ, tc_sZ, tz_sZ, tI_sC, tL_sC, tR_sC, tN_sC, tZ_sC, tC_sC, tc_sC, tz_sC, tI_aC, tL_aC, tR_aC, tN_aC, tZ_aC, tC_aC, tc_aC, tz_aC, tI_rmL, tL_rmL, tR_rmL, tN_rmL, tZ_rmL, tC_rmL, tc_rmL, tz_rmL, tI_mk, tL_mk, tR_mk, tN_mk, tZ_mk, tC_mk, tc_mk, tz_mk, tI_pushL, tL_pushL, tR_pushL, tN_pushL, tZ_pushL, tC_pushL, tc_pushL, tz_pushL, tI_pushB, tL_pushB, tR_pushB, tN_pushB, tZ_pushB, tC_pushB, tc_pushB, tz_pushB, tI_cpL, tL_cpL, tR_cpL, tN_cpL, tZ_cpL, tC_cpL, tc_cpL, tz_cpL, eq_self, true_and, and_true, false_and, and_false, if_true, if_false, reduceIte, ite_true, ite_false, not_true_eq_false, not_false_eq_true, n10, frN_92 hF, h4, h6, e3, w1]
        rw [lf_216_187]
        simp (config := {decide := true}) only [gfI_enc, gfL_enc, gfR_enc, pfI_enc, pfL_enc, pfR_enc, Option.bind_some, cI_v, cL_v, cF_v, cD_v, cR_v, cV_v, cI_x, cL_x, cR_x, cV_x, gz_0, gz_1, acc_enc, tI_sI, tL_sI, tR_sI, tN_sI, tZ_sI, tC_sI, tc_sI, tz_sI, tI_sL, tL_sL, tR_sL, tN_sL, tZ_sL, tC_sL, tc_sL, tz_sL, tI_sR, tL_sR, tR_sR, tN_sR, tZ_sR, tC_sR, tc_sR, tz_sR, tI_sZ, tL_sZ, tR_sZ, tN_sZ, tZ_sZ, tC_sZ, tc_sZ, tz_sZ, tI_sC, tL_sC, tR_sC, tN_sC, tZ_sC, tC_sC, tc_sC, tz_sC, tI_aC, tL_aC, tR_aC, tN_aC, tZ_aC, tC_aC, tc_aC, tz_aC, tI_rmL, tL_rmL, tR_rmL, tN_rmL, tZ_rmL, tC_rmL, tc_rmL, tz_rmL, tI_mk, tL_mk, tR_mk, tN_mk, tZ_mk, tC_mk, tc_mk, tz_mk, tI_pushL, tL_pushL, tR_pushL, tN_pushL, tZ_pushL, tC_pushL, tc_pushL, tz_pushL, tI_pushB, tL_pushB, tR_pushB, tN_pushB, tZ_pushB, tC_pushB, tc_pushB, tz_pushB, tI_cpL, tL_cpL, tR_cpL, tN_cpL, tZ_cpL, tC_cpL, tc_cpL, tz_cpL, eq_self, true_and, and_true, false_and, and_false, if_true, if_false, reduceIte, ite_true, ite_false, not_true_eq_false, not_false_eq_true, frN_92 hF, h7]
        rw [lf_216_191]
        simp (config := {decide := true}) only [gfI_enc, gfL_enc, gfR_enc, pfI_enc, pfL_enc, pfR_enc, Option.bind_some, cI_v, cL_v, cF_v, cD_v, cR_v, cV_v, cI_x, cL_x, cR_x, cV_x, gz_0, gz_1, acc_enc, tI_sI, tL_sI, tR_sI, tN_sI, tZ_sI, tC_sI, tc_sI, tz_sI, tI_sL, tL_sL, tR_sL, tN_sL, tZ_sL, tC_sL, tc_sL, tz_sL, tI_sR, tL_sR, tR_sR, tN_sR, tZ_sR, tC_sR, tc_sR, tz_sR, tI_sZ, tL_sZ, tR_sZ, tN_sZ, tZ_sZ, tC_sZ, tc_sZ, tz_sZ, tI_sC, tL_sC, tR_sC, tN_sC, tZ_sC, tC_sC, tc_sC, tz_sC, tI_aC, tL_aC, tR_aC, tN_aC, tZ_aC, tC_aC, tc_aC, tz_aC, tI_rmL, tL_rmL, tR_rmL, tN_rmL, tZ_rmL, tC_rmL, tc_rmL, tz_rmL, tI_mk, tL_mk, tR_mk, tN_mk, tZ_mk, tC_mk, tc_mk, tz_mk, tI_pushL, tL_pushL, tR_pushL, tN_pushL, tZ_pushL, tC_pushL, tc_pushL, tz_pushL, tI_pushB, tL_pushB, tR_pushB, tN_pushB, tZ_pushB, tC_pushB, tc_pushB, tz_pushB, tI_cpL, tL_cpL, tR_cpL, tN_cpL, tZ_cpL, tC_cpL, tc_cpL, tz_cpL, eq_self, true_and, and_true, false_and, and_false, if_true, if_false, reduceIte, ite_true, ite_false, not_true_eq_false, not_false_eq_true, frN_92 hF, h4, o_s, hL, e1]
        rfl
      · have w1 : ¬ (7 : Int32) ≤ Int32.ofNat (i - s) := by
          rw [show (7 : Int32) = Int32.ofNat 7 from rfl, o_le (by omega) (by omega)]
          exact w
        have m1 : nv g s (min (i + 1 - s) 7) = (10 : Int32) * nv g s (min (i - s) 7) + Int32.ofNat (g i) - 48 := by
          rw [show min (i + 1 - s) 7 = (i - s) + 1 by omega, nv_s, show min (i - s) 7 = i - s by omega, show s + (i - s) = i by omega, Int32.mul_comm]
        rw [m1]
        rw [lf_216_145]
        simp (config := {decide := true}) only [gfI_enc, gfL_enc, gfR_enc, pfI_enc, pfL_enc, pfR_enc, Option.bind_some, cI_v, cL_v, cF_v, cD_v, cR_v, cV_v, cI_x, cL_x, cR_x, cV_x, gz_0, gz_1, acc_enc, tI_sI, tL_sI, tR_sI, tN_sI, tZ_sI, tC_sI, tc_sI, tz_sI, tI_sL, tL_sL, tR_sL, tN_sL, tZ_sL, tC_sL, tc_sL, tz_sL, tI_sR, tL_sR, tR_sR, tN_sR, tZ_sR, tC_sR, tc_sR, tz_sR, tI_sZ, tL_sZ, tR_sZ, tN_sZ, tZ_sZ, tC_sZ, tc_sZ, tz_sZ, tI_sC, tL_sC, tR_sC, tN_sC, tZ_sC, tC_sC, tc_sC, tz_sC, tI_aC, tL_aC, tR_aC, tN_aC, tZ_aC, tC_aC, tc_aC, tz_aC, tI_rmL, tL_rmL, tR_rmL, tN_rmL, tZ_rmL, tC_rmL, tc_rmL, tz_rmL, tI_mk, tL_mk, tR_mk, tN_mk, tZ_mk, tC_mk, tc_mk, tz_mk, tI_pushL, tL_pushL, tR_pushL, tN_pushL, tZ_pushL, tC_pushL, tc_pushL, tz_pushL, tI_pushB, tL_pushB, tR_pushB, tN_pushB, tZ_pushB, tC_pushB, tc_pushB, tz_pushB, tI_cpL, tL_cpL, tR_cpL, tN_cpL, tZ_cpL, tC_cpL, tc_cpL, tz_cpL, eq_self, true_and, and_true, false_and, and_false, if_true, if_false, reduceIte, ite_true, ite_false, not_true_eq_false, not_false_eq_true, n10, frN_92 hF, h4, h6, e3, w1, h7, frR_92_2 hF, frN_84 hF, frZ_84 hF, gaI_enc, g1, g2, g3, v]
        rw [lf_216_191]
        simp (config := {decide := true}) only [gfI_enc, gfL_enc, gfR_enc, pfI_enc, pfL_enc, pfR_enc, Option.bind_some, cI_v, cL_v, cF_v, cD_v, cR_v, cV_v, cI_x, cL_x, cR_x, cV_x, gz_0, gz_1, acc_enc, tI_sI, tL_sI, tR_sI, tN_sI, tZ_sI, tC_sI, tc_sI, tz_sI, tI_sL, tL_sL, tR_sL, tN_sL, tZ_sL, tC_sL, tc_sL, tz_sL, tI_sR, tL_sR, tR_sR, tN_sR, tZ_sR, tC_sR, tc_sR, tz_sR, tI_sZ, tL_sZ, tR_sZ, tN_sZ, tZ_sZ, tC_sZ, tc_sZ, tz_sZ, tI_sC, tL_sC, tR_sC, tN_sC, tZ_sC, tC_sC, tc_sC, tz_sC, tI_aC, tL_aC, tR_aC, tN_aC, tZ_aC, tC_aC, tc_aC, tz_aC, tI_rmL, tL_rmL, tR_rmL, tN_rmL, tZ_rmL, tC_rmL, tc_rmL, tz_rmL, tI_mk, tL_mk, tR_mk, tN_mk, tZ_mk, tC_mk, tc_mk, tz_mk, tI_pushL, tL_pushL, tR_pushL, tN_pushL, tZ_pushL, tC_pushL, tc_pushL, tz_pushL, tI_pushB, tL_pushB, tR_pushB, tN_pushB, tZ_pushB, tC_pushB, tc_pushB, tz_pushB, tI_cpL, tL_cpL, tR_cpL, tN_cpL, tZ_cpL, tC_cpL, tc_cpL, tz_cpL, eq_self, true_and, and_true, false_and, and_false, if_true, if_false, reduceIte, ite_true, ite_false, not_true_eq_false, not_false_eq_true, frN_92 hF, h4, o_s, hL, e1]
        rfl
    · rw [tI_sI, if_neg (fun w => absurd w.2.2 (by decide)), c3, e2]
    · rw [tI_sI, if_pos ⟨rfl, rfl, rfl⟩, e2, c5 5 (by decide) (by decide)]
    · rw [tI_sI, if_neg (fun w => absurd w.2.2 (by decide)), c5 6 (by decide) (by decide)]
    · rw [tI_sI, if_neg (fun w => absurd w.2.2 (by decide)), c4, e2]
  | succ n ih =>
    intro i b h hi hs h4 h6 h7
    have hF := h.1
    have L6 := h.2.1
    obtain ⟨c1, c2, c3, c4, c5⟩ := adv_c (b := b) (v := nv g s (min (i + 1 - s) 7)) (i := i + 1)
    have h' := SnB_c h (q2s c1) c2
    have hF' := h'.1
    have hL := h.2.2.1
    have hL' := h'.2.2.1
    have e1 : ¬ Int32.ofNat L ≤ Int32.ofNat (i + 1) := by rw [o_le (by omega) (by omega)]; omega
    obtain ⟨v, -⟩ := h.2.2.2.1 i (by omega)
    obtain ⟨v', v1, v2⟩ := h.2.2.2.1 (i + 1) (by omega)
    obtain ⟨k1, -, k3, -⟩ := ne_48 (n := g (i + 1)) (by omega)
    have g1 : (Int32.ofNat i).toNatClampNeg = i := o_ix (by omega)
    have g2 : ¬ Int32.ofNat i < 0 := o_lt0 (by omega)
    have g3 : i < 600 := by omega
    have g1' : (Int32.ofNat (i + 1)).toNatClampNeg = i + 1 := o_ix (by omega)
    have g2' : ¬ Int32.ofNat (i + 1) < 0 := o_lt0 (by omega)
    have g3' : i + 1 < 600 := by omega
    have n10 : ¬ (1 : Int32) = 0 := by decide
    have e3 : Int32.ofNat i - Int32.ofNat s = Int32.ofNat (i - s) := o_sb hs
    -- the first half: the sign is taken
    have st : ∀ z, Ru 216 145 [(0, aR (some (92, 0))), (2, aI 0), (3, aI 1)] [] (enc 2 b z) = (if Int32.ofNat (g (i + 1)) < 48 then Ru 216 279 [(0, aR (some (92, 0))), (3, aI 1)] [] (enc 2 (adv b (nv g s (min (i + 1 - s) 7)) (i + 1)) z) else if Int32.ofNat (g (i + 1)) ≤ 57 then Ru 216 145 [(0, aR (some (92, 0))), (2, aI 0), (3, aI 1)] [] (enc 2 (adv b (nv g s (min (i + 1 - s) 7)) (i + 1)) z) else Ru 216 279 [(0, aR (some (92, 0))), (3, aI 1)] [] (enc 2 (adv b (nv g s (min (i + 1 - s) 7)) (i + 1)) z)) := fun z => by
      by_cases w : 7 ≤ i - s
      · have w1 : (7 : Int32) ≤ Int32.ofNat (i - s) := by
          rw [show (7 : Int32) = Int32.ofNat 7 from rfl, o_le (by omega) (by omega)]
          exact w
        have m1 : min (i + 1 - s) 7 = min (i - s) 7 := by omega
        rw [m1]
        conv => lhs; rw [lf_216_145]
        simp (config := {decide := true}) only [gfI_enc, gfL_enc, gfR_enc, pfI_enc, pfL_enc, pfR_enc, Option.bind_some, cI_v, cL_v, cF_v, cD_v, cR_v, cV_v, cI_x, cL_x, cR_x, cV_x, gz_0, gz_1, acc_enc, tI_sI, tL_sI, tR_sI, tN_sI, tZ_sI, tC_sI, tc_sI, tz_sI, tI_sL, tL_sL, tR_sL, tN_sL, tZ_sL, tC_sL, tc_sL, tz_sL, tI_sR, tL_sR, tR_sR, tN_sR, tZ_sR, tC_sR, tc_sR, tz_sR, tI_sZ, tL_sZ, tR_sZ, tN_sZ, tZ_sZ, tC_sZ, tc_sZ, tz_sZ, tI_sC, tL_sC, tR_sC, tN_sC, tZ_sC, tC_sC, tc_sC, tz_sC, tI_aC, tL_aC, tR_aC, tN_aC, tZ_aC, tC_aC, tc_aC, tz_aC, tI_rmL, tL_rmL, tR_rmL, tN_rmL, tZ_rmL, tC_rmL, tc_rmL, tz_rmL, tI_mk, tL_mk, tR_mk, tN_mk, tZ_mk, tC_mk, tc_mk, tz_mk, tI_pushL, tL_pushL, tR_pushL, tN_pushL, tZ_pushL, tC_pushL, tc_pushL, tz_pushL, tI_pushB, tL_pushB, tR_pushB, tN_pushB, tZ_pushB, tC_pushB, tc_pushB, tz_pushB, tI_cpL, tL_cpL, tR_cpL, tN_cpL, tZ_cpL, tC_cpL, tc_cpL, tz_cpL, eq_self, true_and, and_true, false_and, and_false, if_true, if_false, reduceIte, ite_true, ite_false, not_true_eq_false, not_false_eq_true, n10, frN_92 hF, h4, h6, e3, w1]
        conv => lhs; rw [lf_216_187]
        simp (config := {decide := true}) only [gfI_enc, gfL_enc, gfR_enc, pfI_enc, pfL_enc, pfR_enc, Option.bind_some, cI_v, cL_v, cF_v, cD_v, cR_v, cV_v, cI_x, cL_x, cR_x, cV_x, gz_0, gz_1, acc_enc, tI_sI, tL_sI, tR_sI, tN_sI, tZ_sI, tC_sI, tc_sI, tz_sI, tI_sL, tL_sL, tR_sL, tN_sL, tZ_sL, tC_sL, tc_sL, tz_sL, tI_sR, tL_sR, tR_sR, tN_sR, tZ_sR, tC_sR, tc_sR, tz_sR, tI_sZ, tL_sZ, tR_sZ, tN_sZ, tZ_sZ, tC_sZ, tc_sZ, tz_sZ, tI_sC, tL_sC, tR_sC, tN_sC, tZ_sC, tC_sC, tc_sC, tz_sC, tI_aC, tL_aC, tR_aC, tN_aC, tZ_aC, tC_aC, tc_aC, tz_aC, tI_rmL, tL_rmL, tR_rmL, tN_rmL, tZ_rmL, tC_rmL, tc_rmL, tz_rmL, tI_mk, tL_mk, tR_mk, tN_mk, tZ_mk, tC_mk, tc_mk, tz_mk, tI_pushL, tL_pushL, tR_pushL, tN_pushL, tZ_pushL, tC_pushL, tc_pushL, tz_pushL, tI_pushB, tL_pushB, tR_pushB, tN_pushB, tZ_pushB, tC_pushB, tc_pushB, tz_pushB, tI_cpL, tL_cpL, tR_cpL, tN_cpL, tZ_cpL, tC_cpL, tc_cpL, tz_cpL, eq_self, true_and, and_true, false_and, and_false, if_true, if_false, reduceIte, ite_true, ite_false, not_true_eq_false, not_false_eq_true, frN_92 hF, h7]
        conv => lhs; rw [lf_216_191]
        simp (config := {decide := true}) only [gfI_enc, gfL_enc, gfR_enc, pfI_enc, pfL_enc, pfR_enc, Option.bind_some, cI_v, cL_v, cF_v, cD_v, cR_v, cV_v, cI_x, cL_x, cR_x, cV_x, gz_0, gz_1, acc_enc, tI_sI, tL_sI, tR_sI, tN_sI, tZ_sI, tC_sI, tc_sI, tz_sI, tI_sL, tL_sL, tR_sL, tN_sL, tZ_sL, tC_sL, tc_sL, tz_sL, tI_sR, tL_sR, tR_sR, tN_sR, tZ_sR, tC_sR, tc_sR, tz_sR, tI_sZ, tL_sZ, tR_sZ, tN_sZ, tZ_sZ, tC_sZ, tc_sZ, tz_sZ, tI_sC, tL_sC, tR_sC, tN_sC, tZ_sC, tC_sC, tc_sC, tz_sC, tI_aC, tL_aC, tR_aC, tN_aC, tZ_aC, tC_aC, tc_aC, tz_aC, tI_rmL, tL_rmL, tR_rmL, tN_rmL, tZ_rmL, tC_rmL, tc_rmL, tz_rmL, tI_mk, tL_mk, tR_mk, tN_mk, tZ_mk, tC_mk, tc_mk, tz_mk, tI_pushL, tL_pushL, tR_pushL, tN_pushL, tZ_pushL, tC_pushL, tc_pushL, tz_pushL, tI_pushB, tL_pushB, tR_pushB, tN_pushB, tZ_pushB, tC_pushB, tc_pushB, tz_pushB, tI_cpL, tL_cpL, tR_cpL, tN_cpL, tZ_cpL, tC_cpL, tc_cpL, tz_cpL, eq_self, true_and, and_true, false_and, and_false, if_true, if_false, reduceIte, ite_true, ite_false, not_true_eq_false, not_false_eq_true, frN_92 hF, h4, o_s, hL, e1, n10, frR_92_2 hF, frN_84 hF, frZ_84 hF, gaI_enc, g1', g2', g3', v']
        rfl
      · have w1 : ¬ (7 : Int32) ≤ Int32.ofNat (i - s) := by
          rw [show (7 : Int32) = Int32.ofNat 7 from rfl, o_le (by omega) (by omega)]
          exact w
        have m1 : nv g s (min (i + 1 - s) 7) = (10 : Int32) * nv g s (min (i - s) 7) + Int32.ofNat (g i) - 48 := by
          rw [show min (i + 1 - s) 7 = (i - s) + 1 by omega, nv_s, show min (i - s) 7 = i - s by omega, show s + (i - s) = i by omega, Int32.mul_comm]
        rw [m1]
        conv => lhs; rw [lf_216_145]
        simp (config := {decide := true}) only [gfI_enc, gfL_enc, gfR_enc, pfI_enc, pfL_enc, pfR_enc, Option.bind_some, cI_v, cL_v, cF_v, cD_v, cR_v, cV_v, cI_x, cL_x, cR_x, cV_x, gz_0, gz_1, acc_enc, tI_sI, tL_sI, tR_sI, tN_sI, tZ_sI, tC_sI, tc_sI, tz_sI, tI_sL, tL_sL, tR_sL, tN_sL, tZ_sL, tC_sL, tc_sL, tz_sL, tI_sR, tL_sR, tR_sR, tN_sR, tZ_sR, tC_sR, tc_sR, tz_sR, tI_sZ, tL_sZ, tR_sZ, tN_sZ, tZ_sZ, tC_sZ, tc_sZ, tz_sZ, tI_sC, tL_sC, tR_sC, tN_sC, tZ_sC, tC_sC, tc_sC, tz_sC, tI_aC, tL_aC, tR_aC, tN_aC, tZ_aC, tC_aC, tc_aC, tz_aC, tI_rmL, tL_rmL, tR_rmL, tN_rmL, tZ_rmL, tC_rmL, tc_rmL, tz_rmL, tI_mk, tL_mk, tR_mk, tN_mk, tZ_mk, tC_mk, tc_mk, tz_mk, tI_pushL, tL_pushL, tR_pushL, tN_pushL, tZ_pushL, tC_pushL, tc_pushL, tz_pushL, tI_pushB, tL_pushB, tR_pushB, tN_pushB, tZ_pushB, tC_pushB, tc_pushB, tz_pushB, tI_cpL, tL_cpL, tR_cpL, tN_cpL, tZ_cpL, tC_cpL, tc_cpL, tz_cpL, eq_self, true_and, and_true, false_and, and_false, if_true, if_false, reduceIte, ite_true, ite_false, not_true_eq_false, not_false_eq_true, n10, frN_92 hF, h4, h6, e3, w1, h7, frR_92_2 hF, frN_84 hF, frZ_84 hF, gaI_enc, g1, g2, g3, v]
        conv => lhs; rw [lf_216_191]
        simp (config := {decide := true}) only [gfI_enc, gfL_enc, gfR_enc, pfI_enc, pfL_enc, pfR_enc, Option.bind_some, cI_v, cL_v, cF_v, cD_v, cR_v, cV_v, cI_x, cL_x, cR_x, cV_x, gz_0, gz_1, acc_enc, tI_sI, tL_sI, tR_sI, tN_sI, tZ_sI, tC_sI, tc_sI, tz_sI, tI_sL, tL_sL, tR_sL, tN_sL, tZ_sL, tC_sL, tc_sL, tz_sL, tI_sR, tL_sR, tR_sR, tN_sR, tZ_sR, tC_sR, tc_sR, tz_sR, tI_sZ, tL_sZ, tR_sZ, tN_sZ, tZ_sZ, tC_sZ, tc_sZ, tz_sZ, tI_sC, tL_sC, tR_sC, tN_sC, tZ_sC, tC_sC, tc_sC, tz_sC, tI_aC, tL_aC, tR_aC, tN_aC, tZ_aC, tC_aC, tc_aC, tz_aC, tI_rmL, tL_rmL, tR_rmL, tN_rmL, tZ_rmL, tC_rmL, tc_rmL, tz_rmL, tI_mk, tL_mk, tR_mk, tN_mk, tZ_mk, tC_mk, tc_mk, tz_mk, tI_pushL, tL_pushL, tR_pushL, tN_pushL, tZ_pushL, tC_pushL, tc_pushL, tz_pushL, tI_pushB, tL_pushB, tR_pushB, tN_pushB, tZ_pushB, tC_pushB, tc_pushB, tz_pushB, tI_cpL, tL_cpL, tR_cpL, tN_cpL, tZ_cpL, tC_cpL, tc_cpL, tz_cpL, eq_self, true_and, and_true, false_and, and_false, if_true, if_false, reduceIte, ite_true, ite_false, not_true_eq_false, not_false_eq_true, frN_92 hF, h4, o_s, hL, e1, n10, frR_92_2 hF, frN_84 hF, frZ_84 hF, gaI_enc, g1', g2', g3', v']
        rfl
    by_cases w : 48 ≤ g (i + 1) ∧ g (i + 1) ≤ 57
    · have e2 : eD g L (i + 1) = eD g L (i + 1 + 1) := rE_in ⟨by omega, w⟩
      have w1 : ¬ Int32.ofNat (g (i + 1)) < 48 := fun q => by have := k1.mp q; omega
      have w2 : Int32.ofNat (g (i + 1)) ≤ 57 := k3.mpr w.2
      obtain ⟨b', d1, d2, d3, d4, d5, d6, d7⟩ := ih (i + 1) _ h' (by omega) (by omega) c3 ((c5 6 (by decide) (by decide)).trans h6) c4
      refine ⟨b', fun z => ?_, chF_t c1 d2, c2.t d3, by rw [d4, e2], by rw [d5, e2, c5 5 (by decide) (by decide)], by rw [d6, c5 6 (by decide) (by decide)], by rw [d7, e2]⟩
      rw [st, if_neg w1, if_pos w2]
      exact d1 z
    · have e2 : eD g L (i + 1) = i + 1 := rE_out (fun q => w q.2)
      have hE := fun z => y216_E (z := z) (s := s) (e := i + 1) h' (by omega) (by omega) c3 ((c5 6 (by decide) (by decide)).trans h6)
      refine ⟨sI (adv b (nv g s (min (i + 1 - s) 7)) (i + 1)) 92 0 5 (if i + 1 - s ≤ 7 then tI (adv b (nv g s (min (i + 1 - s) 7)) (i + 1)) 92 0 5 else 4), fun z => ?_, chF_92q c1 5 _ (by omega), c2.cI _ _ _ _, ?_, ?_, ?_, ?_⟩
      · refine Eq.trans ?_ (hE z)
        rw [st]
        by_cases w1 : Int32.ofNat (g (i + 1)) < 48
        · rw [if_pos w1]
        · have w2 : ¬ Int32.ofNat (g (i + 1)) ≤ 57 := fun q => w ⟨by
            have : ¬ g (i + 1) < 48 := fun q2 => w1 (k1.mpr q2)
            omega, k3.mp q⟩
          rw [if_neg w1, if_neg w2]
      · rw [tI_sI, if_neg (fun w => absurd w.2.2 (by decide)), c3, e2]
      · rw [tI_sI, if_pos ⟨rfl, rfl, rfl⟩, e2, c5 5 (by decide) (by decide)]
      · rw [tI_sI, if_neg (fun w => absurd w.2.2 (by decide)), c5 6 (by decide) (by decide)]
      · rw [tI_sI, if_neg (fun w => absurd w.2.2 (by decide)), c4, e2]
/-- another sign -/
theorem y216_S {g : Nat → Nat} {L i : Nat} {b : TS} (h : SnB b g L) (hi : i < L) (h4 : tI b 92 0 4 = Int32.ofNat i) : ∃ b', (∀ z, Ru 216 145 [(0, aR (some (92, 0))), (2, aI 0), (3, aI 0)] [] (enc 2 b z) = some (.inl none, enc 2 b' z)) ∧ chF [] FqB b b' ∧ Wr b b' ∧ tI b' 92 0 4 = Int32.ofNat (i + 1) ∧ tI b' 92 0 5 = tI b 92 0 5 ∧ tI b' 92 0 6 = tI b 92 0 6 := by
  obtain ⟨c1, c2, c3, c4, c5⟩ := adv_c (b := b) (v := tI b 92 0 7) (i := i + 1)
  have hF := h.1
  have L6 := h.2.1
  have hL := h.2.2.1
  refine ⟨sI (adv b (tI b 92 0 7) (i + 1)) 92 0 5 (tI b 92 0 5), fun z => ?_, chF_92q c1 5 _ (by omega), c2.cI _ _ _ _, ?_, ?_, ?_⟩
  · rw [lf_216_145, if_pos rfl, lf_216_187]
    simp (config := {decide := true}) only [gfI_enc, gfL_enc, gfR_enc, pfI_enc, pfL_enc, pfR_enc, Option.bind_some, cI_v, cL_v, cF_v, cD_v, cR_v, cV_v, cI_x, cL_x, cR_x, cV_x, gz_0, gz_1, acc_enc, tI_sI, tL_sI, tR_sI, tN_sI, tZ_sI, tC_sI, tc_sI, tz_sI, tI_sL, tL_sL, tR_sL, tN_sL, tZ_sL, tC_sL, tc_sL, tz_sL, tI_sR, tL_sR, tR_sR, tN_sR, tZ_sR, tC_sR, tc_sR, tz_sR, tI_sZ, tL_sZ, tR_sZ, tN_sZ, tZ_sZ, tC_sZ, tc_sZ, tz_sZ, tI_sC, tL_sC, tR_sC, tN_sC, tZ_sC, tC_sC, tc_sC, tz_sC, tI_aC, tL_aC, tR_aC, tN_aC, tZ_aC, tC_aC, tc_aC, tz_aC, tI_rmL, tL_rmL, tR_rmL, tN_rmL, tZ_rmL, tC_rmL, tc_rmL, tz_rmL, tI_mk, tL_mk, tR_mk, tN_mk, tZ_mk, tC_mk, tc_mk, tz_mk, tI_pushL, tL_pushL, tR_pushL, tN_pushL, tZ_pushL, tC_pushL, tc_pushL, tz_pushL, tI_pushB, tL_pushB, tR_pushB, tN_pushB, tZ_pushB, tC_pushB, tc_pushB, tz_pushB, tI_cpL, tL_cpL, tR_cpL, tN_cpL, tZ_cpL, tC_cpL, tc_cpL, tz_cpL, eq_self, true_and, and_true, false_and, and_false, if_true, if_false, reduceIte, ite_true, ite_false, not_true_eq_false, not_false_eq_true, frN_92 hF]
    rw [lf_216_191]
    by_cases e1 : Int32.ofNat L ≤ Int32.ofNat (i + 1)
    · simp (config := {decide := true}) only [gfI_enc, gfL_enc, gfR_enc, pfI_enc, pfL_enc, pfR_enc, Option.bind_some, cI_v, cL_v, cF_v, cD_v, cR_v, cV_v, cI_x, cL_x, cR_x, cV_x, gz_0, gz_1, acc_enc, tI_sI, tL_sI, tR_sI, tN_sI, tZ_sI, tC_sI, tc_sI, tz_sI, tI_sL, tL_sL, tR_sL, tN_sL, tZ_sL, tC_sL, tc_sL, tz_sL, tI_sR, tL_sR, tR_sR, tN_sR, tZ_sR, tC_sR, tc_sR, tz_sR, tI_sZ, tL_sZ, tR_sZ, tN_sZ, tZ_sZ, tC_sZ, tc_sZ, tz_sZ, tI_sC, tL_sC, tR_sC, tN_sC, tZ_sC, tC_sC, tc_sC, tz_sC, tI_aC, tL_aC, tR_aC, tN_aC, tZ_aC, tC_aC, tc_aC, tz_aC, tI_rmL, tL_rmL, tR_rmL, tN_rmL, tZ_rmL, tC_rmL, tc_rmL, tz_rmL, tI_mk, tL_mk, tR_mk, tN_mk, tZ_mk, tC_mk, tc_mk, tz_mk, tI_pushL, tL_pushL, tR_pushL, tN_pushL, tZ_pushL, tC_pushL, tc_pushL, tz_pushL, tI_pushB, tL_pushB, tR_pushB, tN_pushB, tZ_pushB, tC_pushB, tc_pushB, tz_pushB, tI_cpL, tL_cpL, tR_cpL, tN_cpL, tZ_cpL, tC_cpL, tc_cpL, tz_cpL, eq_self, true_and, and_true, false_and, and_false, if_true, if_false, reduceIte, ite_true, ite_false, not_true_eq_false, not_false_eq_true, frN_92 hF, h4, o_s, hL, e1]
      rw [lf_216_279, if_pos rfl, lf_216_302]
      simp (config := {decide := true}) only [gfI_enc, gfL_enc, gfR_enc, pfI_enc, pfL_enc, pfR_enc, Option.bind_some, cI_v, cL_v, cF_v, cD_v, cR_v, cV_v, cI_x, cL_x, cR_x, cV_x, gz_0, gz_1, acc_enc, tI_sI, tL_sI, tR_sI, tN_sI, tZ_sI, tC_sI, tc_sI, tz_sI, tI_sL, tL_sL, tR_sL, tN_sL, tZ_sL, tC_sL, tc_sL, tz_sL, tI_sR, tL_sR, tR_sR, tN_sR, tZ_sR, tC_sR, tc_sR, tz_sR, tI_sZ, tL_sZ, tR_sZ, tN_sZ, tZ_sZ, tC_sZ, tc_sZ, tz_sZ, tI_sC, tL_sC, tR_sC, tN_sC, tZ_sC, tC_sC, tc_sC, tz_sC, tI_aC, tL_aC, tR_aC, tN_aC, tZ_aC, tC_aC, tc_aC, tz_aC, tI_rmL, tL_rmL, tR_rmL, tN_rmL, tZ_rmL, tC_rmL, tc_rmL, tz_rmL, tI_mk, tL_mk, tR_mk, tN_mk, tZ_mk, tC_mk, tc_mk, tz_mk, tI_pushL, tL_pushL, tR_pushL, tN_pushL, tZ_pushL, tC_pushL, tc_pushL, tz_pushL, tI_pushB, tL_pushB, tR_pushB, tN_pushB, tZ_pushB, tC_pushB, tc_pushB, tz_pushB, tI_cpL, tL_cpL, tR_cpL, tN_cpL, tZ_cpL, tC_cpL, tc_cpL, tz_cpL, eq_self, true_and, and_true, false_and, and_false, if_true, if_false, reduceIte, ite_true, ite_false, not_true_eq_false, not_false_eq_true, frN_92 hF]
      rfl
    · simp (config := {decide := true}) only [gfI_enc, gfL_enc, gfR_enc, pfI_enc, pfL_enc, pfR_enc, Option.bind_some, cI_v, cL_v, cF_v, cD_v, cR_v, cV_v, cI_x, cL_x, cR_x, cV_x, gz_0, gz_1, acc_enc, tI_sI, tL_sI, tR_sI, tN_sI, tZ_sI, tC_sI, tc_sI, tz_sI, tI_sL, tL_sL, tR_sL, tN_sL, tZ_sL, tC_sL, tc_sL, tz_sL, tI_sR, tL_sR, tR_sR, tN_sR, tZ_sR, tC_sR, tc_sR, tz_sR, tI_sZ, tL_sZ, tR_sZ, tN_sZ, tZ_sZ, tC_sZ, tc_sZ, tz_sZ, tI_sC, tL_sC, tR_sC, tN_sC, tZ_sC, tC_sC, tc_sC, tz_sC, tI_aC, tL_aC, tR_aC, tN_aC, tZ_aC, tC_aC, tc_aC, tz_aC, tI_rmL, tL_rmL, tR_rmL, tN_rmL, tZ_rmL, tC_rmL, tc_rmL, tz_rmL, tI_mk, tL_mk, tR_mk, tN_mk, tZ_mk, tC_mk, tc_mk, tz_mk, tI_pushL, tL_pushL, tR_pushL, tN_pushL, tZ_pushL, tC_pushL, tc_pushL, tz_pushL, tI_pushB, tL_pushB, tR_pushB, tN_pushB, tZ_pushB, tC_pushB, tc_pushB, tz_pushB, tI_cpL, tL_cpL, tR_cpL, tN_cpL, tZ_cpL, tC_cpL, tc_cpL, tz_cpL, eq_self, true_and, and_true, false_and, and_false, if_true, if_false, reduceIte, ite_true, ite_false, not_true_eq_false, not_false_eq_true, frN_92 hF, h4, o_s, hL, e1]
      rw [lf_216_279, if_pos rfl, lf_216_302]
      simp (config := {decide := true}) only [gfI_enc, gfL_enc, gfR_enc, pfI_enc, pfL_enc, pfR_enc, Option.bind_some, cI_v, cL_v, cF_v, cD_v, cR_v, cV_v, cI_x, cL_x, cR_x, cV_x, gz_0, gz_1, acc_enc, tI_sI, tL_sI, tR_sI, tN_sI, tZ_sI, tC_sI, tc_sI, tz_sI, tI_sL, tL_sL, tR_sL, tN_sL, tZ_sL, tC_sL, tc_sL, tz_sL, tI_sR, tL_sR, tR_sR, tN_sR, tZ_sR, tC_sR, tc_sR, tz_sR, tI_sZ, tL_sZ, tR_sZ, tN_sZ, tZ_sZ, tC_sZ, tc_sZ, tz_sZ, tI_sC, tL_sC, tR_sC, tN_sC, tZ_sC, tC_sC, tc_sC, tz_sC, tI_aC, tL_aC, tR_aC, tN_aC, tZ_aC, tC_aC, tc_aC, tz_aC, tI_rmL, tL_rmL, tR_rmL, tN_rmL, tZ_rmL, tC_rmL, tc_rmL, tz_rmL, tI_mk, tL_mk, tR_mk, tN_mk, tZ_mk, tC_mk, tc_mk, tz_mk, tI_pushL, tL_pushL, tR_pushL, tN_pushL, tZ_pushL, tC_pushL, tc_pushL, tz_pushL, tI_pushB, tL_pushB, tR_pushB, tN_pushB, tZ_pushB, tC_pushB, tc_pushB, tz_pushB, tI_cpL, tL_cpL, tR_cpL, tN_cpL, tZ_cpL, tC_cpL, tc_cpL, tz_cpL, eq_self, true_and, and_true, false_and, and_false, if_true, if_false, reduceIte, ite_true, ite_false, not_true_eq_false, not_false_eq_true, frN_92 hF]
      rfl
  · rw [tI_sI, if_neg (fun w => absurd w.2.2 (by decide)), c3]
  · rw [tI_sI, if_pos ⟨rfl, rfl, rfl⟩]
  · rw [tI_sI, if_neg (fun w => absurd w.2.2 (by decide)), c5 6 (by decide) (by decide)]
