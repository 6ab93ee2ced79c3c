/-! ===== what a card knows changes alike ===== -/
def cdP : List (Nat × Nat) := [(4, 6), (7, 1), (8, 2), (9, 3), (10, 4), (11, 5)]
theorem cdP_F {f g : Nat} (h : (f, g) ∈ cdP) : (37, f) ∈ FpA ∧ 1 ≤ g ∧ g ≤ 6 := by
  unfold cdP at h
  simp only [List.mem_cons, List.not_mem_nil, or_false, Prod.mk.injEq] at h
  rcases h with ⟨e, e'⟩ | ⟨e, e'⟩ | ⟨e, e'⟩ | ⟨e, e'⟩ | ⟨e, e'⟩ | ⟨e, e'⟩ <;> subst e <;> subst e' <;> exact ⟨by decide, by decide, by decide⟩
theorem W87_86 {b : TS} {i k : Nat} {v : Int32} : W87 b (sI b 86 i k v) := by
  refine ⟨fun p => ?_, fun p => ?_, fun p => ?_, fun p => ?_, fun p => ?_, fun p => ?_⟩ <;> rw [tI_sI, if_neg (fun q => absurd q.1 (by decide))]
theorem W86_86 {b : TS} {cd g : Nat} {v : Int32} (h1 : 1 ≤ g) (h6 : g ≤ 6) : W86 b (sI b 86 0 (10 * cd + g) v) := by
  refine ⟨fun p => ?_, fun p => ?_, fun p => ?_⟩ <;> rw [tI_sI, if_neg (fun q => by omega)]
/-- what such a step is -/
def PqS (a a' b b' : TS) : Prop := R0 a' b' ∧ chF [] FpA a a' ∧ chF [86, 87] [] b b' ∧ PS a a' b b' ∧ W87 b b' ∧ (∀ p, tI b' 87 0 (10 * p) = tI b 87 0 (10 * p)) ∧ Wr a a' ∧ Wr b b'
theorem W87_t {b b1 b2 : TS} (h1 : W87 b b1) (h2 : W87 b1 b2) : W87 b b2 := by
  obtain ⟨x1, x2, x3, x4, x5, x6⟩ := h1
  obtain ⟨y1, y2, y3, y4, y5, y6⟩ := h2
  exact ⟨fun p => (y1 p).trans (x1 p), fun p => (y2 p).trans (x2 p), fun p => (y3 p).trans (x3 p), fun p => (y4 p).trans (x4 p), fun p => (y5 p).trans (x5 p), fun p => (y6 p).trans (x6 p)⟩
theorem W87_r (b : TS) : W87 b b := ⟨fun _ => rfl, fun _ => rfl, fun _ => rfl, fun _ => rfl, fun _ => rfl, fun _ => rfl⟩
theorem PqS_t {a a1 a2 b b1 b2 : TS} (h1 : PqS a a1 b b1) (h2 : PqS a1 a2 b1 b2) : PqS a a2 b b2 := by
  obtain ⟨-, x2, x3, x4, x5, x6, x7, x8⟩ := h1
  obtain ⟨y1, y2, y3, y4, y5, y6, y7, y8⟩ := h2
  exact ⟨y1, chF_t x2 y2, chF_t x3 y3, PS_t x4 y4, W87_t x5 y5, fun p => (y6 p).trans (x6 p), x7.t y7, x8.t y8⟩
theorem PqS_r {a b : TS} (h : R0 a b) : PqS a a b b := ⟨h, chF_r _ _ _, chF_r _ _ _, PS_r a b, W87_r b, fun _ => rfl, Wr.rf _, Wr.rf _⟩
set_option maxHeartbeats 2000000 in
theorem cd1 {a b : TS} {cd f g : Nat} {v : Int32} (hR : R0 a b) (hcd : cd < tZ a 28 0) (hfg : (f, g) ∈ cdP) (hv : (f = 11 → bitOk v = true) ∧ (f = 7 → v = 0 ∨ v = 1 ∨ v = 2 ∨ v = 3) ∧ (f = 8 → v = 0 ∨ v = 1 ∨ v = 2 ∨ v = 3 ∨ v = 4 ∨ v = 5)) : PqS a (sI a 37 cd f v) b (sI b 86 0 (10 * cd + g) v) := by
  obtain ⟨c1, c2, c3⟩ := cdP_F hfg
  have ha : chF [] FpA a (sI a 37 cd f v) := chF_I (Or.inr c1) (chF_r _ _ _)
  have hb : chF [86, 87] [] b (sI b 86 0 (10 * cd + g) v) := chF_I (by simp) (chF_r _ _ _)
  have wa : Wr a (sI a 37 cd f v) := (Wr.rf a).cI _ _ _ _
  have wb : Wr b (sI b 86 0 (10 * cd + g) v) := (Wr.rf b).cI _ _ _ _
  have w7 : W87 b (sI b 86 0 (10 * cd + g) v) := W87_86
  have h87 : ∀ k, tI (sI b 86 0 (10 * cd + g) v) 87 0 k = tI b 87 0 k := fun k => by rw [tI_sI, if_neg (fun q => absurd q.1 (by decide))]
  have hP := (hR.2.2.2.2.2.2.2.2.2.2.1)
  have hD : RD a b := hR.2.2.2.2.2.2.2.2.1
  have hQ : RQ a b := hR.2.2.2.2.2.2.2.2.2.2.2.1
  have hD' : RD (sI a 37 cd f v) (sI b 86 0 (10 * cd + g) v) := by
    obtain ⟨d1, d2⟩ := hD
    refine ⟨fun k hk => ?_, fun k hk => ?_⟩
    · obtain ⟨e1, e2, e3, e4, e5, e6, e7, e8, n, n1, n2⟩ := d1 k hk
      by_cases e : k = cd
      · subst e
        have gA : ∀ f', tI (sI a 37 k f v) 37 k f' = if f' = f then v else tI a 37 k f' := fun f' => by
          rw [tI_sI]
          by_cases e : f' = f
          · rw [if_pos ⟨rfl, rfl, e⟩, if_pos e]
          · rw [if_neg (fun q => e q.2.2), if_neg e]
        have gB : ∀ g', tI (sI b 86 0 (10 * k + g) v) 86 0 (10 * k + g') = if g' = g then v else tI b 86 0 (10 * k + g') := fun g' => by
          rw [tI_sI]
          by_cases e : g' = g
          · rw [if_pos ⟨rfl, rfl, by rw [e]⟩, if_pos e]
          · rw [if_neg (fun q => by omega), if_neg e]
        have gB0 : tI (sI b 86 0 (10 * k + g) v) 86 0 (10 * k) = tI b 86 0 (10 * k) := by rw [tI_sI, if_neg (fun q => by omega)]
        rw [gA, gA, gA, gA, gA, gA, gA, gB, gB, gB, gB, gB, gB, gB0]
        unfold cdP at hfg
        simp only [List.mem_cons, List.not_mem_nil, or_false, Prod.mk.injEq] at hfg
        rcases hfg with ⟨z, z'⟩ | ⟨z, z'⟩ | ⟨z, z'⟩ | ⟨z, z'⟩ | ⟨z, z'⟩ | ⟨z, z'⟩ <;> subst z <;> subst z' <;> simp (config := {decide := true}) only [if_true, if_false]
        · exact ⟨trivial, e2, e3, e4, e5, e6, e7, e8, n, n1, n2⟩
        · exact ⟨e1, e2, trivial, e4, e5, e6, e7, ⟨e8.1, hv.2.1 rfl, e8.2.2⟩, n, n1, n2⟩
        · exact ⟨e1, e2, e3, trivial, e5, e6, e7, ⟨e8.1, e8.2.1, hv.2.2 rfl⟩, n, n1, n2⟩
        · exact ⟨e1, e2, e3, e4, trivial, e6, e7, e8, n, n1, n2⟩
        · exact ⟨e1, e2, e3, e4, e5, trivial, e7, e8, n, n1, n2⟩
        · exact ⟨e1, e2, e3, e4, e5, e6, trivial, ⟨hv.1 rfl, e8.2⟩, n, n1, n2⟩
      · have gA : ∀ f', tI (sI a 37 cd f v) 37 k f' = tI a 37 k f' := fun f' => by rw [tI_sI, if_neg (fun q => e q.2.1)]
        have gB : ∀ g', g' < 10 → tI (sI b 86 0 (10 * cd + g) v) 86 0 (10 * k + g') = tI b 86 0 (10 * k + g') := fun g' hg => by rw [tI_sI, if_neg (fun q => by omega)]
        have gB0 : tI (sI b 86 0 (10 * cd + g) v) 86 0 (10 * k) = tI b 86 0 (10 * k) := gB 0 (by omega)
        rw [gA, gA, gA, gA, gA, gA, gA, gB 6 (by omega), gB 1 (by omega), gB 2 (by omega), gB 3 (by omega), gB 4 (by omega), gB 5 (by omega), gB0]
        exact ⟨e1, e2, e3, e4, e5, e6, e7, e8, n, n1, n2⟩
    · have hk' : 10 * tZ a 28 0 ≤ k := hk
      rw [tI_sI, if_neg (fun q => by omega)]
      exact d2 k hk'
  have hQ' : RQ (sI a 37 cd f v) (sI b 86 0 (10 * cd + g) v) := RQ_c hQ (D := []) (F := FpA.filter (fun q => q.1 = 37)) (D' := [86]) (F' := []) (chF_I (Or.inr (by unfold FpA at *; simp only [List.mem_filter]; exact ⟨c1, by simp⟩)) (chF_r _ _ _)) (chF_I (by simp) (chF_r _ _ _)) (by decide) (by decide)
  exact ⟨pq_R0 hR ha hb w7 (W86_86 c2 c3) (fun k hk => by rw [h87]; exact hP.2.2.2.2.2.2 k hk) hD' hQ' (fun p _ _ => ⟨h87 _, h87 _⟩) wa wb, ha, hb, pq_PS ha w7 (fun p _ _ => ⟨h87 _, h87 _, h87 _⟩), w7, fun p => h87 _, wa, wb⟩
/-- a card begins anew -/
theorem anew_R0 {a b : TS} {cd : Nat} (hR : R0 a b) (hcd : cd < tZ a 28 0) : PqS a (sI (sI (sI a 37 cd 9 0) 37 cd 10 0) 37 cd 8 0) b (sI (sI (sI b 86 0 (10 * cd + 3) 0) 86 0 (10 * cd + 4) 0) 86 0 (10 * cd + 2) 0) := by
  have h1 := cd1 (f := 9) (g := 3) (v := 0) hR hcd (by decide) ⟨fun q => absurd q (by decide), fun q => absurd q (by decide), fun q => absurd q (by decide)⟩
  have h2 := cd1 (f := 10) (g := 4) (v := 0) h1.1 hcd (by decide) ⟨fun q => absurd q (by decide), fun q => absurd q (by decide), fun q => absurd q (by decide)⟩
  have h3 := cd1 (f := 8) (g := 2) (v := 0) h2.1 hcd (by decide) ⟨fun q => absurd q (by decide), fun q => absurd q (by decide), fun _ => Or.inl rfl⟩
  exact PqS_t h1 (PqS_t h2 h3)
/-- what the reference's card is told is done -/
def tolB (b : TS) (cd : Nat) (t : Int32) : TS :=
  let b1 := if t &&& 2 = 0 then b else sI b 86 0 (10 * cd + 1) 3
  let b2 := if t &&& 4 = 0 then b1 else sI b1 86 0 (10 * cd + 5) 1
  if t &&& 8 = 0 then b2 else sI b2 86 0 (10 * cd + 6) 0
theorem y243 {b : TS} {z : Hp} {cd : Nat} (t : Int32) (hF : FxR b) (h8 : cd < 8) : Ex 243 [aR (some (93, 0)), aI (Int32.ofNat cd), aI t] (enc 2 b z) = some (.inl none, enc 2 (tolB b cd t) z) := by
  have f1 : FxR (sI b 86 0 (10 * cd + 1) 3) := FxR_s hF ((Wr.rf b).cI _ _ _ _) (chF_I (D := [86]) (F := []) (by simp) (chF_r _ _ _)) (by decide)
  have f2 : FxR (sI b 86 0 (10 * cd + 5) 1) := FxR_s hF ((Wr.rf b).cI _ _ _ _) (chF_I (D := [86]) (F := []) (by simp) (chF_r _ _ _)) (by decide)
  have f3 : FxR (sI (sI b 86 0 (10 * cd + 1) 3) 86 0 (10 * cd + 5) 1) := FxR_s f1 ((Wr.rf _).cI _ _ _ _) (chF_I (D := [86]) (F := []) (by simp) (chF_r _ _ _)) (by decide)
  refine (X_in (by decide +kernel) (frN_93 hF) rfl).trans ((lf_243_0 ..).trans ?_)
  unfold tolB
  by_cases h1 : t &&& 2 = 0 <;> by_cases h2 : t &&& 4 = 0 <;> by_cases h3 : t &&& 8 = 0 <;> simp (config := {decide := true}) only [gfI_enc, gfL_enc, gfR_enc, pfI_enc, pfL_enc, pfR_enc, Option.bind_some, cI_v, cL_v, cF_v, cD_v, cR_v, cV_v, cI_x, cL_x, cR_x, cV_x, gz_0, gz_1, acc_enc, tI_sI, tL_sI, tR_sI, tN_sI, tZ_sI, tC_sI, tc_sI, tz_sI, tI_sL, tL_sL, tR_sL, tN_sL, tZ_sL, tC_sL, tc_sL, tz_sL, tI_sR, tL_sR, tR_sR, tN_sR, tZ_sR, tC_sR, tc_sR, tz_sR, tI_sZ, tL_sZ, tR_sZ, tN_sZ, tZ_sZ, tC_sZ, tc_sZ, tz_sZ, tI_sC, tL_sC, tR_sC, tN_sC, tZ_sC, tC_sC, tc_sC, tz_sC, tI_aC, tL_aC, tR_aC, tN_aC, tZ_aC, tC_aC, tc_aC, tz_aC, tI_rmL, tL_rmL, tR_rmL, tN_rmL, tZ_rmL, tC_rmL, tc_rmL, tz_rmL, tI_mk, tL_mk, tR_mk, tN_mk, tZ_mk, tC_mk, tc_mk, tz_mk, tI_pushL, tL_pushL, tR_pushL, tN_pushL, tZ_pushL, tC_pushL, tc_pushL, tz_pushL, tI_pushB, tL_pushB, tR_pushB, tN_pushB, tZ_pushB, tC_pushB, tc_pushB, tz_pushB, tI_cpL, tL_cpL, tR_cpL, tN_cpL, tZ_cpL, tC_cpL, tc_cpL, tz_cpL, eq_self, true_and, and_true, false_and, and_false, if_true, if_false, reduceIte, ite_true, ite_false, not_true_eq_false, not_false_eq_true, told1, told2, told3, h1, h2, h3, y227_1 3 hF h8, y227_5 1 hF h8, y227_5 1 f1 h8, y227_6 0 hF h8, y227_6 0 f1 h8, y227_6 0 f2 h8, y227_6 0 f3 h8]
theorem tol_R0 {a b : TS} {cd : Nat} (t : Int32) (hR : R0 a b) (hcd : cd < tZ a 28 0) : PqS a (tol a cd t) b (tolB b cd t) := by
  unfold tol tolB
  have h1 : PqS a (if t &&& 2 = 0 then a else sI a 37 cd 7 3) b (if t &&& 2 = 0 then b else sI b 86 0 (10 * cd + 1) 3) := by
    split
    · exact PqS_r hR
    · exact cd1 hR hcd (by decide) ⟨fun q => absurd q (by decide), fun _ => Or.inr (Or.inr (Or.inr rfl)), fun q => absurd q (by decide)⟩
  have z1 : tZ (if t &&& 2 = 0 then a else sI a 37 cd 7 3) 28 0 = tZ a 28 0 := by split <;> rfl
  generalize (if t &&& 2 = 0 then a else sI a 37 cd 7 3) = a1 at *
  generalize (if t &&& 2 = 0 then b else sI b 86 0 (10 * cd + 1) 3) = b1 at *
  have h2 : PqS a1 (if t &&& 4 = 0 then a1 else sI a1 37 cd 11 1) b1 (if t &&& 4 = 0 then b1 else sI b1 86 0 (10 * cd + 5) 1) := by
    split
    · exact PqS_r h1.1
    · exact cd1 h1.1 (by rw [z1]; exact hcd) (by decide) ⟨fun _ => rfl, fun q => absurd q (by decide), fun q => absurd q (by decide)⟩
  have z2 : tZ (if t &&& 4 = 0 then a1 else sI a1 37 cd 11 1) 28 0 = tZ a 28 0 := by split <;> exact z1
  dsimp only
  generalize (if t &&& 4 = 0 then a1 else sI a1 37 cd 11 1) = a2 at *
  generalize (if t &&& 4 = 0 then b1 else sI b1 86 0 (10 * cd + 5) 1) = b2 at *
  refine PqS_t h1 (PqS_t h2 ?_)
  split
  · exact PqS_r h2.1
  · exact cd1 h2.1 (by rw [z2]; exact hcd) (by decide) ⟨fun q => absurd q (by decide), fun q => absurd q (by decide), fun q => absurd q (by decide)⟩
