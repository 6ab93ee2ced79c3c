/-! ===== what a hearing does ===== -/
def DhA : List Nat := [1, 2, 3, 4, 5, 6, 7, 8, 9, 10, 15, 16, 17, 20, 21, 22]
def FhA : List (Nat × Nat) := [(30, 3), (30, 4), (35, 0), (35, 1), (36, 12), (37, 13), (37, 14)]
def DhB : List Nat := [43, 44, 46, 48, 49, 50, 51, 52, 53, 54, 55, 56, 57, 60, 61, 62, 63, 64, 71, 72, 73, 74, 75, 79, 80, 81]
def FhB : List (Nat × Nat) := [(94, 6), (94, 12), (94, 13), (94, 14), (94, 15), (94, 16), (94, 17), (95, 4)]
/-- the mails made while hearing -/
def Mt (b : TS) : Nat := tN b 79 + tN b 80 + tN b 81
def Hrd (a a' b b' : TS) (sh n : Nat) : Prop := R0 a' b' ∧ Nt a' b' ∧ Ln0 a' b' ∧ LnD a' b' sh ∧ PS a a' b b' ∧ (∀ c', c' < 2 * tZ a 27 0 → c' ≠ 2 * sh + 1 → vA a' c' = vA a c' ∧ vQ b' c' = vQ b c' ∧ tZ a' 9 c' = tZ a 9 c' ∧ tI b' 48 c' = tI b 48 c') ∧
  tZ a' 9 (2 * sh + 1) = max (tZ a 9 (2 * sh + 1)) (vA a' (2 * sh + 1)).length ∧ (vQ b' (2 * sh + 1) = vQ b (2 * sh + 1) ∨ ∃ k g, vQ b' (2 * sh + 1) = vQ b (2 * sh + 1) ++ laid k (tI b 95 0 1 + tI b 95 0 2) g) ∧
  chF DhA FhA a a' ∧ chF DhB FhB b b' ∧ groQ b b' ∧ Wr a a' ∧ Wr b b' ∧ (∀ s ∈ [5, 6, 16, 17], tN a' s ≤ tN a s + n) ∧ Mt b' ≤ Mt b + 1
/-- what a put on the way down leaves -/
def Dsv : List Nat := [48, 49, 50, 51, 52, 74, 75, 79, 80, 81]
def DnP (b a' b' : TS) (sh : Nat) (g : Nat → Int32) : Prop := ∃ q, dnM a' b' sh g q ∧ vQ b' (2 * sh + 1) = vQ b (2 * sh + 1) ++ laid (fK (tI b 48 (2 * sh + 1))) (tI b 95 0 1 + tI b 95 0 2) q ∧ tI b' 48 (2 * sh + 1) = fR (tI b 48 (2 * sh + 1)) ∧ ∀ f, f ≠ 2 * sh + 1 → tI b' 48 f = tI b 48 f
def DnN (b b' : TS) (sh : Nat) : Prop := vQ b' (2 * sh + 1) = vQ b (2 * sh + 1) ∧ ∀ f, tI b' 48 f = tI b 48 f
/-- the notes stay -/
def NtS (a a' : TS) : Prop := tZ a' 15 0 = tZ a 15 0 ∧ ∀ k, k < tZ a 15 0 → ntP a' k = ntP a k
theorem NtS_t {a a' a'' : TS} (h1 : NtS a a') (h2 : NtS a' a'') : NtS a a'' := ⟨h2.1.trans h1.1, fun k hk => (h2.2 k (by rw [h1.1]; exact hk)).trans (h1.2 k hk)⟩
theorem NtS_of {D : List Nat} {F : List (Nat × Nat)} {a a' b : TS} (hN : Nt a b) (ha : chF D F a a') (hd : dpk D F [15] [] = true) (hg : gro a a' 17) : NtS a a' :=
  ⟨dZ ha hd (s := 15) (by simp) 0, fun k hk => (ntPC_c (hN.2.2.1 k hk) hg (dR ha hd (s := 15) (by simp) 0 k)).1⟩
/-- the notes behind a standing in -/
def SwQ (a a' : TS) (p : Nat) (w : Int32) : Prop := (∀ k, k < tZ a 15 0 → k < tZ a' 15 0 ∧ ntP a' k = ntP a k) ∧ (w = 1 → ∃ k, k < tZ a' 15 0 ∧ ntP a' k = Int32.ofNat p) ∧ (∀ k, k < tZ a' 15 0 → ntP a' k = Int32.ofNat p ∨ ∃ k0, k0 < tZ a 15 0 ∧ ntP a' k = ntP a k0)
theorem SwQ_of {a a1 a' : TS} {p : Nat} {w : Int32} (h : SwP a a1 p) (hw : w = tI a1 16 (tN a 16) 8) (h2 : NtS a1 a') : SwQ a a' p w := by
  obtain ⟨s1, s2, s3, -⟩ := h
  refine ⟨fun k hk => ?_, fun e => ?_, fun k hk => ?_⟩
  · obtain ⟨k1, k2⟩ := s1 k hk
    exact ⟨by rw [h2.1]; exact k1, (h2.2 k k1).trans k2⟩
  · obtain ⟨k, k1, k2⟩ := s2 (hw.symm.trans e)
    exact ⟨k, by rw [h2.1]; exact k1, (h2.2 k k1).trans k2⟩
  · rw [h2.1] at hk
    rw [h2.2 k hk]
    exact s3 k hk
theorem SwC_of {a b a1 b1 a' b' : TS} {p cd : Nat} {m w w' : Int32} (h : SwC a b a1 b1 p cd m w) (hw : w' = w) (h2 : NtS a1 a') (h73 : ∀ k, tI b' 73 0 k = tI b1 73 0 k) (h95 : tI b' 95 0 3 = tI b1 95 0 3) : SwC a b a' b' p cd m w' := by
  subst hw
  obtain ⟨s1, s2, s3, s4⟩ := h
  refine ⟨s1, fun e => ⟨fun k hk => ?_, (s2 e).2⟩, fun k hk hk3 => by rw [h73]; exact s3 k hk hk3, h95.trans s4⟩
  rw [h2.1] at hk
  rw [h2.2 k hk]
  exact (s2 e).1 k hk
theorem mv_cg {a a' : TS} {s r : Nat} (h : ∀ k, tI a' s r k = tI a s r k) : mv a' s r = mv a s r := by
  funext f
  unfold mv
  rw [h]
/-- the first half of a hearing, and the puts -/
theorem hear_put {a a1 b b1 : TS} {sh s i : Nat} {q : Nat × Nat} (hR1 : R0 a1 b1) (hN1 : Nt a1 b1) (hL : Ln0 a b) (hD : LnD a b sh) (hsh : sh < tZ a 27 0) (hP : PS a a1 b b1)
    {D D' : List Nat} {F F' : List (Nat × Nat)} (ca : chF D F a a1) (cb : chF D' F' b b1) (hd : dpk D F [8, 9, 10, 21, 22, 27] [] = true) (hd25 : 25 ∉ D) (hd' : dpk D' F' [48, 49, 50, 51, 52, 65, 74, 75] [(95, 1), (95, 2)] = true) (hq1 : groQ b b1) (wa : Wr a a1) (wb : Wr b b1)
    (hA : (∀ s ∈ D, s ∈ DhA) ∧ (∀ q ∈ F, q ∈ FhA ∨ q.1 ∈ DhA)) (hB : (∀ s ∈ D', s ∈ DhB) ∧ (∀ q ∈ F', q ∈ FhB ∨ q.1 ∈ DhB))
    (hz : tZ a 9 (2 * sh + 1) < 29998) (hl : (vQ b (2 * sh + 1)).length < 90000) (hs : isM s) (hi : i < tN a1 s) (hq : isQ q.1) (hqi : q.2 < tN b1 q.1) (hm : dnM a1 b1 sh (mv a1 s i) (qv b1 (some q))) {n : Nat} (hn : ∀ s ∈ [5, 6, 16, 17], tN a1 s ≤ tN a s + n) (hM : Mt b1 ≤ Mt b + 1) :
    ∃ a' b', (∀ z, Ex 37 [aR (some (22, sh)), aR (some (s, i))] (enc 1 a1 z) = some (.inl none, enc 1 a' z)) ∧ (∀ z, Ex 194 [aR (some (95, 0)), aI (Int32.ofNat sh), aR (some q)] (enc 2 b1 z) = some (.inl none, enc 2 b' z)) ∧ Hrd a a' b b' sh n ∧ DnP b a' b' sh (mv a1 s i) ∧ chF [8, 9, 10, 21, 22] [] a1 a' ∧ chF Dsv [] b1 b' := by
  have hd'1 : dpk D' F' [48, 49, 50, 51, 52, 65, 74, 75] [] = true := by
    unfold dpk at *
    rw [Bool.and_eq_true] at *
    exact ⟨hd'.1, rfl⟩
  obtain ⟨hL1, hv⟩ := Ln0_o hL ca cb hd hd25 hd'1 hq1
  have z27 : tZ a1 27 0 = tZ a 27 0 := dZ ca hd (s := 27) (by simp) 0
  have z9 : ∀ c, tZ a1 9 c = tZ a 9 c := dZ ca hd (s := 9) (by simp)
  have c1 := hv (2 * sh + 1) (by omega)
  have hD1 : LnD a1 b1 sh := LnD_c hD hP c1.1 c1.2
  have t1 : tI b1 95 0 1 = tI b 95 0 1 := dI cb hd' (s := 95) (k := 1) (by simp) 0
  have t2 : tI b1 95 0 2 = tI b 95 0 2 := dI cb hd' (s := 95) (k := 2) (by simp) 0
  obtain ⟨a', b', x, y, hR', hL', hP', ho, hD', ha, hb, hN, hx, hy⟩ := sim_down hR1 hL1 (by omega) (by rw [z9]; exact hz) (by rw [c1.2]; exact hl) hs hi hq hqi hm hD1
  obtain ⟨x1, x2, x3, x4, x5, x6, x7, x8, x9, x10, x11, wa'⟩ := hx
  obtain ⟨y1, y2, y3, y4, y5, y6, y7, y8, wb', y9⟩ := hy
  have gq : groQ b1 b' := groQ_c hb (by decide +kernel)
  have hDn : DnP b a' b' sh (mv a1 s i) := by
    have e8 : ∀ f, tI b1 48 f = tI b 48 f := fun f => funext fun k => dIS cb hd'1 (s := 48) (by simp) f k
    refine ⟨qv b1 (some q), dnM_c hm hP', ?_, by rw [y7, e8], fun f hf => by rw [y8 f hf, e8]⟩
    rw [y2, c1.2, t1, t2, e8]
  refine ⟨a', b', x, y, ⟨hR', ?_, hL', hD', PS_t hP hP', fun c' hc' hne => ?_, ?_, ?_, ?_, ?_, groQ_t hq1 gq, wa.t wa', wb.t wb', fun s hs => ?_, ?_⟩, hDn, ha, chF_m hb (by decide) (by simp)⟩
  · exact Nt_c hN1 ha hb (by decide) (by decide) hP'.1 (gro_c ha (by decide)) gq
  · obtain ⟨u1, u2⟩ := ho c' (by omega) hne
    obtain ⟨v1, v2⟩ := hv c' hc'
    exact ⟨u1.trans v1, u2.trans v2, (x3 c' (by omega) hne).2.1.trans (z9 c'), (y8 c' hne).trans (funext fun k => dIS cb hd'1 (s := 48) (by simp) c' k)⟩
  · rw [x8, z9]
  · refine Or.inr ⟨fK (tI b1 48 (2 * sh + 1)), qv b1 (some q), ?_⟩
    rw [y2, c1.2, t1, t2]
  · exact chF_t (chF_m ca hA.1 hA.2) (chF_m ha (by decide) (by simp))
  · exact chF_t (chF_m cb hB.1 hB.2) (chF_m hb (by decide) (by simp))
  · have : s ≠ 10 := by
      simp only [List.mem_cons, List.not_mem_nil, or_false] at hs
      omega
    rw [hN s this]
    exact hn s hs
  · unfold Mt at *
    rw [dN hb (S := [79, 80, 81]) (P := []) (s := 79) (by decide) (by simp), dN hb (S := [79, 80, 81]) (P := []) (s := 80) (by decide) (by simp), dN hb (S := [79, 80, 81]) (P := []) (s := 81) (by decide) (by simp)]
    exact hM
theorem Mt_c {D : List Nat} {F : List (Nat × Nat)} {b b' : TS} (h : chF D F b b') (hd : dpk D F [79, 80, 81] [] = true) : Mt b' = Mt b := by
  unfold Mt
  rw [dN h hd (s := 79) (by simp), dN h hd (s := 80) (by simp), dN h hd (s := 81) (by simp)]
theorem tn_c {D : List Nat} {F : List (Nat × Nat)} {a a' : TS} (h : chF D F a a') (hd : dpk D F [5, 6, 16, 17] [] = true) (n : Nat) : ∀ s ∈ [5, 6, 16, 17], tN a' s ≤ tN a s + n := fun s hs => by
  rw [dN h hd hs]
  omega
/-- a hearing without a put -/
theorem hear_none {a a1 b b1 : TS} {sh : Nat} (hR1 : R0 a1 b1) (hN1 : Nt a1 b1) (hL : Ln0 a b) (hD : LnD a b sh) (hsh : sh < tZ a 27 0) (hP : PS a a1 b b1) (hL1 : Ln0 a1 b1) (hv : ∀ c, c < 2 * tZ a 27 0 → vA a1 c = vA a c ∧ vQ b1 c = vQ b c ∧ tZ a1 9 c = tZ a 9 c ∧ tI b1 48 c = tI b 48 c) (ca : chF DhA FhA a a1) (cb : chF DhB FhB b b1) (hq1 : groQ b b1) (wa : Wr a a1) (wb : Wr b b1) {n : Nat} (hn : ∀ s ∈ [5, 6, 16, 17], tN a1 s ≤ tN a s + n) (hM : Mt b1 ≤ Mt b + 1) : Hrd a a1 b b1 sh n := by
  obtain ⟨v1, v2, v3, -⟩ := hv (2 * sh + 1) (by omega)
  refine ⟨hR1, hN1, hL1, LnD_c hD hP v1 v2, hP, fun c' hc' _ => hv c' hc', ?_, Or.inl v2, ca, cb, hq1, wa, wb, hn, hM⟩
  obtain ⟨-, m, h2, h3⟩ := hL.1.2.2 (2 * sh + 1) (by omega)
  have hlt := LaT_le hL.1 (show 2 * sh + 1 < 2 * tZ a 27 0 by omega)
  rw [v3, v1, vA_of hL.1 (by omega) h2 h3, vL_len]
  omega
/-- the mails of an answer and of a DONE -/
def mlA (b : TS) (p w rs st told : Int32) : TS := sI (sI (sI (sI (sI (sI (sI (mk b 79 0 0 14) 79 (tN b 79) 0 4) 79 (tN b 79) 1 p) 79 (tN b 79) 12 1) 79 (tN b 79) 11 w) 79 (tN b 79) 9 rs) 79 (tN b 79) 5 st) 79 (tN b 79) 10 told
def mlD (b : TS) (p so nu fg : Int32) : TS := sI (sI (sI (sI (sI (mk b 80 0 0 14) 80 (tN b 80) 0 5) 80 (tN b 80) 1 p) 80 (tN b 80) 8 so) 80 (tN b 80) 7 nu) 80 (tN b 80) 13 fg
theorem mlA_eq (b : TS) (p w rs st told : Int32) : chF [79] [] b (mlA b p w rs st told) ∧ Wr b (mlA b p w rs st told) ∧ groQ b (mlA b p w rs st told) ∧ tN b 79 < tN (mlA b p w rs st told) 79 ∧
    (tI (mlA b p w rs st told) 79 (tN b 79) 0 = 4 ∧ tI (mlA b p w rs st told) 79 (tN b 79) 1 = p ∧ tI (mlA b p w rs st told) 79 (tN b 79) 12 = 1 ∧ tI (mlA b p w rs st told) 79 (tN b 79) 11 = w ∧ tI (mlA b p w rs st told) 79 (tN b 79) 9 = rs ∧ tI (mlA b p w rs st told) 79 (tN b 79) 5 = st ∧ tI (mlA b p w rs st told) 79 (tN b 79) 10 = told ∧ tI (mlA b p w rs st told) 79 (tN b 79) 7 = 0 ∧ tI (mlA b p w rs st told) 79 (tN b 79) 13 = 0) := by
  have ha : chF [79] [] b (mlA b p w rs st told) := by
    unfold mlA
    exact chF_I (by simp) (chF_I (by simp) (chF_I (by simp) (chF_I (by simp) (chF_I (by simp) (chF_I (by simp) (chF_I (by simp) (chF_mk (by simp) (chF_r _ _ _))))))))
  have hN : tN (mlA b p w rs st told) 79 = tN b 79 + 1 := by unfold mlA; simp (config := {decide := true}) only [gfI_enc, gfL_enc, gfR_enc, pfI_enc, pfL_enc, pfR_enc, Option.bind_some, cI_v, cL_v, cF_v, cD_v, cR_v, cV_v, cI_x, cL_x, cR_x, cV_x, gz_0, gz_1, acc_enc, tI_sI, tL_sI, tR_sI, tN_sI, tZ_sI, tC_sI, tc_sI, tz_sI, tI_sL, tL_sL, tR_sL, tN_sL, tZ_sL, tC_sL, tc_sL, tz_sL, tI_sR, tL_sR, tR_sR, tN_sR, tZ_sR, tC_sR, tc_sR, tz_sR, tI_sZ, tL_sZ, tR_sZ, tN_sZ, tZ_sZ, tC_sZ, tc_sZ, tz_sZ, tI_sC, tL_sC, tR_sC, tN_sC, tZ_sC, tC_sC, tc_sC, tz_sC, tI_aC, tL_aC, tR_aC, tN_aC, tZ_aC, tC_aC, tc_aC, tz_aC, tI_rmL, tL_rmL, tR_rmL, tN_rmL, tZ_rmL, tC_rmL, tc_rmL, tz_rmL, tI_mk, tL_mk, tR_mk, tN_mk, tZ_mk, tC_mk, tc_mk, tz_mk, tI_pushL, tL_pushL, tR_pushL, tN_pushL, tZ_pushL, tC_pushL, tc_pushL, tz_pushL, tI_pushB, tL_pushB, tR_pushB, tN_pushB, tZ_pushB, tC_pushB, tc_pushB, tz_pushB, tI_cpL, tL_cpL, tR_cpL, tN_cpL, tZ_cpL, tC_cpL, tc_cpL, tz_cpL, eq_self, true_and, and_true, false_and, and_false, if_true, if_false, reduceIte, ite_true, ite_false, not_true_eq_false, not_false_eq_true]
  refine ⟨ha, ?_, fun s hs => ?_, by omega, ?_⟩
  · unfold mlA
    exact Wr.cI _ _ _ _ (Wr.cI _ _ _ _ (Wr.cI _ _ _ _ (Wr.cI _ _ _ _ (Wr.cI _ _ _ _ (Wr.cI _ _ _ _ (Wr.cI _ _ _ _ (Wr.cM _ _ _ (by decide +kernel) (by decide) (Wr.rf _))))))))
  · by_cases e : s = 79
    · subst e
      refine ⟨by omega, fun i hi k => ?_⟩
      have h : ¬ i = tN b 79 := by omega
      unfold mlA
      simp (config := {decide := true}) only [gfI_enc, gfL_enc, gfR_enc, pfI_enc, pfL_enc, pfR_enc, Option.bind_some, cI_v, cL_v, cF_v, cD_v, cR_v, cV_v, cI_x, cL_x, cR_x, cV_x, gz_0, gz_1, acc_enc, tI_sI, tL_sI, tR_sI, tN_sI, tZ_sI, tC_sI, tc_sI, tz_sI, tI_sL, tL_sL, tR_sL, tN_sL, tZ_sL, tC_sL, tc_sL, tz_sL, tI_sR, tL_sR, tR_sR, tN_sR, tZ_sR, tC_sR, tc_sR, tz_sR, tI_sZ, tL_sZ, tR_sZ, tN_sZ, tZ_sZ, tC_sZ, tc_sZ, tz_sZ, tI_sC, tL_sC, tR_sC, tN_sC, tZ_sC, tC_sC, tc_sC, tz_sC, tI_aC, tL_aC, tR_aC, tN_aC, tZ_aC, tC_aC, tc_aC, tz_aC, tI_rmL, tL_rmL, tR_rmL, tN_rmL, tZ_rmL, tC_rmL, tc_rmL, tz_rmL, tI_mk, tL_mk, tR_mk, tN_mk, tZ_mk, tC_mk, tc_mk, tz_mk, tI_pushL, tL_pushL, tR_pushL, tN_pushL, tZ_pushL, tC_pushL, tc_pushL, tz_pushL, tI_pushB, tL_pushB, tR_pushB, tN_pushB, tZ_pushB, tC_pushB, tc_pushB, tz_pushB, tI_cpL, tL_cpL, tR_cpL, tN_cpL, tZ_cpL, tC_cpL, tc_cpL, tz_cpL, eq_self, true_and, and_true, false_and, and_false, if_true, if_false, reduceIte, ite_true, ite_false, not_true_eq_false, not_false_eq_true, h]
    · obtain ⟨c1, c2, c3, c4, c5, c6⟩ := ha s (by simp [e])
      exact ⟨Nat.le_of_eq c4.symm, fun i _ k => c1 i k (by simp)⟩
  · unfold mlA
    simp (config := {decide := true}) only [gfI_enc, gfL_enc, gfR_enc, pfI_enc, pfL_enc, pfR_enc, Option.bind_some, cI_v, cL_v, cF_v, cD_v, cR_v, cV_v, cI_x, cL_x, cR_x, cV_x, gz_0, gz_1, acc_enc, tI_sI, tL_sI, tR_sI, tN_sI, tZ_sI, tC_sI, tc_sI, tz_sI, tI_sL, tL_sL, tR_sL, tN_sL, tZ_sL, tC_sL, tc_sL, tz_sL, tI_sR, tL_sR, tR_sR, tN_sR, tZ_sR, tC_sR, tc_sR, tz_sR, tI_sZ, tL_sZ, tR_sZ, tN_sZ, tZ_sZ, tC_sZ, tc_sZ, tz_sZ, tI_sC, tL_sC, tR_sC, tN_sC, tZ_sC, tC_sC, tc_sC, tz_sC, tI_aC, tL_aC, tR_aC, tN_aC, tZ_aC, tC_aC, tc_aC, tz_aC, tI_rmL, tL_rmL, tR_rmL, tN_rmL, tZ_rmL, tC_rmL, tc_rmL, tz_rmL, tI_mk, tL_mk, tR_mk, tN_mk, tZ_mk, tC_mk, tc_mk, tz_mk, tI_pushL, tL_pushL, tR_pushL, tN_pushL, tZ_pushL, tC_pushL, tc_pushL, tz_pushL, tI_pushB, tL_pushB, tR_pushB, tN_pushB, tZ_pushB, tC_pushB, tc_pushB, tz_pushB, tI_cpL, tL_cpL, tR_cpL, tN_cpL, tZ_cpL, tC_cpL, tc_cpL, tz_cpL, eq_self, true_and, and_true, false_and, and_false, if_true, if_false, reduceIte, ite_true, ite_false, not_true_eq_false, not_false_eq_true]
theorem mlD_eq (b : TS) (p so nu fg : Int32) : chF [80] [] b (mlD b p so nu fg) ∧ Wr b (mlD b p so nu fg) ∧ groQ b (mlD b p so nu fg) ∧ tN b 80 < tN (mlD b p so nu fg) 80 ∧
    (tI (mlD b p so nu fg) 80 (tN b 80) 0 = 5 ∧ tI (mlD b p so nu fg) 80 (tN b 80) 1 = p ∧ tI (mlD b p so nu fg) 80 (tN b 80) 8 = so ∧ tI (mlD b p so nu fg) 80 (tN b 80) 7 = nu ∧ tI (mlD b p so nu fg) 80 (tN b 80) 13 = fg) := by
  have ha : chF [80] [] b (mlD b p so nu fg) := by
    unfold mlD
    exact chF_I (by simp) (chF_I (by simp) (chF_I (by simp) (chF_I (by simp) (chF_I (by simp) (chF_mk (by simp) (chF_r _ _ _))))))
  have hN : tN (mlD b p so nu fg) 80 = tN b 80 + 1 := by unfold mlD; simp (config := {decide := true}) only [gfI_enc, gfL_enc, gfR_enc, pfI_enc, pfL_enc, pfR_enc, Option.bind_some, cI_v, cL_v, cF_v, cD_v, cR_v, cV_v, cI_x, cL_x, cR_x, cV_x, gz_0, gz_1, acc_enc, tI_sI, tL_sI, tR_sI, tN_sI, tZ_sI, tC_sI, tc_sI, tz_sI, tI_sL, tL_sL, tR_sL, tN_sL, tZ_sL, tC_sL, tc_sL, tz_sL, tI_sR, tL_sR, tR_sR, tN_sR, tZ_sR, tC_sR, tc_sR, tz_sR, tI_sZ, tL_sZ, tR_sZ, tN_sZ, tZ_sZ, tC_sZ, tc_sZ, tz_sZ, tI_sC, tL_sC, tR_sC, tN_sC, tZ_sC, tC_sC, tc_sC, tz_sC, tI_aC, tL_aC, tR_aC, tN_aC, tZ_aC, tC_aC, tc_aC, tz_aC, tI_rmL, tL_rmL, tR_rmL, tN_rmL, tZ_rmL, tC_rmL, tc_rmL, tz_rmL, tI_mk, tL_mk, tR_mk, tN_mk, tZ_mk, tC_mk, tc_mk, tz_mk, tI_pushL, tL_pushL, tR_pushL, tN_pushL, tZ_pushL, tC_pushL, tc_pushL, tz_pushL, tI_pushB, tL_pushB, tR_pushB, tN_pushB, tZ_pushB, tC_pushB, tc_pushB, tz_pushB, tI_cpL, tL_cpL, tR_cpL, tN_cpL, tZ_cpL, tC_cpL, tc_cpL, tz_cpL, eq_self, true_and, and_true, false_and, and_false, if_true, if_false, reduceIte, ite_true, ite_false, not_true_eq_false, not_false_eq_true]
  refine ⟨ha, ?_, fun s hs => ?_, by omega, ?_⟩
  · unfold mlD
    exact Wr.cI _ _ _ _ (Wr.cI _ _ _ _ (Wr.cI _ _ _ _ (Wr.cI _ _ _ _ (Wr.cI _ _ _ _ (Wr.cM _ _ _ (by decide +kernel) (by decide) (Wr.rf _))))))
  · by_cases e : s = 80
    · subst e
      refine ⟨by omega, fun i hi k => ?_⟩
      have h : ¬ i = tN b 80 := by omega
      unfold mlD
      simp (config := {decide := true}) only [gfI_enc, gfL_enc, gfR_enc, pfI_enc, pfL_enc, pfR_enc, Option.bind_some, cI_v, cL_v, cF_v, cD_v, cR_v, cV_v, cI_x, cL_x, cR_x, cV_x, gz_0, gz_1, acc_enc, tI_sI, tL_sI, tR_sI, tN_sI, tZ_sI, tC_sI, tc_sI, tz_sI, tI_sL, tL_sL, tR_sL, tN_sL, tZ_sL, tC_sL, tc_sL, tz_sL, tI_sR, tL_sR, tR_sR, tN_sR, tZ_sR, tC_sR, tc_sR, tz_sR, tI_sZ, tL_sZ, tR_sZ, tN_sZ, tZ_sZ, tC_sZ, tc_sZ, tz_sZ, tI_sC, tL_sC, tR_sC, tN_sC, tZ_sC, tC_sC, tc_sC, tz_sC, tI_aC, tL_aC, tR_aC, tN_aC, tZ_aC, tC_aC, tc_aC, tz_aC, tI_rmL, tL_rmL, tR_rmL, tN_rmL, tZ_rmL, tC_rmL, tc_rmL, tz_rmL, tI_mk, tL_mk, tR_mk, tN_mk, tZ_mk, tC_mk, tc_mk, tz_mk, tI_pushL, tL_pushL, tR_pushL, tN_pushL, tZ_pushL, tC_pushL, tc_pushL, tz_pushL, tI_pushB, tL_pushB, tR_pushB, tN_pushB, tZ_pushB, tC_pushB, tc_pushB, tz_pushB, tI_cpL, tL_cpL, tR_cpL, tN_cpL, tZ_cpL, tC_cpL, tc_cpL, tz_cpL, eq_self, true_and, and_true, false_and, and_false, if_true, if_false, reduceIte, ite_true, ite_false, not_true_eq_false, not_false_eq_true, h]
    · obtain ⟨c1, c2, c3, c4, c5, c6⟩ := ha s (by simp [e])
      exact ⟨Nat.le_of_eq c4.symm, fun i _ k => c1 i k (by simp)⟩
  · unfold mlD
    simp (config := {decide := true}) only [gfI_enc, gfL_enc, gfR_enc, pfI_enc, pfL_enc, pfR_enc, Option.bind_some, cI_v, cL_v, cF_v, cD_v, cR_v, cV_v, cI_x, cL_x, cR_x, cV_x, gz_0, gz_1, acc_enc, tI_sI, tL_sI, tR_sI, tN_sI, tZ_sI, tC_sI, tc_sI, tz_sI, tI_sL, tL_sL, tR_sL, tN_sL, tZ_sL, tC_sL, tc_sL, tz_sL, tI_sR, tL_sR, tR_sR, tN_sR, tZ_sR, tC_sR, tc_sR, tz_sR, tI_sZ, tL_sZ, tR_sZ, tN_sZ, tZ_sZ, tC_sZ, tc_sZ, tz_sZ, tI_sC, tL_sC, tR_sC, tN_sC, tZ_sC, tC_sC, tc_sC, tz_sC, tI_aC, tL_aC, tR_aC, tN_aC, tZ_aC, tC_aC, tc_aC, tz_aC, tI_rmL, tL_rmL, tR_rmL, tN_rmL, tZ_rmL, tC_rmL, tc_rmL, tz_rmL, tI_mk, tL_mk, tR_mk, tN_mk, tZ_mk, tC_mk, tc_mk, tz_mk, tI_pushL, tL_pushL, tR_pushL, tN_pushL, tZ_pushL, tC_pushL, tc_pushL, tz_pushL, tI_pushB, tL_pushB, tR_pushB, tN_pushB, tZ_pushB, tC_pushB, tc_pushB, tz_pushB, tI_cpL, tL_cpL, tR_cpL, tN_cpL, tZ_cpL, tC_cpL, tc_cpL, tz_cpL, eq_self, true_and, and_true, false_and, and_false, if_true, if_false, reduceIte, ite_true, ite_false, not_true_eq_false, not_false_eq_true]
theorem mlA_M (b : TS) (p w rs st told : Int32) : Mt (mlA b p w rs st told) = Mt b + 1 := by
  obtain ⟨h, -⟩ := mlA_eq b p w rs st told
  have h79 : tN (mlA b p w rs st told) 79 = tN b 79 + 1 := by unfold mlA; simp (config := {decide := true}) only [gfI_enc, gfL_enc, gfR_enc, pfI_enc, pfL_enc, pfR_enc, Option.bind_some, cI_v, cL_v, cF_v, cD_v, cR_v, cV_v, cI_x, cL_x, cR_x, cV_x, gz_0, gz_1, acc_enc, tI_sI, tL_sI, tR_sI, tN_sI, tZ_sI, tC_sI, tc_sI, tz_sI, tI_sL, tL_sL, tR_sL, tN_sL, tZ_sL, tC_sL, tc_sL, tz_sL, tI_sR, tL_sR, tR_sR, tN_sR, tZ_sR, tC_sR, tc_sR, tz_sR, tI_sZ, tL_sZ, tR_sZ, tN_sZ, tZ_sZ, tC_sZ, tc_sZ, tz_sZ, tI_sC, tL_sC, tR_sC, tN_sC, tZ_sC, tC_sC, tc_sC, tz_sC, tI_aC, tL_aC, tR_aC, tN_aC, tZ_aC, tC_aC, tc_aC, tz_aC, tI_rmL, tL_rmL, tR_rmL, tN_rmL, tZ_rmL, tC_rmL, tc_rmL, tz_rmL, tI_mk, tL_mk, tR_mk, tN_mk, tZ_mk, tC_mk, tc_mk, tz_mk, tI_pushL, tL_pushL, tR_pushL, tN_pushL, tZ_pushL, tC_pushL, tc_pushL, tz_pushL, tI_pushB, tL_pushB, tR_pushB, tN_pushB, tZ_pushB, tC_pushB, tc_pushB, tz_pushB, tI_cpL, tL_cpL, tR_cpL, tN_cpL, tZ_cpL, tC_cpL, tc_cpL, tz_cpL, eq_self, true_and, and_true, false_and, and_false, if_true, if_false, reduceIte, ite_true, ite_false, not_true_eq_false, not_false_eq_true]
  unfold Mt
  rw [h79, dN h (S := [80, 81]) (P := []) (s := 80) (by decide) (by simp), dN h (S := [80, 81]) (P := []) (s := 81) (by decide) (by simp)]
  omega
theorem mlD_M (b : TS) (p so nu fg : Int32) : Mt (mlD b p so nu fg) = Mt b + 1 := by
  obtain ⟨h, -⟩ := mlD_eq b p so nu fg
  have h80 : tN (mlD b p so nu fg) 80 = tN b 80 + 1 := by unfold mlD; simp (config := {decide := true}) only [gfI_enc, gfL_enc, gfR_enc, pfI_enc, pfL_enc, pfR_enc, Option.bind_some, cI_v, cL_v, cF_v, cD_v, cR_v, cV_v, cI_x, cL_x, cR_x, cV_x, gz_0, gz_1, acc_enc, tI_sI, tL_sI, tR_sI, tN_sI, tZ_sI, tC_sI, tc_sI, tz_sI, tI_sL, tL_sL, tR_sL, tN_sL, tZ_sL, tC_sL, tc_sL, tz_sL, tI_sR, tL_sR, tR_sR, tN_sR, tZ_sR, tC_sR, tc_sR, tz_sR, tI_sZ, tL_sZ, tR_sZ, tN_sZ, tZ_sZ, tC_sZ, tc_sZ, tz_sZ, tI_sC, tL_sC, tR_sC, tN_sC, tZ_sC, tC_sC, tc_sC, tz_sC, tI_aC, tL_aC, tR_aC, tN_aC, tZ_aC, tC_aC, tc_aC, tz_aC, tI_rmL, tL_rmL, tR_rmL, tN_rmL, tZ_rmL, tC_rmL, tc_rmL, tz_rmL, tI_mk, tL_mk, tR_mk, tN_mk, tZ_mk, tC_mk, tc_mk, tz_mk, tI_pushL, tL_pushL, tR_pushL, tN_pushL, tZ_pushL, tC_pushL, tc_pushL, tz_pushL, tI_pushB, tL_pushB, tR_pushB, tN_pushB, tZ_pushB, tC_pushB, tc_pushB, tz_pushB, tI_cpL, tL_cpL, tR_cpL, tN_cpL, tZ_cpL, tC_cpL, tc_cpL, tz_cpL, eq_self, true_and, and_true, false_and, and_false, if_true, if_false, reduceIte, ite_true, ite_false, not_true_eq_false, not_false_eq_true]
  unfold Mt
  rw [h80, dN h (S := [79, 81]) (P := []) (s := 79) (by decide) (by simp), dN h (S := [79, 81]) (P := []) (s := 81) (by decide) (by simp)]
  omega
theorem ml_R0 {a b b' : TS} {t : Nat} (ht : t = 79 ∨ t = 80) (hR : R0 a b) (hN : Nt a b) (hb : chF [t] [] b b') (wb : Wr b b') (hq : groQ b b') : R0 a b' ∧ Nt a b' := by
  have ha : chF [] [] a a := chF_r _ _ _
  have wa : Wr a a := Wr.rf a
  rcases ht with e | e <;> subst e
  · refine ⟨?_, Nt_c hN ha hb (by decide) (by decide) (PM_c ha hb (by decide) (by decide)) (gro_r _ _) hq⟩
    obtain ⟨hFC, hFR, hB, hS, hM, hW, hV, hC, hD, hE, hP, hQ, hH, hK, hG, hO, hZ⟩ := hR
    exact ⟨FxC_s hFC wa ha (by decide), FxR_s hFR wb hb (by decide), RB_c hB ha hb (by decide) (by decide), RS_c hS ha hb (by decide) (by decide), RM_c hM ha hb (by decide) (by decide), RW_c hW ha hb (by decide) (by decide), RV_c hV ha hb (by decide) (by decide), RC_c hC ha hb (by decide) (by decide), RD_c hD ha hb (by decide) (by decide), RE_c hE ha hb (by decide) (by decide), RP_c hP ha hb (by decide) (by decide), RQ_c hQ ha hb (by decide) (by decide), RH_c hH ha hb (by decide) (by decide), RK_c hK ha hb (by decide) (by decide) (gro_c ha (by decide)) (gro_c ha (by decide)) (gro_c ha (by decide)) (gro_c ha (by decide)), RG_c hG ha hb (by decide) (by decide), RO_c hO ha hb (by decide) (by decide), RZ_c hZ ha hb (by decide) (by decide)⟩
  · refine ⟨?_, Nt_c hN ha hb (by decide) (by decide) (PM_c ha hb (by decide) (by decide)) (gro_r _ _) hq⟩
    obtain ⟨hFC, hFR, hB, hS, hM, hW, hV, hC, hD, hE, hP, hQ, hH, hK, hG, hO, hZ⟩ := hR
    exact ⟨FxC_s hFC wa ha (by decide), FxR_s hFR wb hb (by decide), RB_c hB ha hb (by decide) (by decide), RS_c hS ha hb (by decide) (by decide), RM_c hM ha hb (by decide) (by decide), RW_c hW ha hb (by decide) (by decide), RV_c hV ha hb (by decide) (by decide), RC_c hC ha hb (by decide) (by decide), RD_c hD ha hb (by decide) (by decide), RE_c hE ha hb (by decide) (by decide), RP_c hP ha hb (by decide) (by decide), RQ_c hQ ha hb (by decide) (by decide), RH_c hH ha hb (by decide) (by decide), RK_c hK ha hb (by decide) (by decide) (gro_c ha (by decide)) (gro_c ha (by decide)) (gro_c ha (by decide)) (gro_c ha (by decide)), RG_c hG ha hb (by decide) (by decide), RO_c hO ha hb (by decide) (by decide), RZ_c hZ ha hb (by decide) (by decide)⟩
