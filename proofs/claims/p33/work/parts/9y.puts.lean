/-! ===== a put and its room; what the tills say of a payment ===== -/
/-- the room with one put owed -/
def RmO (a b : TS) (C T e w : Nat) : Prop :=
  T ≤ 3000 ∧ C ≤ 512 ∧ tI b 95 0 1 = Int32.ofNat T ∧ (Kc a + GK a b + (200 - tZ a 29 0) ≤ 1000 + C ∧ Kb b ≤ Kc a) ∧
  Mt b + sumS (tZ a 27 0) (phi a b) + e + 301 * GK a b + (200 - tZ a 29 0) ≤ 241000 + 100 * C ∧
  (∀ s ∈ [5, 6, 16, 17], tN a s + sumS (tZ a 27 0) (fun s' => ask0 (vQ b (2 * s'))) + w + 2 * (200 - tZ a 29 0) ≤ 400) ∧
  ∃ K, K + 1 = Kc a ∧ ∀ s, s < tZ a 27 0 → Rsh T (T + 1) K (KTs a b s) (vQ b (2 * s)) (vQ b (2 * s + 1)) (tZ a 9 (2 * s)) (tZ a 9 (2 * s + 1))
theorem RmO_lim {a b : TS} {C T e w s : Nat} (h : RmO a b C T e w) (hs : s < tZ a 27 0) : tZ a 9 (2 * s) < 29998 ∧ (vQ b (2 * s)).length < 90000 := by
  obtain ⟨m1, m2, m3, m4, m5, m6, K, k1, k2⟩ := h
  have r := k2 s hs
  have := Rsh_U r m1 (Nat.le_succ T)
  have := r.2.2.2.1
  omega
theorem RmO_keep {a a' b b' : TS} {C T sh : Nat} {g : Nat → Int32} (hR : R0 a b) (h : RmO a b C T 301 0) (hsh : sh < tZ a 27 0) (hF : KeepF a a' b b' sh g) (hg : g 0 ≠ 0) : Rm0 a' b' C T (fun _ => T + 1) := by
  obtain ⟨m1, m2, m3, m4, m5, m6, K, k1, k2⟩ := h
  obtain ⟨f1, f2, f3, f4, f5, f6, f7, f8, f9, f10, f11, f12, f13, f14⟩ := hF
  obtain ⟨dl, dl1, dl5, dle⟩ := delay_n hR
  rw [m3, dle] at f10
  rw [m3, o_ix (by omega)] at f13
  have z27 : tZ a' 27 0 = tZ a 27 0 := dZ f2 (S := [27]) (P := []) (s := 27) (by decide) (by simp) 0
  have z29 : tZ a' 29 0 = tZ a 29 0 := dZ f2 (S := [29]) (P := []) (s := 29) (by decide) (by simp) 0
  have iB : ∀ s, s ∈ [69, 70, 87, 95] → ∀ i k, tI b' s i k = tI b s i k := fun s hs => dIS f3 (S := [69, 70, 87, 95]) (P := []) (by decide) hs
  have hGK : GK a' b' = GK a b := by
    unfold GK
    rw [z29, unsN_eq (fun p => iB 70 (by simp) 0 p), bkN_eq (fun p => iB 69 (by simp) 0 p)]
    unfold askN
    simp only [iB 87 (by simp)]
  have hKc : Kc a' = Kc a := by
    unfold Kc
    rw [f7 11 (by decide), f7 12 (by decide), f7 23 (by decide), f7 39 (by decide)]
  have hKb : Kb b' = Kb b := by
    unfold Kb
    rw [f8 76 (by decide) (by decide), f8 77 (by decide) (by decide), f8 78 (by decide) (by decide)]
  have hMt : Mt b' = Mt b := by
    unfold Mt
    rw [f8 79 (by decide) (by decide), f8 80 (by decide) (by decide), f8 81 (by decide) (by decide)]
  obtain ⟨l1, l2⟩ := laid_len (tI b 48 (2 * sh)) (Int32.ofNat T + Int32.ofNat dl) g
  have rs := k2 sh hsh
  have rk := RmS_keep (Y := (laid (fK (tI b 48 (2 * sh))) (Int32.ofNat T + Int32.ofNat dl) g).map tm) rs.1 (by rw [List.length_map]; exact l2) (laid_tm m1 dl1 dl5 _ _)
  rw [← List.map_append] at rk
  obtain ⟨s1, s2⟩ := Qr_put (K := K + 1) (z := tZ a 9 (2 * sh)) m1 dl1 dl5 g rs.2.1 (by have := rs.2.2.2.1; omega) rk
  refine ⟨m1, m2, by rw [iB 95 (by simp)]; exact m3, by rw [hKc, hKb, hGK, z29]; exact m4, ?_, fun s hs => ?_, fun s hs => ?_⟩
  · have hph : sumS (tZ a 27 0) (phi a' b') + 0 ≤ sumS (tZ a 27 0) (phi a b) + 301 := by
      refine sumS_at (s := sh) ?_ _ hsh (fun s' hs' hne => ?_)
      · unfold phi
        have := sP_add (KTs a b sh) T
        rw [f10, f11, f13, List.length_append]
        omega
      · unfold phi
        obtain ⟨i1, i2, i3, i4⟩ := f9 (2 * s') (by omega) (by omega)
        rw [i2, i4, f14 s' hs' hne]
        exact Nat.le_refl _
    rw [z27, z29, hMt, hGK]
    omega
  · have e1 : sumS (tZ a 27 0) (fun s' => ask0 (vQ b' (2 * s'))) = sumS (tZ a 27 0) (fun s' => ask0 (vQ b (2 * s'))) := sumS_eq _ (fun s' hs' => by
      by_cases e : s' = sh
      · subst e
        rw [f10, laid_ask hg]
      · rw [(f9 (2 * s') (by omega) (by omega)).2.1])
    have hs' : s ≠ 10 := by
      simp only [List.mem_cons, List.not_mem_nil, or_false] at hs
      omega
    have := m6 s hs
    rw [z27, z29, f7 s hs', e1]
    omega
  · rw [z27] at hs
    rw [hKc]
    by_cases e : s = sh
    · subst e
      obtain ⟨i1, i2, i3, i4⟩ := f9 (2 * s + 1) (by omega) (by omega)
      rw [i2, i3, f13, f12, f10, ← k1]
      exact ⟨rk, s1, rs.2.2.1, s2, by have := rs.2.2.2.2; omega⟩
    · obtain ⟨i1, i2, i3, i4⟩ := f9 (2 * s) (by omega) (by omega)
      obtain ⟨j1, j2, j3, j4⟩ := f9 (2 * s + 1) (by omega) (by omega)
      rw [i2, i3, j2, j3, f14 s hs e]
      exact Rsh_K (k2 s hs) (by omega)
theorem ask0_app (U Y : List Ent) : ask0 (U ++ Y) ≤ ask0 U + Y.length := by
  unfold ask0
  rw [List.countP_append]
  exact Nat.add_le_add_left List.countP_le_length _
theorem RmO_put {a a' b b' : TS} {C T sh w : Nat} {g : Nat → Int32} (hR : R0 a b) (h : RmO a b C T 1 w) (hw : w = 2 ∨ g 0 ≠ 0) (hsh : sh < tZ a 27 0) (hF : PutF a a' b b' (2 * sh) g) : Rm0 a' b' C T (fun _ => T + 1) := by
  have hKT := PutF_KT hF
  obtain ⟨m1, m2, m3, m4, m5, m6, K, k1, k2⟩ := h
  obtain ⟨f1, f2, f3, f4, f5, f6, f7, f8, f9, f10, f11, f12⟩ := hF
  obtain ⟨dl, dl1, dl5, dle⟩ := delay_n hR
  rw [m3, dle] at f10
  have z27 : tZ a' 27 0 = tZ a 27 0 := dZ f2 (S := [27]) (P := []) (s := 27) (by decide) (by simp) 0
  have z29 : tZ a' 29 0 = tZ a 29 0 := dZ f2 (S := [29]) (P := []) (s := 29) (by decide) (by simp) 0
  have iB : ∀ s, s ∈ [69, 70, 87, 95] → ∀ i k, tI b' s i k = tI b s i k := fun s hs => dIS f3 (S := [69, 70, 87, 95]) (P := []) (by decide) hs
  have hGK : GK a' b' = GK a b := by
    unfold GK
    rw [z29, unsN_eq (fun p => iB 70 (by simp) 0 p), bkN_eq (fun p => iB 69 (by simp) 0 p)]
    unfold askN
    simp only [iB 87 (by simp)]
  have hKc : Kc a' = Kc a := by
    unfold Kc
    rw [f7 11 (by decide), f7 12 (by decide), f7 23 (by decide), f7 39 (by decide)]
  have hKb : Kb b' = Kb b := by
    unfold Kb
    rw [f8 76 (by decide) (by decide), f8 77 (by decide) (by decide), f8 78 (by decide) (by decide)]
  have hMt : Mt b' = Mt b := by
    unfold Mt
    rw [f8 79 (by decide) (by decide), f8 80 (by decide) (by decide), f8 81 (by decide) (by decide)]
  obtain ⟨l1, l2⟩ := laid_len (tI b 48 (2 * sh)) (Int32.ofNat T + Int32.ofNat dl) g
  have rs := k2 sh hsh
  have rk := RmS_oth (Y := (laid (fK (tI b 48 (2 * sh))) (Int32.ofNat T + Int32.ofNat dl) g).map tm) rs.1 (by rw [List.length_map]; exact l2) (laid_tm m1 dl1 dl5 _ _)
  rw [← List.map_append] at rk
  obtain ⟨s1, s2⟩ := Qr_put (K := K + 1) (z := tZ a 9 (2 * sh)) m1 dl1 dl5 g rs.2.1 (by have := rs.2.2.2.1; omega) rk
  refine ⟨m1, m2, by rw [iB 95 (by simp)]; exact m3, by rw [hKc, hKb, hGK, z29]; exact m4, ?_, fun s hs => ?_, fun s hs => ?_⟩
  · have hph : sumS (tZ a 27 0) (phi a' b') + 0 ≤ sumS (tZ a 27 0) (phi a b) + 1 := by
      refine sumS_at (s := sh) ?_ _ hsh (fun s' hs' hne => ?_)
      · unfold phi
        rw [f10, f11, hKT, List.length_append]
        omega
      · unfold phi
        obtain ⟨i1, i2, i3, i4⟩ := f9 (2 * s') (by omega) (by omega)
        rw [i2, i4, hKT]
        exact Nat.le_refl _
    rw [z27, z29, hMt, hGK]
    omega
  · have e1 : sumS (tZ a 27 0) (fun s' => ask0 (vQ b' (2 * s'))) + 0 ≤ sumS (tZ a 27 0) (fun s' => ask0 (vQ b (2 * s'))) + w := by
      refine sumS_at (s := sh) ?_ _ hsh (fun s' hs' hne => ?_)
      · rw [f10]
        rcases hw with hw | hw
        · have := ask0_app (vQ b (2 * sh)) (laid (fK (tI b 48 (2 * sh))) (Int32.ofNat T + Int32.ofNat dl) g)
          omega
        · rw [laid_ask hw]
          omega
      · rw [(f9 (2 * s') (by omega) (by omega)).2.1]
        exact Nat.le_refl _
    have hs' : s ≠ 10 := by
      simp only [List.mem_cons, List.not_mem_nil, or_false] at hs
      omega
    have := m6 s hs
    rw [z27, z29, f7 s hs']
    omega
  · rw [z27] at hs
    rw [hKc, hKT]
    by_cases e : s = sh
    · subst e
      obtain ⟨i1, i2, i3, i4⟩ := f9 (2 * s + 1) (by omega) (by omega)
      rw [i2, i3, f12, f10, ← k1]
      exact ⟨rk, s1, rs.2.2.1, s2, by have := rs.2.2.2.2; omega⟩
    · obtain ⟨i1, i2, i3, i4⟩ := f9 (2 * s) (by omega) (by omega)
      obtain ⟨j1, j2, j3, j4⟩ := f9 (2 * s + 1) (by omega) (by omega)
      rw [i2, i3, j2, j3]
      exact Rsh_K (k2 s hs) (by omega)
/-! the tills' answers -/
theorem o_10 (p : Nat) : Int32.ofNat p * (10 : Int32) = Int32.ofNat (10 * p) := by
  rw [Nat.mul_comm]
  exact (Int32.ofNat_mul p 10).symm
theorem y229g {b : TS} {z : Hp} {p w : Nat} (hF : FxR b) (hp : p < 200) (hw : w < 10) : Ex 229 [aR (some (93, 0)), aI (Int32.ofNat p), aI (Int32.ofNat w)] (enc 2 b z) = some (.inl (some (aI (tI b 87 0 (10 * p + w)))), enc 2 b z) := by
  have g1 : (Int32.ofNat (10 * p + w)).toNatClampNeg = 10 * p + w := o_ix (by omega)
  have g2 : ¬ Int32.ofNat (10 * p + w) < 0 := o_lt0 (by omega)
  have g3 : 10 * p + w < 2000 := by omega
  refine (X_in (by decide +kernel) (frN_93 hF) rfl).trans ((lf_229_0 ..).trans ?_)
  simp (config := {decide := true}) only [gfI_enc, gfL_enc, gfR_enc, pfI_enc, pfL_enc, pfR_enc, Option.bind_some, cI_v, cL_v, cF_v, cD_v, cR_v, cV_v, cI_x, cL_x, cR_x, cV_x, gz_0, gz_1, acc_enc, tI_sI, tL_sI, tR_sI, tN_sI, tZ_sI, tC_sI, tc_sI, tz_sI, tI_sL, tL_sL, tR_sL, tN_sL, tZ_sL, tC_sL, tc_sL, tz_sL, tI_sR, tL_sR, tR_sR, tN_sR, tZ_sR, tC_sR, tc_sR, tz_sR, tI_sZ, tL_sZ, tR_sZ, tN_sZ, tZ_sZ, tC_sZ, tc_sZ, tz_sZ, tI_sC, tL_sC, tR_sC, tN_sC, tZ_sC, tC_sC, tc_sC, tz_sC, tI_aC, tL_aC, tR_aC, tN_aC, tZ_aC, tC_aC, tc_aC, tz_aC, tI_rmL, tL_rmL, tR_rmL, tN_rmL, tZ_rmL, tC_rmL, tc_rmL, tz_rmL, tI_mk, tL_mk, tR_mk, tN_mk, tZ_mk, tC_mk, tc_mk, tz_mk, tI_pushL, tL_pushL, tR_pushL, tN_pushL, tZ_pushL, tC_pushL, tc_pushL, tz_pushL, tI_pushB, tL_pushB, tR_pushB, tN_pushB, tZ_pushB, tC_pushB, tc_pushB, tz_pushB, tI_cpL, tL_cpL, tR_cpL, tN_cpL, tZ_cpL, tC_cpL, tc_cpL, tz_cpL, eq_self, true_and, and_true, false_and, and_false, if_true, if_false, reduceIte, ite_true, ite_false, not_true_eq_false, not_false_eq_true, frN_93 hF, frR_93_2 hF, frN_87 hF, frZ_87 hF, gaI_enc, o_10, o_a, g1, g2, g3]
theorem th93_c {b : TS} {v : Int32} : chF [] FtH b (sI b 93 0 10 v) := chF_I (Or.inr (by decide)) (chF_r _ _ _)
theorem th93_w {b : TS} {v : Int32} : Wr b (sI b 93 0 10 v) := (Wr.rf _).cI _ _ _ _
theorem y247 {a b : TS} {z : Hp} {p w : Nat} (hR : R0 a b) (hp : p < tZ a 29 0) (hw : w ≤ 8) : Ex 247 [aR (some (93, 0)), aI (Int32.ofNat p), aI (Int32.ofNat w)] (enc 2 b z) = some (.inl (some (aI (tI b 87 0 (10 * p + w)))), enc 2 (sI b 93 0 10 0) z) := by
  have hF := r_FR hR
  obtain ⟨P1, P2, P3, P4, -⟩ := r_P' hR
  have f1 := y224_1 (inR_mk (k := p) (n := tZ a 29 0) hp (by omega))
  have f2 := y224_1 (inR_of (n := w) (lo := 0) (hi := 9) (by omega) (by omega) (by omega))
  have o0 : Int32.ofNat 0 = 0 := rfl
  have o9 : Int32.ofNat 9 = 9 := rfl
  rw [o0, o9] at f2
  have n9 : ¬ Int32.ofNat w = 9 := fun e => by
    have := o_inj (by omega) (by omega) (show Int32.ofNat w = Int32.ofNat 9 from e)
    omega
  have f225 := fun z => y225_0 (b := b) (z := z) hF
  have hF1 : FxR (sI b 93 0 10 0) := FxR_s hF th93_w (th93_c (b := b) (v := 0)) (by decide)
  have f229 := fun z => y229g (b := sI b 93 0 10 0) (z := z) (p := p) (w := w) hF1 (by omega) (by omega)
  have e87 : tI (sI b 93 0 10 0) 87 0 (10 * p + w) = tI b 87 0 (10 * p + w) := by rw [tI_sI, if_neg (fun q => absurd q.1 (by decide))]
  rw [e87] at f229
  refine (X_in (by decide +kernel) (frN_93 hF) rfl).trans ((lf_247_0 ..).trans ?_)
  simp (config := {decide := true}) only [gfI_enc, gfL_enc, gfR_enc, pfI_enc, pfL_enc, pfR_enc, Option.bind_some, cI_v, cL_v, cF_v, cD_v, cR_v, cV_v, cI_x, cL_x, cR_x, cV_x, gz_0, gz_1, acc_enc, tI_sI, tL_sI, tR_sI, tN_sI, tZ_sI, tC_sI, tc_sI, tz_sI, tI_sL, tL_sL, tR_sL, tN_sL, tZ_sL, tC_sL, tc_sL, tz_sL, tI_sR, tL_sR, tR_sR, tN_sR, tZ_sR, tC_sR, tc_sR, tz_sR, tI_sZ, tL_sZ, tR_sZ, tN_sZ, tZ_sZ, tC_sZ, tc_sZ, tz_sZ, tI_sC, tL_sC, tR_sC, tN_sC, tZ_sC, tC_sC, tc_sC, tz_sC, tI_aC, tL_aC, tR_aC, tN_aC, tZ_aC, tC_aC, tc_aC, tz_aC, tI_rmL, tL_rmL, tR_rmL, tN_rmL, tZ_rmL, tC_rmL, tc_rmL, tz_rmL, tI_mk, tL_mk, tR_mk, tN_mk, tZ_mk, tC_mk, tc_mk, tz_mk, tI_pushL, tL_pushL, tR_pushL, tN_pushL, tZ_pushL, tC_pushL, tc_pushL, tz_pushL, tI_pushB, tL_pushB, tR_pushB, tN_pushB, tZ_pushB, tC_pushB, tc_pushB, tz_pushB, tI_cpL, tL_cpL, tR_cpL, tN_cpL, tZ_cpL, tC_cpL, tc_cpL, tz_cpL, eq_self, true_and, and_true, false_and, and_false, if_true, if_false, reduceIte, ite_true, ite_false, not_true_eq_false, not_false_eq_true, frN_93 hF, P4, f1, f2, f225, n9, f229]
/-- where nothing was thrown, it changes nothing -/
theorem y247s {a b : TS} {z : Hp} {p w : Nat} (hR : R0 a b) (hp : p < tZ a 29 0) (hw : w ≤ 8) (h0 : tI b 93 0 10 = 0) : Ex 247 [aR (some (93, 0)), aI (Int32.ofNat p), aI (Int32.ofNat w)] (enc 2 b z) = some (.inl (some (aI (tI b 87 0 (10 * p + w)))), enc 2 b z) := by
  rw [y247 hR hp hw, sI_self b 93 0 10 h0]
