/-! ===== what holds between the law's acts ===== -/
/-- steps of the class, and j exceptions made -/
def WrX (a0 a : TS) (k : Nat) : Prop := ∀ P : Nat → TS → Prop, (∀ j x y, Wr x y → P j x → P j y) → (∀ j x, P j x → P (j + 1) (aC x 1 6)) → P 0 a0 → P k a
theorem WrX_r (a : TS) : WrX a a 0 := fun _ _ _ h => h
theorem WrX_w {a0 a a' : TS} {k : Nat} (h : WrX a0 a k) (w : Wr a a') : WrX a0 a' k := fun P h1 h2 h3 => h1 _ _ _ w (h P h1 h2 h3)
theorem WrX_e {a0 a : TS} {k : Nat} (h : WrX a0 a k) : WrX a0 (aC a 1 6) (k + 1) := fun P h1 h2 h3 => h2 _ _ (h P h1 h2 h3)
/-- what the law's table says -/
def TL (a b : TS) (t : List Int32) (put : Nat → Int64) : Prop :=
  (t.getD 0 0 = Int32.ofNat (tZ a 26 0) ∧ t.getD 1 0 = Int32.ofNat (tZ a 27 0) ∧ t.getD 2 0 = Int32.ofNat (tZ a 28 0) ∧ t.getD 3 0 = Int32.ofNat (tZ a 29 0) ∧ t.getD 4 0 = tI b 95 0 6) ∧
  ((1 ≤ tZ a 26 0 ∧ tZ a 26 0 ≤ 4) ∧ (1 ≤ tZ a 27 0 ∧ tZ a 27 0 ≤ 3) ∧ (1 ≤ tZ a 28 0 ∧ tZ a 28 0 ≤ 5)) ∧
  (∀ u, u < tZ a 26 0 → put u = (t.getD (10 + u) 0).toInt64) ∧
  (∀ k, k < tZ a 28 0 → t.getD (20 + k) 0 = tI b 86 0 (10 * k + 9) ∧ (t.getD (30 + k) 0 = tI b 86 0 (10 * k + 7) ∧ ∃ v, v ≤ 9999 ∧ tI b 86 0 (10 * k + 7) = Int32.ofNat v) ∧ t.getD (50 + k) 0 = tI b 86 0 (10 * k)) ∧
  (∀ s, s < tZ a 27 0 → t.getD (40 + s) 0 = tI b 88 0 s) ∧ tL b 91 0 8 = S64 put (tZ a 26 0)
/-- no payment yet: no card was touched or is dead -/
def NP0 (a b : TS) : Prop := tZ a 29 0 = 0 → ∀ k, k < tZ a 28 0 → tI b 86 0 (10 * k + 2) = 0 ∧ tI b 86 0 (10 * k + 5) = 0
def IL (a0 a b : TS) (u T L : Nat) (t : List Int32) : Prop := ∃ put D k, (D ≤ u ∧ k ≤ 2 * u ∧ tZ a 29 0 ≤ u ∧ u ≤ 71) ∧ Core a b u ∧ tI b 95 0 1 = Int32.ofNat T ∧ MonI a b D put ∧ LIc a b ∧ KlB a b ∧ FeeI b ∧ FtI a b L (3 * u) ∧ TL a b t put ∧ NP0 a b ∧ WrX a0 a k
theorem TL_g {a a' b b' : TS} {t : List Int32} {put : Nat → Int64} (h : TL a b t put) (z : tZ a' 26 0 = tZ a 26 0 ∧ tZ a' 27 0 = tZ a 27 0 ∧ tZ a' 28 0 = tZ a 28 0 ∧ tZ a' 29 0 = tZ a 29 0) (e6 : tI b' 95 0 6 = tI b 95 0 6) (e86 : ∀ k, k < tZ a 28 0 → tI b' 86 0 (10 * k + 9) = tI b 86 0 (10 * k + 9) ∧ tI b' 86 0 (10 * k + 7) = tI b 86 0 (10 * k + 7) ∧ tI b' 86 0 (10 * k) = tI b 86 0 (10 * k)) (e88 : ∀ s, tI b' 88 0 s = tI b 88 0 s) (e91 : tL b' 91 0 8 = tL b 91 0 8) : TL a' b' t put := by
  obtain ⟨z1, z2, z3, z4⟩ := z
  obtain ⟨h1, h2, h3, h4, h5, h6⟩ := h
  unfold TL
  rw [z1, z2, z3, z4, e6, e91]
  refine ⟨h1, h2, h3, fun k hk => ?_, fun s hs => by rw [e88]; exact h5 s hs, h6⟩
  obtain ⟨x1, x2, x3⟩ := e86 k hk
  rw [x1, x2, x3]
  exact h4 k hk
theorem TL_c {Da Db : List Nat} {Fa Fb : List (Nat × Nat)} {a a' b b' : TS} {t : List Int32} {put : Nat → Int64} (h : TL a b t put) (ca : chF Da Fa a a') (cb : chF Db Fb b b') (hda : dpk Da Fa [26, 27, 28, 29] [] = true) (hdb : dpk Db Fb [86, 88] [(95, 6), (91, 8)] = true) : TL a' b' t put := by
  have z : ∀ s, s ∈ [26, 27, 28, 29] → tZ a' s 0 = tZ a s 0 := fun s hs => dZ ca hda (s := s) hs 0
  have e86 := dIS cb hdb (s := 86) (by simp) 0
  exact TL_g h ⟨z 26 (by simp), z 27 (by simp), z 28 (by simp), z 29 (by simp)⟩ (dI cb hdb (s := 95) (k := 6) (by simp) 0) (fun k _ => ⟨e86 _, e86 _, e86 _⟩) (dIS cb hdb (s := 88) (by simp) 0) (dL cb hdb (s := 91) (k := 8) (by simp) 0)
theorem NP0_c {Da Db : List Nat} {Fa Fb : List (Nat × Nat)} {a a' b b' : TS} (h : NP0 a b) (ca : chF Da Fa a a') (cb : chF Db Fb b b') (hda : dpk Da Fa [28, 29] [] = true) (hdb : dpk Db Fb [86] [] = true) : NP0 a' b' := by
  have z : ∀ s, s ∈ [28, 29] → tZ a' s 0 = tZ a s 0 := fun s hs => dZ ca hda (s := s) hs 0
  have e86 := dIS cb hdb (s := 86) (by simp) 0
  intro w k hk
  rw [z 29 (by simp)] at w
  rw [z 28 (by simp)] at hk
  rw [e86, e86]
  exact h w k hk
theorem NP0_t {a b : TS} (h : tZ a 29 0 ≠ 0) : NP0 a b := fun w => absurd w h
theorem FeeI_c {D : List Nat} {F : List (Nat × Nat)} {b b' : TS} (h : FeeI b) (cb : chF D F b b') (hd : dpk D F [] [(97, 7)] = true) : FeeI b' := by
  unfold FeeI
  rw [dI cb hd (s := 97) (k := 7) (by simp) 0]
  exact h
/-- more calls -/
theorem Core_C {a b : TS} {C C' : Nat} (h : Core a b C) (h1 : C ≤ C') (h2 : C' ≤ 512) : Core a b C' := by
  obtain ⟨hA, ⟨T, m1, m2, m3, m4, m5, m6, m7⟩, ht⟩ := h
  exact ⟨hA, ⟨T, m1, h2, m3, ⟨by omega, m4.2⟩, by omega, m6, m7⟩, ht⟩
theorem FtI_F2 {a b : TS} {L L' F F' : Nat} (h : FtI a b L F) (h1 : F ≤ F') (h2 : L ≤ L') : FtI a b L' F' := ⟨fun s hs => Nat.le_trans (h.1 s hs) h2, fun c k hc hk => by
  have := h.2 c k hc hk
  omega⟩
theorem IL_u {a0 a b : TS} {u T L : Nat} {t : List Int32} (h : IL a0 a b u T L t) (hu : u + 1 ≤ 71) : IL a0 a b (u + 1) T L t := by
  obtain ⟨put, D, k, ⟨h1, h2, h3, h4⟩, hC, hT, hM, hL, hK, hf, hF, hTL, hN, hW⟩ := h
  exact ⟨put, D, k, ⟨by omega, by omega, by omega, hu⟩, Core_C hC (by omega) (by omega), hT, hM, hL, hK, hf, FtI_F2 hF (by omega) (Nat.le_refl _), hTL, hN, hW⟩
/-- calls that touch nothing of it -/
theorem IL_any {Da Db : List Nat} {Fa Fb : List (Nat × Nat)} {a0 a a' b b' : TS} {u T L : Nat} {t : List Int32} (h : IL a0 a b u T L t) (hC' : Core a' b' u) (hw : Wr a a') (ca : chF Da Fa a a') (cb : chF Db Fb b b') (hda : dpk Da Fa [8, 9, 10, 15, 19, 21, 22, 26, 27, 28, 29] [(37, 6)] = true) (hda2 : dpk Da [] [26, 27, 28, 29, 37] [] = true) (hd25 : 25 ∉ Da) (hg17 : gro a a' 17) (hdb : dpk Db Fb [43, 44, 45, 46, 48, 49, 50, 51, 52, 53, 61, 62, 63, 64, 65, 66, 67, 70, 73, 74, 75, 86, 87, 88] [(95, 1), (95, 3), (95, 5), (95, 6), (97, 6), (97, 7), (94, 12), (91, 7), (91, 8)] = true) (hg : groQ b b') : IL a0 a' b' u T L t := by
  obtain ⟨put, D, k, h1, hC, hT, hM, hL, hK, hf, hF, hTL, hN, hW⟩ := h
  have hAl := hC.1
  have hAl' := hC'.1
  have z29 : tZ a' 29 0 = tZ a 29 0 := dZ ca hda (s := 29) (by simp) 0
  have hv := (Ln0_o hAl.2.2.1.1 ca cb (dpk_sub hda (by simp) (by simp)) hd25 (dpk_sub hdb (by simp) (by simp)) hg).2
  refine ⟨put, D, k, by rw [z29]; exact h1, hC', ?_, ?_, ?_, ?_, ?_, ?_, ?_, ?_, WrX_w hW hw⟩
  · rw [dI cb hdb (s := 95) (k := 1) (by simp) 0]; exact hT
  · exact MonI_any hAl.1 hAl'.1 hM ca cb hda2 (dpk_sub hdb (by simp) (by simp))
  · exact LIc_any hAl hAl' hL ca cb (dpk_sub hda (by simp) (by simp)) hg17 (dpk_sub hdb (by simp) (by simp)) hg (fun c hc => (hv c hc).2) (fun n f _ _ => hI_c cb hdb (by simp) (by simp) n f)
  · exact KlB_c hK ca cb (dpk_sub hda (by simp) (by simp)) (dpk_sub hdb (by simp) (by simp))
  · exact FeeI_c hf cb (dpk_sub hdb (by simp) (by simp))
  · exact FtI_c hF ca cb (dpk_sub hda (by simp) (by simp)) (dpk_sub hdb (by simp) (by simp))
  · exact TL_c hTL ca cb (dpk_sub hda (by simp) (by simp)) (dpk_sub hdb (by simp) (by simp))
  · exact NP0_c hN ca cb (dpk_sub hda (by simp) (by simp)) (dpk_sub hdb (by simp) (by simp))
/-- an exception -/
theorem Core_aC {a b : TS} {C : Nat} (h : Core a b C) : Core (aC a 1 6) b C := h
theorem IL_x {a0 a b : TS} {u T L : Nat} {t : List Int32} (h : IL a0 a b u T L t) (hu : u + 1 ≤ 71) : IL a0 (aC a 1 6) b (u + 1) T L t := by
  obtain ⟨put, D, k, ⟨h1, h2, h3, h4⟩, hC, hT, hM, hL, hK, hf, hF, hTL, hN, hW⟩ := h
  exact ⟨put, D, k + 1, ⟨by omega, by omega, by show tZ a 29 0 ≤ _; omega, hu⟩, Core_C (Core_aC hC) (by omega) (by omega), hT, hM, hL, hK, hf, FtI_F2 (show FtI (aC a 1 6) b L (3 * u) from hF) (by omega) (Nat.le_refl _), hTL, hN, WrX_e hW⟩
