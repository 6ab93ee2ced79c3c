/-! ===== the class reads: numbers, a command ===== -/
def FsA : List (Nat × Nat) := [(24, 1), (24, 2), (14, 0), (14, 1), (14, 2), (14, 3)]
theorem SnA_c {a a' : TS} {g : Nat → Nat} {L : Nat} (h : SnA a g L) (ha : chF [] FsA a a') (wa : Wr a a') : SnA a' g L := by
  obtain ⟨hF, hL, hL6, hg⟩ := h
  obtain ⟨i13, -, -, -, z13, -⟩ := ha 13 (by simp)
  exact ⟨FxC_s hF wa ha (by decide), (z13 0).trans hL, hL6, fun k hk => by rw [i13 0 k (by simp [FsA])]; exact hg k hk⟩
theorem chF_24 {a a' : TS} (h : chF [] FsA a a') (f : Nat) (v : Int32) (hf : f = 1 ∨ f = 2) : chF [] FsA a (sI a' 24 0 f v) := fun s hs => by
  obtain ⟨c1, c2, c3, c4, c5, c6⟩ := h s hs
  refine ⟨fun i k q => ?_, c2, c3, c4, c5, c6⟩
  rw [tI_sI, if_neg (fun w => q (by obtain ⟨w1, -, w3⟩ := w; subst w1 w3; rcases hf with e | e <;> subst e <;> simp [FsA]))]
  exact c1 i k q
theorem chF_14 {a a' : TS} (h : chF [] FsA a a') (f : Nat) (v : Int32) (hf : f < 4) : chF [] FsA a (sI a' 14 0 f v) := fun s hs => by
  obtain ⟨c1, c2, c3, c4, c5, c6⟩ := h s hs
  refine ⟨fun i k q => ?_, c2, c3, c4, c5, c6⟩
  rw [tI_sI, if_neg (fun w => q (by
    obtain ⟨w1, -, w3⟩ := w
    have : f = 0 ∨ f = 1 ∨ f = 2 ∨ f = 3 := by omega
    subst w1 w3
    rcases this with e | e | e | e <;> subst e <;> simp [FsA]))]
  exact c1 i k q
theorem x57_f {a : TS} {z : Hp} {g : Nat → Nat} {L q f : Nat} (h : SnA a g L) (hq : q ≤ L) (h1 : tI a 24 0 1 = Int32.ofNat q) (hr : rdE g L q = .inl f) : Ex 57 [aR (some (24, 0))] (enc 1 a z) = some (.inl (some (aI (Int32.ofNat f))), enc 1 a z) := by
  have f58 := fun z => x58 (z := z) h hq
  have t2 := tk_le g hq
  obtain ⟨hF, hL, hL6, hg⟩ := h
  unfold rdE at hr
  split at hr
  · cases hr
  · rename_i w
    cases hr
    refine (X_in (by decide +kernel) (fcN_24 hF) rfl).trans ((lf_57_0 ..).trans ?_)
    by_cases e : tk g L q < L
    · have e1 : ¬ Int32.ofNat L ≤ Int32.ofNat (tk g L q) := by rw [o_le (by omega) (by omega)]; omega
      obtain ⟨v, v1, v2⟩ := hg _ e
      have e2 : ¬ Int32.ofNat (g (tk g L q)) = 59 := fun w2 => w ⟨e, o_inj (by omega) (by omega) (show Int32.ofNat (g (tk g L q)) = Int32.ofNat 59 from w2)⟩
      have g1 : (Int32.ofNat (tk g L q)).toNatClampNeg = tk g L q := o_ix (by omega)
      have g2 : ¬ Int32.ofNat (tk g L q) < 0 := o_lt0 (by omega)
      simp (config := {decide := true}) only [gfI_enc, gfL_enc, gfR_enc, pfI_enc, pfL_enc, pfR_enc, Option.bind_some, cI_v, cL_v, cF_v, cD_v, cR_v, cV_v, cI_x, cL_x, cR_x, cV_x, gz_0, gz_1, acc_enc, tI_sI, tL_sI, tR_sI, tN_sI, tZ_sI, tC_sI, tc_sI, tz_sI, tI_sL, tL_sL, tR_sL, tN_sL, tZ_sL, tC_sL, tc_sL, tz_sL, tI_sR, tL_sR, tR_sR, tN_sR, tZ_sR, tC_sR, tc_sR, tz_sR, tI_sZ, tL_sZ, tR_sZ, tN_sZ, tZ_sZ, tC_sZ, tc_sZ, tz_sZ, tI_sC, tL_sC, tR_sC, tN_sC, tZ_sC, tC_sC, tc_sC, tz_sC, tI_aC, tL_aC, tR_aC, tN_aC, tZ_aC, tC_aC, tc_aC, tz_aC, tI_rmL, tL_rmL, tR_rmL, tN_rmL, tZ_rmL, tC_rmL, tc_rmL, tz_rmL, tI_mk, tL_mk, tR_mk, tN_mk, tZ_mk, tC_mk, tc_mk, tz_mk, tI_pushL, tL_pushL, tR_pushL, tN_pushL, tZ_pushL, tC_pushL, tc_pushL, tz_pushL, tI_pushB, tL_pushB, tR_pushB, tN_pushB, tZ_pushB, tC_pushB, tc_pushB, tz_pushB, tI_cpL, tL_cpL, tR_cpL, tN_cpL, tZ_cpL, tC_cpL, tc_cpL, tz_cpL, eq_self, true_and, and_true, false_and, and_false, if_true, if_false, reduceIte, ite_true, ite_false, not_true_eq_false, not_false_eq_true, fcN_24 hF, h1, f58, fcR_24_0 hF, X412, X413, fcN_13 hF, hL, e1, g1, g2, e, v, e2]
    · have e1 : Int32.ofNat L ≤ Int32.ofNat (tk g L q) := by rw [o_le (by omega) (by omega)]; omega
      simp (config := {decide := true}) only [gfI_enc, gfL_enc, gfR_enc, pfI_enc, pfL_enc, pfR_enc, Option.bind_some, cI_v, cL_v, cF_v, cD_v, cR_v, cV_v, cI_x, cL_x, cR_x, cV_x, gz_0, gz_1, acc_enc, tI_sI, tL_sI, tR_sI, tN_sI, tZ_sI, tC_sI, tc_sI, tz_sI, tI_sL, tL_sL, tR_sL, tN_sL, tZ_sL, tC_sL, tc_sL, tz_sL, tI_sR, tL_sR, tR_sR, tN_sR, tZ_sR, tC_sR, tc_sR, tz_sR, tI_sZ, tL_sZ, tR_sZ, tN_sZ, tZ_sZ, tC_sZ, tc_sZ, tz_sZ, tI_sC, tL_sC, tR_sC, tN_sC, tZ_sC, tC_sC, tc_sC, tz_sC, tI_aC, tL_aC, tR_aC, tN_aC, tZ_aC, tC_aC, tc_aC, tz_aC, tI_rmL, tL_rmL, tR_rmL, tN_rmL, tZ_rmL, tC_rmL, tc_rmL, tz_rmL, tI_mk, tL_mk, tR_mk, tN_mk, tZ_mk, tC_mk, tc_mk, tz_mk, tI_pushL, tL_pushL, tR_pushL, tN_pushL, tZ_pushL, tC_pushL, tc_pushL, tz_pushL, tI_pushB, tL_pushB, tR_pushB, tN_pushB, tZ_pushB, tC_pushB, tc_pushB, tz_pushB, tI_cpL, tL_cpL, tR_cpL, tN_cpL, tZ_cpL, tC_cpL, tc_cpL, tz_cpL, eq_self, true_and, and_true, false_and, and_false, if_true, if_false, reduceIte, ite_true, ite_false, not_true_eq_false, not_false_eq_true, fcN_24 hF, h1, f58, fcR_24_0 hF, X412, fcN_13 hF, hL, e1]
theorem x57_r {a : TS} {z : Hp} {g : Nat → Nat} {L q r : Nat} (h : SnA a g L) (hq : q ≤ L) (h1 : tI a 24 0 1 = Int32.ofNat q) (hr : rdE g L q = .inr r) : Ex 57 [aR (some (24, 0))] (enc 1 a z) = some (.inl (some (aI (-1))), enc 1 (sI a 24 0 1 (Int32.ofNat r)) z) := by
  have f58 := fun z => x58 (z := z) h hq
  have t2 := tk_le g hq
  obtain ⟨hF, hL, hL6, hg⟩ := h
  unfold rdE at hr
  split at hr
  · rename_i w
    cases hr
    obtain ⟨e, e2⟩ := w
    refine (X_in (by decide +kernel) (fcN_24 hF) rfl).trans ((lf_57_0 ..).trans ?_)
    have e1 : ¬ Int32.ofNat L ≤ Int32.ofNat (tk g L q) := by rw [o_le (by omega) (by omega)]; omega
    obtain ⟨v, v1, v2⟩ := hg _ e
    rw [e2] at v
    have v : tI a 13 0 (tk g L q) = 59 := v
    have g1 : (Int32.ofNat (tk g L q)).toNatClampNeg = tk g L q := o_ix (by omega)
    have g2 : ¬ Int32.ofNat (tk g L q) < 0 := o_lt0 (by omega)
    simp (config := {decide := true}) only [gfI_enc, gfL_enc, gfR_enc, pfI_enc, pfL_enc, pfR_enc, Option.bind_some, cI_v, cL_v, cF_v, cD_v, cR_v, cV_v, cI_x, cL_x, cR_x, cV_x, gz_0, gz_1, acc_enc, tI_sI, tL_sI, tR_sI, tN_sI, tZ_sI, tC_sI, tc_sI, tz_sI, tI_sL, tL_sL, tR_sL, tN_sL, tZ_sL, tC_sL, tc_sL, tz_sL, tI_sR, tL_sR, tR_sR, tN_sR, tZ_sR, tC_sR, tc_sR, tz_sR, tI_sZ, tL_sZ, tR_sZ, tN_sZ, tZ_sZ, tC_sZ, tc_sZ, tz_sZ, tI_sC, tL_sC, tR_sC, tN_sC, tZ_sC, tC_sC, tc_sC, tz_sC, tI_aC, tL_aC, tR_aC, tN_aC, tZ_aC, tC_aC, tc_aC, tz_aC, tI_rmL, tL_rmL, tR_rmL, tN_rmL, tZ_rmL, tC_rmL, tc_rmL, tz_rmL, tI_mk, tL_mk, tR_mk, tN_mk, tZ_mk, tC_mk, tc_mk, tz_mk, tI_pushL, tL_pushL, tR_pushL, tN_pushL, tZ_pushL, tC_pushL, tc_pushL, tz_pushL, tI_pushB, tL_pushB, tR_pushB, tN_pushB, tZ_pushB, tC_pushB, tc_pushB, tz_pushB, tI_cpL, tL_cpL, tR_cpL, tN_cpL, tZ_cpL, tC_cpL, tc_cpL, tz_cpL, eq_self, true_and, and_true, false_and, and_false, if_true, if_false, reduceIte, ite_true, ite_false, not_true_eq_false, not_false_eq_true, fcN_24 hF, h1, f58, fcR_24_0 hF, X412, X413, fcN_13 hF, hL, e1, g1, g2, e, v, o_s]
  · cases hr
theorem x59D {a : TS} {z : Hp} {g : Nat → Nat} {L : Nat} (h : SnA a g L) {i : Nat} (hi' : i ≤ L) : Ex 59 [aR (some (24, 0)), aI (Int32.ofNat i), aI 48, aI 57] (enc 1 a z) = some (.inl (some (aI (Int32.ofNat (eD g L i)))), enc 1 a z) := x59 (lo := 48) (hi := 57) h (by decide) (by decide) hi'
theorem x59W {a : TS} {z : Hp} {g : Nat → Nat} {L : Nat} (h : SnA a g L) {i : Nat} (hi' : i ≤ L) : Ex 59 [aR (some (24, 0)), aI (Int32.ofNat i), aI 97, aI 122] (enc 1 a z) = some (.inl (some (aI (Int32.ofNat (eW g L i)))), enc 1 a z) := x59 (lo := 97) (hi := 122) h (by decide) (by decide) hi'
theorem x55_f {a : TS} {z : Hp} {g : Nat → Nat} {L p w : Nat} (h : SnA a g L) (hp : p ≤ L) (h1 : tI a 24 0 1 = Int32.ofNat p) (hr : rdNum g L p = none) : Ex 55 [aR (some (24, 0)), aI (Int32.ofNat w)] (enc 1 a z) = some (.inl (some (aI (Int32.ofNat (tk g L p)))), enc 1 a z) := by
  have f58 := fun z => x58 (z := z) h hp
  have t2 := tk_le g hp
  have f59 := fun z => x59D (z := z) h t2
  have t3 := eD_ge g L (tk g L p)
  have t4 := eD_le g t2
  obtain ⟨hF, hL, hL6, hg⟩ := h
  unfold rdNum at hr
  split at hr
  · rename_i e
    refine (X_in (by decide +kernel) (fcN_24 hF) rfl).trans ((lf_55_0 ..).trans ?_)
    by_cases e1 : eD g L (tk g L p) = tk g L p
    · simp (config := {decide := true}) only [gfI_enc, gfL_enc, gfR_enc, pfI_enc, pfL_enc, pfR_enc, Option.bind_some, cI_v, cL_v, cF_v, cD_v, cR_v, cV_v, cI_x, cL_x, cR_x, cV_x, gz_0, gz_1, acc_enc, tI_sI, tL_sI, tR_sI, tN_sI, tZ_sI, tC_sI, tc_sI, tz_sI, tI_sL, tL_sL, tR_sL, tN_sL, tZ_sL, tC_sL, tc_sL, tz_sL, tI_sR, tL_sR, tR_sR, tN_sR, tZ_sR, tC_sR, tc_sR, tz_sR, tI_sZ, tL_sZ, tR_sZ, tN_sZ, tZ_sZ, tC_sZ, tc_sZ, tz_sZ, tI_sC, tL_sC, tR_sC, tN_sC, tZ_sC, tC_sC, tc_sC, tz_sC, tI_aC, tL_aC, tR_aC, tN_aC, tZ_aC, tC_aC, tc_aC, tz_aC, tI_rmL, tL_rmL, tR_rmL, tN_rmL, tZ_rmL, tC_rmL, tc_rmL, tz_rmL, tI_mk, tL_mk, tR_mk, tN_mk, tZ_mk, tC_mk, tc_mk, tz_mk, tI_pushL, tL_pushL, tR_pushL, tN_pushL, tZ_pushL, tC_pushL, tc_pushL, tz_pushL, tI_pushB, tL_pushB, tR_pushB, tN_pushB, tZ_pushB, tC_pushB, tc_pushB, tz_pushB, tI_cpL, tL_cpL, tR_cpL, tN_cpL, tZ_cpL, tC_cpL, tc_cpL, tz_cpL, eq_self, true_and, and_true, false_and, and_false, if_true, if_false, reduceIte, ite_true, ite_false, not_true_eq_false, not_false_eq_true, fcN_24 hF, h1, f58, f59, e1]
    · have e2 : ¬ Int32.ofNat (eD g L (tk g L p)) = Int32.ofNat (tk g L p) := fun w => e1 (o_inj (by omega) (by omega) w)
      have e3 : Int32.ofNat (eD g L (tk g L p)) - Int32.ofNat (tk g L p) = Int32.ofNat (eD g L (tk g L p) - tk g L p) := o_sb t3
      have e4 : (7 : Int32) < Int32.ofNat (eD g L (tk g L p) - tk g L p) := by
        rw [show (7 : Int32) = Int32.ofNat 7 from rfl, o_lt (by omega) (by omega)]
        omega
      simp (config := {decide := true}) only [gfI_enc, gfL_enc, gfR_enc, pfI_enc, pfL_enc, pfR_enc, Option.bind_some, cI_v, cL_v, cF_v, cD_v, cR_v, cV_v, cI_x, cL_x, cR_x, cV_x, gz_0, gz_1, acc_enc, tI_sI, tL_sI, tR_sI, tN_sI, tZ_sI, tC_sI, tc_sI, tz_sI, tI_sL, tL_sL, tR_sL, tN_sL, tZ_sL, tC_sL, tc_sL, tz_sL, tI_sR, tL_sR, tR_sR, tN_sR, tZ_sR, tC_sR, tc_sR, tz_sR, tI_sZ, tL_sZ, tR_sZ, tN_sZ, tZ_sZ, tC_sZ, tc_sZ, tz_sZ, tI_sC, tL_sC, tR_sC, tN_sC, tZ_sC, tC_sC, tc_sC, tz_sC, tI_aC, tL_aC, tR_aC, tN_aC, tZ_aC, tC_aC, tc_aC, tz_aC, tI_rmL, tL_rmL, tR_rmL, tN_rmL, tZ_rmL, tC_rmL, tc_rmL, tz_rmL, tI_mk, tL_mk, tR_mk, tN_mk, tZ_mk, tC_mk, tc_mk, tz_mk, tI_pushL, tL_pushL, tR_pushL, tN_pushL, tZ_pushL, tC_pushL, tc_pushL, tz_pushL, tI_pushB, tL_pushB, tR_pushB, tN_pushB, tZ_pushB, tC_pushB, tc_pushB, tz_pushB, tI_cpL, tL_cpL, tR_cpL, tN_cpL, tZ_cpL, tC_cpL, tc_cpL, tz_cpL, eq_self, true_and, and_true, false_and, and_false, if_true, if_false, reduceIte, ite_true, ite_false, not_true_eq_false, not_false_eq_true, fcN_24 hF, h1, f58, f59, e2, e3, e4]
  · cases hr
theorem x55_r {a : TS} {z : Hp} {g : Nat → Nat} {L p w q : Nat} {v : Int32} (h : SnA a g L) (hp : p ≤ L) (h1 : tI a 24 0 1 = Int32.ofNat p) (hw : w < 4) (hr : rdNum g L p = some (v, q)) : Ex 55 [aR (some (24, 0)), aI (Int32.ofNat w)] (enc 1 a z) = some (.inl (some (aI (-1))), enc 1 (sI (sI a 14 0 w v) 24 0 1 (Int32.ofNat q)) z) := by
  have f58 := fun z => x58 (z := z) h hp
  have t2 := tk_le g hp
  have f59 := fun z => x59D (z := z) h t2
  obtain ⟨b1, b2, b3, b4, b5, b6⟩ := rdNum_b hp hr
  rw [← b3] at f59
  generalize hs : tk g L p = s at *
  obtain ⟨hF, hL, hL6, hg⟩ := h
  have g1 : (Int32.ofNat w).toNatClampNeg = w := o_ix (by omega)
  have g2 : ¬ Int32.ofNat w < 0 := o_lt0 (by omega)
  have loop : ∀ n k, s + k + n = q → Ru 55 53 [(0, aR (some (24, 0))), (1, aI (Int32.ofNat w)), (3, aI (Int32.ofNat q)), (4, aI (nv g s k)), (5, aI (Int32.ofNat (s + k)))] [] (enc 1 a z) = some (.inl (some (aI (-1))), enc 1 (sI (sI a 14 0 w v) 24 0 1 (Int32.ofNat q)) z) := by
    intro n
    induction n with
    | zero =>
      intro k hk
      have e : s + k = q := by omega
      have le : Int32.ofNat q ≤ Int32.ofNat q := Int32.le_refl _
      have e2 : nv g s k = v := by rw [b6, show q - s = k by omega]
      rw [e, e2, lf_55_53]
      simp (config := {decide := true}) only [gfI_enc, gfL_enc, gfR_enc, pfI_enc, pfL_enc, pfR_enc, Option.bind_some, cI_v, cL_v, cF_v, cD_v, cR_v, cV_v, cI_x, cL_x, cR_x, cV_x, gz_0, gz_1, acc_enc, tI_sI, tL_sI, tR_sI, tN_sI, tZ_sI, tC_sI, tc_sI, tz_sI, tI_sL, tL_sL, tR_sL, tN_sL, tZ_sL, tC_sL, tc_sL, tz_sL, tI_sR, tL_sR, tR_sR, tN_sR, tZ_sR, tC_sR, tc_sR, tz_sR, tI_sZ, tL_sZ, tR_sZ, tN_sZ, tZ_sZ, tC_sZ, tc_sZ, tz_sZ, tI_sC, tL_sC, tR_sC, tN_sC, tZ_sC, tC_sC, tc_sC, tz_sC, tI_aC, tL_aC, tR_aC, tN_aC, tZ_aC, tC_aC, tc_aC, tz_aC, tI_rmL, tL_rmL, tR_rmL, tN_rmL, tZ_rmL, tC_rmL, tc_rmL, tz_rmL, tI_mk, tL_mk, tR_mk, tN_mk, tZ_mk, tC_mk, tc_mk, tz_mk, tI_pushL, tL_pushL, tR_pushL, tN_pushL, tZ_pushL, tC_pushL, tc_pushL, tz_pushL, tI_pushB, tL_pushB, tR_pushB, tN_pushB, tZ_pushB, tC_pushB, tc_pushB, tz_pushB, tI_cpL, tL_cpL, tR_cpL, tN_cpL, tZ_cpL, tC_cpL, tc_cpL, tz_cpL, eq_self, true_and, and_true, false_and, and_false, if_true, if_false, reduceIte, ite_true, ite_false, not_true_eq_false, not_false_eq_true, le, fcN_24 hF, fcR_24_3 hF, fcN_14 hF, paI_enc, fcZ_14 hF, g1, g2, hw]
    | succ n ih =>
      intro k hk
      have le : ¬ Int32.ofNat q ≤ Int32.ofNat (s + k) := by rw [o_le (by omega) (by omega)]; omega
      have i1 : (Int32.ofNat (s + k)).toNatClampNeg = s + k := o_ix (by omega)
      have i2 : ¬ Int32.ofNat (s + k) < 0 := o_lt0 (by omega)
      have i3 : s + k < L := by omega
      have vv := (hg (s + k) i3).1
      have hi2 := ih (k + 1) (by omega)
      rw [nv_s, show s + (k + 1) = s + k + 1 from rfl] at hi2
      rw [lf_55_53]
      simp (config := {decide := true}) only [gfI_enc, gfL_enc, gfR_enc, pfI_enc, pfL_enc, pfR_enc, Option.bind_some, cI_v, cL_v, cF_v, cD_v, cR_v, cV_v, cI_x, cL_x, cR_x, cV_x, gz_0, gz_1, acc_enc, tI_sI, tL_sI, tR_sI, tN_sI, tZ_sI, tC_sI, tc_sI, tz_sI, tI_sL, tL_sL, tR_sL, tN_sL, tZ_sL, tC_sL, tc_sL, tz_sL, tI_sR, tL_sR, tR_sR, tN_sR, tZ_sR, tC_sR, tc_sR, tz_sR, tI_sZ, tL_sZ, tR_sZ, tN_sZ, tZ_sZ, tC_sZ, tc_sZ, tz_sZ, tI_sC, tL_sC, tR_sC, tN_sC, tZ_sC, tC_sC, tc_sC, tz_sC, tI_aC, tL_aC, tR_aC, tN_aC, tZ_aC, tC_aC, tc_aC, tz_aC, tI_rmL, tL_rmL, tR_rmL, tN_rmL, tZ_rmL, tC_rmL, tc_rmL, tz_rmL, tI_mk, tL_mk, tR_mk, tN_mk, tZ_mk, tC_mk, tc_mk, tz_mk, tI_pushL, tL_pushL, tR_pushL, tN_pushL, tZ_pushL, tC_pushL, tc_pushL, tz_pushL, tI_pushB, tL_pushB, tR_pushB, tN_pushB, tZ_pushB, tC_pushB, tc_pushB, tz_pushB, tI_cpL, tL_cpL, tR_cpL, tN_cpL, tZ_cpL, tC_cpL, tc_cpL, tz_cpL, eq_self, true_and, and_true, false_and, and_false, if_true, if_false, reduceIte, ite_true, ite_false, not_true_eq_false, not_false_eq_true, le, fcN_24 hF, fcR_24_0 hF, X413, fcN_13 hF, hL, i1, i2, i3, vv, o_s]
      exact hi2
  have l0 := loop (q - s) 0 (by omega)
  rw [Nat.add_zero, show nv g s 0 = 0 from rfl] at l0
  have e2 : ¬ Int32.ofNat q = Int32.ofNat s := fun w => by
    have := o_inj (by omega) (by omega) w
    omega
  have e3 : Int32.ofNat q - Int32.ofNat s = Int32.ofNat (q - s) := o_sb (by omega)
  have e4 : ¬ (7 : Int32) < Int32.ofNat (q - s) := by
    rw [show (7 : Int32) = Int32.ofNat 7 from rfl, o_lt (by omega) (by omega)]
    omega
  have e5 : Int32.ofNat w < Int32.ofNat 4 := by rw [o_lt (by omega) (by omega)]; exact hw
  refine (X_in (by decide +kernel) (fcN_24 hF) rfl).trans ((lf_55_0 ..).trans ?_)
  simp (config := {decide := true}) only [gfI_enc, gfL_enc, gfR_enc, pfI_enc, pfL_enc, pfR_enc, Option.bind_some, cI_v, cL_v, cF_v, cD_v, cR_v, cV_v, cI_x, cL_x, cR_x, cV_x, gz_0, gz_1, acc_enc, tI_sI, tL_sI, tR_sI, tN_sI, tZ_sI, tC_sI, tc_sI, tz_sI, tI_sL, tL_sL, tR_sL, tN_sL, tZ_sL, tC_sL, tc_sL, tz_sL, tI_sR, tL_sR, tR_sR, tN_sR, tZ_sR, tC_sR, tc_sR, tz_sR, tI_sZ, tL_sZ, tR_sZ, tN_sZ, tZ_sZ, tC_sZ, tc_sZ, tz_sZ, tI_sC, tL_sC, tR_sC, tN_sC, tZ_sC, tC_sC, tc_sC, tz_sC, tI_aC, tL_aC, tR_aC, tN_aC, tZ_aC, tC_aC, tc_aC, tz_aC, tI_rmL, tL_rmL, tR_rmL, tN_rmL, tZ_rmL, tC_rmL, tc_rmL, tz_rmL, tI_mk, tL_mk, tR_mk, tN_mk, tZ_mk, tC_mk, tc_mk, tz_mk, tI_pushL, tL_pushL, tR_pushL, tN_pushL, tZ_pushL, tC_pushL, tc_pushL, tz_pushL, tI_pushB, tL_pushB, tR_pushB, tN_pushB, tZ_pushB, tC_pushB, tc_pushB, tz_pushB, tI_cpL, tL_cpL, tR_cpL, tN_cpL, tZ_cpL, tC_cpL, tc_cpL, tz_cpL, eq_self, true_and, and_true, false_and, and_false, if_true, if_false, reduceIte, ite_true, ite_false, not_true_eq_false, not_false_eq_true, fcN_24 hF, h1, f58, f59, e2, e3, e4, g2, fcR_24_3 hF, len_enc, fcN_14 hF, fcZ_14 hF, e5]
  exact l0
theorem x56_f {a : TS} {z : Hp} {g : Nat → Nat} {L p : Nat} (h : SnA a g L) (hz : Zk z) (hp : p ≤ L) (h1 : tI a 24 0 1 = Int32.ofNat p) (hr : rdPin g L p = none) : Ex 56 [aR (some (24, 0))] (enc 1 a z) = some (.inl (some (aI (Int32.ofNat (tk g L p)))), enc 1 a z) := by
  have f58 := fun z => x58 (z := z) h hp
  have t2 := tk_le g hp
  have f59 := fun z => x59W (z := z) h t2
  have f60 : Ex 60 [aR (some (24, 0)), aI (Int32.ofNat (tk g L p)), aI (Int32.ofNat (eW g L (tk g L p))), aR (some (0, 10))] (enc 1 a z) = _ := x60 (j := 0) h hz (by omega) (eW_ge ..) (eW_le _ t2)
  unfold rdPin at hr
  split at hr
  · cases hr
  · rename_i w
    rw [if_neg w] at f60
    have f55 : ∀ z, Ex 55 [aR (some (24, 0)), aI 3] (enc 1 a z) = some (.inl (some (aI (Int32.ofNat (tk g L p)))), enc 1 a z) := fun z => x55_f (w := 3) h hp h1 hr
    refine (X_in (by decide +kernel) (fcN_24 h.1) rfl).trans ((lf_56_0 ..).trans ?_)
    simp (config := {decide := true}) only [gfI_enc, gfL_enc, gfR_enc, pfI_enc, pfL_enc, pfR_enc, Option.bind_some, cI_v, cL_v, cF_v, cD_v, cR_v, cV_v, cI_x, cL_x, cR_x, cV_x, gz_0, gz_1, acc_enc, tI_sI, tL_sI, tR_sI, tN_sI, tZ_sI, tC_sI, tc_sI, tz_sI, tI_sL, tL_sL, tR_sL, tN_sL, tZ_sL, tC_sL, tc_sL, tz_sL, tI_sR, tL_sR, tR_sR, tN_sR, tZ_sR, tC_sR, tc_sR, tz_sR, tI_sZ, tL_sZ, tR_sZ, tN_sZ, tZ_sZ, tC_sZ, tc_sZ, tz_sZ, tI_sC, tL_sC, tR_sC, tN_sC, tZ_sC, tC_sC, tc_sC, tz_sC, tI_aC, tL_aC, tR_aC, tN_aC, tZ_aC, tC_aC, tc_aC, tz_aC, tI_rmL, tL_rmL, tR_rmL, tN_rmL, tZ_rmL, tC_rmL, tc_rmL, tz_rmL, tI_mk, tL_mk, tR_mk, tN_mk, tZ_mk, tC_mk, tc_mk, tz_mk, tI_pushL, tL_pushL, tR_pushL, tN_pushL, tZ_pushL, tC_pushL, tc_pushL, tz_pushL, tI_pushB, tL_pushB, tR_pushB, tN_pushB, tZ_pushB, tC_pushB, tc_pushB, tz_pushB, tI_cpL, tL_cpL, tR_cpL, tN_cpL, tZ_cpL, tC_cpL, tc_cpL, tz_cpL, eq_self, true_and, and_true, false_and, and_false, if_true, if_false, reduceIte, ite_true, ite_false, not_true_eq_false, not_false_eq_true, fcN_24 h.1, h1, f58, f59, f60, f55]
theorem x56_r {a : TS} {g : Nat → Nat} {L p q : Nat} {v : Int32} (h : SnA a g L) (hp : p ≤ L) (h1 : tI a 24 0 1 = Int32.ofNat p) (hr : rdPin g L p = some (v, q)) : ∀ z, Zk z → Ex 56 [aR (some (24, 0))] (enc 1 a z) = some (.inl (some (aI (-1))), enc 1 (sI (sI a 14 0 3 v) 24 0 1 (Int32.ofNat q)) z) := fun z hz => by
  have f58 := fun z => x58 (z := z) h hp
  have t2 := tk_le g hp
  have f59 := fun z => x59W (z := z) h t2
  have f60 : Ex 60 [aR (some (24, 0)), aI (Int32.ofNat (tk g L p)), aI (Int32.ofNat (eW g L (tk g L p))), aR (some (0, 10))] (enc 1 a z) = _ := x60 (j := 0) h hz (by omega) (eW_ge ..) (eW_le _ t2)
  have n10 : ¬ (1 : Int32) = 0 := by decide
  have hF := h.1
  unfold rdPin at hr
  split at hr
  · rename_i w
    cases hr
    rw [if_pos w] at f60
    have g1 : (3 : Int32).toNatClampNeg = 3 := rfl
    refine (X_in (by decide +kernel) (fcN_24 h.1) rfl).trans ((lf_56_0 ..).trans ?_)
    simp (config := {decide := true}) only [gfI_enc, gfL_enc, gfR_enc, pfI_enc, pfL_enc, pfR_enc, Option.bind_some, cI_v, cL_v, cF_v, cD_v, cR_v, cV_v, cI_x, cL_x, cR_x, cV_x, gz_0, gz_1, acc_enc, tI_sI, tL_sI, tR_sI, tN_sI, tZ_sI, tC_sI, tc_sI, tz_sI, tI_sL, tL_sL, tR_sL, tN_sL, tZ_sL, tC_sL, tc_sL, tz_sL, tI_sR, tL_sR, tR_sR, tN_sR, tZ_sR, tC_sR, tc_sR, tz_sR, tI_sZ, tL_sZ, tR_sZ, tN_sZ, tZ_sZ, tC_sZ, tc_sZ, tz_sZ, tI_sC, tL_sC, tR_sC, tN_sC, tZ_sC, tC_sC, tc_sC, tz_sC, tI_aC, tL_aC, tR_aC, tN_aC, tZ_aC, tC_aC, tc_aC, tz_aC, tI_rmL, tL_rmL, tR_rmL, tN_rmL, tZ_rmL, tC_rmL, tc_rmL, tz_rmL, tI_mk, tL_mk, tR_mk, tN_mk, tZ_mk, tC_mk, tc_mk, tz_mk, tI_pushL, tL_pushL, tR_pushL, tN_pushL, tZ_pushL, tC_pushL, tc_pushL, tz_pushL, tI_pushB, tL_pushB, tR_pushB, tN_pushB, tZ_pushB, tC_pushB, tc_pushB, tz_pushB, tI_cpL, tL_cpL, tR_cpL, tN_cpL, tZ_cpL, tC_cpL, tc_cpL, tz_cpL, eq_self, true_and, and_true, false_and, and_false, if_true, if_false, reduceIte, ite_true, ite_false, not_true_eq_false, not_false_eq_true, fcN_24 hF, h1, f58, f59, f60, n10, fcR_24_3 hF, fcN_14 hF, paI_enc, fcZ_14 hF, g1]
  · rename_i w
    rw [if_neg w] at f60
    have f55 : ∀ z, Ex 55 [aR (some (24, 0)), aI 3] (enc 1 a z) = some (.inl (some (aI (-1))), enc 1 (sI (sI a 14 0 3 v) 24 0 1 (Int32.ofNat q)) z) := fun z => x55_r (w := 3) h hp h1 (by omega) hr
    refine (X_in (by decide +kernel) (fcN_24 h.1) rfl).trans ((lf_56_0 ..).trans ?_)
    simp (config := {decide := true}) only [gfI_enc, gfL_enc, gfR_enc, pfI_enc, pfL_enc, pfR_enc, Option.bind_some, cI_v, cL_v, cF_v, cD_v, cR_v, cV_v, cI_x, cL_x, cR_x, cV_x, gz_0, gz_1, acc_enc, tI_sI, tL_sI, tR_sI, tN_sI, tZ_sI, tC_sI, tc_sI, tz_sI, tI_sL, tL_sL, tR_sL, tN_sL, tZ_sL, tC_sL, tc_sL, tz_sL, tI_sR, tL_sR, tR_sR, tN_sR, tZ_sR, tC_sR, tc_sR, tz_sR, tI_sZ, tL_sZ, tR_sZ, tN_sZ, tZ_sZ, tC_sZ, tc_sZ, tz_sZ, tI_sC, tL_sC, tR_sC, tN_sC, tZ_sC, tC_sC, tc_sC, tz_sC, tI_aC, tL_aC, tR_aC, tN_aC, tZ_aC, tC_aC, tc_aC, tz_aC, tI_rmL, tL_rmL, tR_rmL, tN_rmL, tZ_rmL, tC_rmL, tc_rmL, tz_rmL, tI_mk, tL_mk, tR_mk, tN_mk, tZ_mk, tC_mk, tc_mk, tz_mk, tI_pushL, tL_pushL, tR_pushL, tN_pushL, tZ_pushL, tC_pushL, tc_pushL, tz_pushL, tI_pushB, tL_pushB, tR_pushB, tN_pushB, tZ_pushB, tC_pushB, tc_pushB, tz_pushB, tI_cpL, tL_cpL, tR_cpL, tN_cpL, tZ_cpL, tC_cpL, tc_cpL, tz_cpL, eq_self, true_and, and_true, false_and, and_false, if_true, if_false, reduceIte, ite_true, ite_false, not_true_eq_false, not_false_eq_true, fcN_24 hF, h1, f58, f59, f60, f55]
