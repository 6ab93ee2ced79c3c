/-! ===== messages with a payment's numbers ===== -/
def L15 : List Nat := [2, 3, 4, 5, 6, 7, 8, 9, 10, 11, 12, 13, 14, 0, 1]
def msA (s : Nat) (a : TS) (so n cd c m st : Int32) : TS := sI (sI (sI (sI (cpL (mk a s 0 0 15) s (tN a s) (iniM so n) [2, 3, 4, 5, 6, 7, 8, 9, 10, 11, 12, 13, 14, 0, 1]) s (tN a s) 2 cd) s (tN a s) 4 c) s (tN a s) 5 m) s (tN a s) 6 st
def maB (b : TS) (k n cd c m st : Int32) : TS := sI (sI (sI (sI (sI (sI (mk b 77 0 0 14) 77 (tN b 77) 0 k) 77 (tN b 77) 1 n) 77 (tN b 77) 2 cd) 77 (tN b 77) 3 c) 77 (tN b 77) 4 m) 77 (tN b 77) 5 st
theorem msA_eq {s : Nat} (hs : s = 11 ∨ s = 12) (a : TS) (so n cd c m st : Int32) : chF [s] [] a (msA s a so n cd c m st) ∧ Wr a (msA s a so n cd c m st) ∧ (∀ t, tN (msA s a so n cd c m st) t = if t = s then tN a s + 1 else tN a t) ∧ gro a (msA s a so n cd c m st) s ∧
    (∀ f, f < 15 → tI (msA s a so n cd c m st) s (tN a s) f = if f = 0 then so else if f = 1 then n else if f = 2 then cd else if f = 4 then c else if f = 5 then m else if f = 6 then st else if f = 3 then -1 else if f = 12 then -1 else if f = 13 then -1 else 0) := by
  have hk6 : 15 = szN s 0 := by rcases hs with e | e <;> subst e <;> decide +kernel
  have hs100 : dyS s 0 = true := by rcases hs with e | e <;> subst e <;> decide +kernel
  have ha : chF [s] [] a (msA s a so n cd c m st) := by
    unfold msA
    exact chF_I (by simp) (chF_I (by simp) (chF_I (by simp) (chF_I (by simp) (chF_cp (by simp) (chF_mk (by simp) (chF_r _ _ _))))))
  have hw : Wr a (msA s a so n cd c m st) := by
    unfold msA
    exact ((((Wr.cpL (Wr.cM _ _ _ hk6 hs100 (Wr.rf _)) _ _ _ _).cI _ _ _ _).cI _ _ _ _).cI _ _ _ _).cI _ _ _ _
  have hN : ∀ t, tN (msA s a so n cd c m st) t = if t = s then tN a s + 1 else tN a t := fun t => by
    unfold msA
    rw [tN_sI, tN_sI, tN_sI, tN_sI, tN_cpL, tN_mk]
  refine ⟨ha, hw, hN, ⟨by rw [hN, if_pos rfl]; omega, fun i hi k => ?_⟩, fun f hf => ?_⟩
  · unfold msA
    rw [tI_sI, if_neg (fun q => by omega), tI_sI, if_neg (fun q => by omega), tI_sI, if_neg (fun q => by omega), tI_sI, if_neg (fun q => by omega), tI_cpL, if_neg (fun q => by omega), tI_mk, if_neg (fun q => by omega)]
  · unfold msA
    have : f = 0 ∨ f = 1 ∨ f = 2 ∨ f = 3 ∨ f = 4 ∨ f = 5 ∨ f = 6 ∨ f = 7 ∨ f = 8 ∨ f = 9 ∨ f = 10 ∨ f = 11 ∨ f = 12 ∨ f = 13 ∨ f = 14 := by omega
    simp only [tI_sI, tI_cpL, true_and]
    rcases this with q | q | q | q | q | q | q | q | q | q | q | q | q | q | q <;> subst q <;> simp (config := {decide := true}) only [if_true, if_false] <;> rfl
theorem maB_eq (b : TS) (k n cd c m st : Int32) : chF [77] [] b (maB b k n cd c m st) ∧ Wr b (maB b k n cd c m st) ∧ (∀ s, tN (maB b k n cd c m st) s = if s = 77 then tN b 77 + 1 else tN b s) ∧ groQ b (maB b k n cd c m st) ∧
    (∀ f, f < 14 → tI (maB b k n cd c m st) 77 (tN b 77) f = if f = 0 then k else if f = 1 then n else if f = 2 then cd else if f = 3 then c else if f = 4 then m else if f = 5 then st else 0) := by
  have ha : chF [77] [] b (maB b k n cd c m st) := by
    unfold maB
    exact chF_I (by simp) (chF_I (by simp) (chF_I (by simp) (chF_I (by simp) (chF_I (by simp) (chF_I (by simp) (chF_mk (by simp) (chF_r _ _ _)))))))
  have hw : Wr b (maB b k n cd c m st) := by
    unfold maB
    exact ((((((Wr.cM _ _ _ (by decide +kernel) (by decide) (Wr.rf _)).cI _ _ _ _).cI _ _ _ _).cI _ _ _ _).cI _ _ _ _).cI _ _ _ _).cI _ _ _ _
  have hN : ∀ s, tN (maB b k n cd c m st) s = if s = 77 then tN b 77 + 1 else tN b s := fun s => by
    unfold maB
    rw [tN_sI, tN_sI, tN_sI, tN_sI, tN_sI, tN_sI, tN_mk]
  refine ⟨ha, hw, hN, fun s hs => ?_, fun f hf => ?_⟩
  · by_cases e : s = 77
    · subst e
      refine ⟨by rw [hN, if_pos rfl]; omega, fun i hi k => ?_⟩
      unfold maB
      rw [tI_sI, if_neg (fun q => by omega), tI_sI, if_neg (fun q => by omega), tI_sI, if_neg (fun q => by omega), tI_sI, if_neg (fun q => by omega), tI_sI, if_neg (fun q => by omega), tI_sI, if_neg (fun q => by omega), tI_mk, if_neg (fun q => by omega)]
    · obtain ⟨c1, c2, c3, c4, c5, c6⟩ := ha s (by simp [e])
      exact ⟨Nat.le_of_eq c4.symm, fun i _ k => c1 i k (by simp)⟩
  · unfold maB
    simp only [tI_sI, tI_mk, true_and, and_self, if_true]
    have : f = 0 ∨ f = 1 ∨ f = 2 ∨ f = 3 ∨ f = 4 ∨ f = 5 ∨ f = 6 ∨ f = 7 ∨ f = 8 ∨ f = 9 ∨ f = 10 ∨ f = 11 ∨ f = 12 ∨ f = 13 := by omega
    rcases this with q | q | q | q | q | q | q | q | q | q | q | q | q | q <;> subst q <;> simp (config := {decide := true}) only [if_true, if_false]
/-- the class's ASK and RECORD; the reference's mail -/
theorem x48 {a : TS} {z : Hp} {p cd : Nat} (hp : p < tN a 38) (h1 : tR a 38 p 1 = some (37, cd)) (hcd : cd < tN a 37) :
    Ex 48 [aR (some (38, p))] (enc 1 a z) = some (.inl (some (aR (some (11, tN a 11)))), enc 1 (msA 11 a 1 (tI a 38 p 0) (tI a 37 cd 0) (tI a 38 p 4) (tI a 38 p 3) (tI a 38 p 5)) z) := by
  have hnF : nF 6 = 15 := rfl
  have i11 : isM 11 := ⟨by decide +kernel, by decide +kernel⟩
  have l11 : tN a 11 < tN a 11 + 1 := Nat.lt_succ_self _
  have f40 := fun z v => x40 (a := mk a 11 0 0 15) (z := z) (s := 11) (i := tN a 11) 1 v i11 (by rw [tN_mk, if_pos rfl]; omega)
  have f50 : ∀ (A : TS) (z : Hp), p < tN A 38 → tR A 38 p 1 = some (37, cd) → cd < tN A 37 → tN a 11 < tN A 11 → (∀ k, tI A 37 cd k = tI a 37 cd k) → (∀ k, tI A 38 p k = tI a 38 p k) → Ex 50 [aR (some (38, p)), aR (some (11, tN a 11))] (enc 1 A z) = some (.inl (some (aR (some (11, tN a 11)))), enc 1 (sI (sI (sI (sI A 11 (tN a 11) 2 (tI a 37 cd 0)) 11 (tN a 11) 4 (tI a 38 p 4)) 11 (tN a 11) 5 (tI a 38 p 3)) 11 (tN a 11) 6 (tI a 38 p 5)) z) := fun A z g1 g2 g3 g4 g5 g6 => by
    refine (X_in (by decide +kernel) (g1) rfl).trans ((lf_50_0 ..).trans ?_)
    simp (config := {decide := true}) only [gfI_enc, gfL_enc, gfR_enc, pfI_enc, pfL_enc, pfR_enc, Option.bind_some, cI_v, cL_v, cF_v, cD_v, cR_v, cV_v, cI_x, cL_x, cR_x, cV_x, gz_0, gz_1, acc_enc, tI_sI, tL_sI, tR_sI, tN_sI, tZ_sI, tC_sI, tc_sI, tz_sI, tI_sL, tL_sL, tR_sL, tN_sL, tZ_sL, tC_sL, tc_sL, tz_sL, tI_sR, tL_sR, tR_sR, tN_sR, tZ_sR, tC_sR, tc_sR, tz_sR, tI_sZ, tL_sZ, tR_sZ, tN_sZ, tZ_sZ, tC_sZ, tc_sZ, tz_sZ, tI_sC, tL_sC, tR_sC, tN_sC, tZ_sC, tC_sC, tc_sC, tz_sC, tI_aC, tL_aC, tR_aC, tN_aC, tZ_aC, tC_aC, tc_aC, tz_aC, tI_rmL, tL_rmL, tR_rmL, tN_rmL, tZ_rmL, tC_rmL, tc_rmL, tz_rmL, tI_mk, tL_mk, tR_mk, tN_mk, tZ_mk, tC_mk, tc_mk, tz_mk, tI_pushL, tL_pushL, tR_pushL, tN_pushL, tZ_pushL, tC_pushL, tc_pushL, tz_pushL, tI_pushB, tL_pushB, tR_pushB, tN_pushB, tZ_pushB, tC_pushB, tc_pushB, tz_pushB, tI_cpL, tL_cpL, tR_cpL, tN_cpL, tZ_cpL, tC_cpL, tc_cpL, tz_cpL, eq_self, true_and, and_true, false_and, and_false, if_true, if_false, reduceIte, ite_true, ite_false, not_true_eq_false, not_false_eq_true, g1, g2, g3, g4, g5, g6, pm i11]
  refine (X_in (by decide +kernel) (hp) rfl).trans ((lf_48_0 ..).trans ?_)
  rw [nob_enc (by decide +kernel), hnF]
  dsimp only
  simp (config := {decide := true}) only [gfI_enc, gfL_enc, gfR_enc, pfI_enc, pfL_enc, pfR_enc, Option.bind_some, cI_v, cL_v, cF_v, cD_v, cR_v, cV_v, cI_x, cL_x, cR_x, cV_x, gz_0, gz_1, acc_enc, tI_sI, tL_sI, tR_sI, tN_sI, tZ_sI, tC_sI, tc_sI, tz_sI, tI_sL, tL_sL, tR_sL, tN_sL, tZ_sL, tC_sL, tc_sL, tz_sL, tI_sR, tL_sR, tR_sR, tN_sR, tZ_sR, tC_sR, tc_sR, tz_sR, tI_sZ, tL_sZ, tR_sZ, tN_sZ, tZ_sZ, tC_sZ, tc_sZ, tz_sZ, tI_sC, tL_sC, tR_sC, tN_sC, tZ_sC, tC_sC, tc_sC, tz_sC, tI_aC, tL_aC, tR_aC, tN_aC, tZ_aC, tC_aC, tc_aC, tz_aC, tI_rmL, tL_rmL, tR_rmL, tN_rmL, tZ_rmL, tC_rmL, tc_rmL, tz_rmL, tI_mk, tL_mk, tR_mk, tN_mk, tZ_mk, tC_mk, tc_mk, tz_mk, tI_pushL, tL_pushL, tR_pushL, tN_pushL, tZ_pushL, tC_pushL, tc_pushL, tz_pushL, tI_pushB, tL_pushB, tR_pushB, tN_pushB, tZ_pushB, tC_pushB, tc_pushB, tz_pushB, tI_cpL, tL_cpL, tR_cpL, tN_cpL, tZ_cpL, tC_cpL, tc_cpL, tz_cpL, eq_self, true_and, and_true, false_and, and_false, if_true, if_false, reduceIte, ite_true, ite_false, not_true_eq_false, not_false_eq_true, hp]
  rw [f40, cV_v, f50 _ _ (by rw [tN_cpL, tN_mk, if_neg (by decide)]; exact hp) (by rw [tR_cpL, tR_mk, if_neg (fun q => absurd q.1 (by decide))]; exact h1) (by rw [tN_cpL, tN_mk, if_neg (by decide)]; exact hcd) (by rw [tN_cpL, tN_mk, if_pos rfl]; omega) (fun k => by rw [tI_cpL, if_neg (fun q => absurd q.1 (by decide)), tI_mk, if_neg (fun q => absurd q.1 (by decide))]) (fun k => by rw [tI_cpL, if_neg (fun q => absurd q.1 (by decide)), tI_mk, if_neg (fun q => absurd q.1 (by decide))]), cR_v]
  rfl
theorem x49 {a : TS} {z : Hp} {p cd : Nat} (hp : p < tN a 38) (h1 : tR a 38 p 1 = some (37, cd)) (hcd : cd < tN a 37) :
    Ex 49 [aR (some (38, p))] (enc 1 a z) = some (.inl (some (aR (some (12, tN a 12)))), enc 1 (sI (msA 12 a 3 (tI a 38 p 0) (tI a 37 cd 0) (tI a 38 p 4) (tI a 38 p 3) (tI a 38 p 5)) 12 (tN a 12) 7 (tI a 38 p 9)) z) := by
  have hnF : nF 6 = 15 := rfl
  have i12 : isM 12 := ⟨by decide +kernel, by decide +kernel⟩
  have l12 : tN a 12 < tN a 12 + 1 := Nat.lt_succ_self _
  have f40 := fun z v => x40 (a := mk a 12 0 0 15) (z := z) (s := 12) (i := tN a 12) 3 v i12 (by rw [tN_mk, if_pos rfl]; omega)
  have f50 : ∀ (A : TS) (z : Hp), p < tN A 38 → tR A 38 p 1 = some (37, cd) → cd < tN A 37 → tN a 12 < tN A 12 → (∀ k, tI A 37 cd k = tI a 37 cd k) → (∀ k, tI A 38 p k = tI a 38 p k) → Ex 50 [aR (some (38, p)), aR (some (12, tN a 12))] (enc 1 A z) = some (.inl (some (aR (some (12, tN a 12)))), enc 1 (sI (sI (sI (sI A 12 (tN a 12) 2 (tI a 37 cd 0)) 12 (tN a 12) 4 (tI a 38 p 4)) 12 (tN a 12) 5 (tI a 38 p 3)) 12 (tN a 12) 6 (tI a 38 p 5)) z) := fun A z g1 g2 g3 g4 g5 g6 => by
    refine (X_in (by decide +kernel) (g1) rfl).trans ((lf_50_0 ..).trans ?_)
    simp (config := {decide := true}) only [gfI_enc, gfL_enc, gfR_enc, pfI_enc, pfL_enc, pfR_enc, Option.bind_some, cI_v, cL_v, cF_v, cD_v, cR_v, cV_v, cI_x, cL_x, cR_x, cV_x, gz_0, gz_1, acc_enc, tI_sI, tL_sI, tR_sI, tN_sI, tZ_sI, tC_sI, tc_sI, tz_sI, tI_sL, tL_sL, tR_sL, tN_sL, tZ_sL, tC_sL, tc_sL, tz_sL, tI_sR, tL_sR, tR_sR, tN_sR, tZ_sR, tC_sR, tc_sR, tz_sR, tI_sZ, tL_sZ, tR_sZ, tN_sZ, tZ_sZ, tC_sZ, tc_sZ, tz_sZ, tI_sC, tL_sC, tR_sC, tN_sC, tZ_sC, tC_sC, tc_sC, tz_sC, tI_aC, tL_aC, tR_aC, tN_aC, tZ_aC, tC_aC, tc_aC, tz_aC, tI_rmL, tL_rmL, tR_rmL, tN_rmL, tZ_rmL, tC_rmL, tc_rmL, tz_rmL, tI_mk, tL_mk, tR_mk, tN_mk, tZ_mk, tC_mk, tc_mk, tz_mk, tI_pushL, tL_pushL, tR_pushL, tN_pushL, tZ_pushL, tC_pushL, tc_pushL, tz_pushL, tI_pushB, tL_pushB, tR_pushB, tN_pushB, tZ_pushB, tC_pushB, tc_pushB, tz_pushB, tI_cpL, tL_cpL, tR_cpL, tN_cpL, tZ_cpL, tC_cpL, tc_cpL, tz_cpL, eq_self, true_and, and_true, false_and, and_false, if_true, if_false, reduceIte, ite_true, ite_false, not_true_eq_false, not_false_eq_true, g1, g2, g3, g4, g5, g6, pm i12]
  refine (X_in (by decide +kernel) (hp) rfl).trans ((lf_49_0 ..).trans ?_)
  rw [nob_enc (by decide +kernel), hnF]
  dsimp only
  simp (config := {decide := true}) only [gfI_enc, gfL_enc, gfR_enc, pfI_enc, pfL_enc, pfR_enc, Option.bind_some, cI_v, cL_v, cF_v, cD_v, cR_v, cV_v, cI_x, cL_x, cR_x, cV_x, gz_0, gz_1, acc_enc, tI_sI, tL_sI, tR_sI, tN_sI, tZ_sI, tC_sI, tc_sI, tz_sI, tI_sL, tL_sL, tR_sL, tN_sL, tZ_sL, tC_sL, tc_sL, tz_sL, tI_sR, tL_sR, tR_sR, tN_sR, tZ_sR, tC_sR, tc_sR, tz_sR, tI_sZ, tL_sZ, tR_sZ, tN_sZ, tZ_sZ, tC_sZ, tc_sZ, tz_sZ, tI_sC, tL_sC, tR_sC, tN_sC, tZ_sC, tC_sC, tc_sC, tz_sC, tI_aC, tL_aC, tR_aC, tN_aC, tZ_aC, tC_aC, tc_aC, tz_aC, tI_rmL, tL_rmL, tR_rmL, tN_rmL, tZ_rmL, tC_rmL, tc_rmL, tz_rmL, tI_mk, tL_mk, tR_mk, tN_mk, tZ_mk, tC_mk, tc_mk, tz_mk, tI_pushL, tL_pushL, tR_pushL, tN_pushL, tZ_pushL, tC_pushL, tc_pushL, tz_pushL, tI_pushB, tL_pushB, tR_pushB, tN_pushB, tZ_pushB, tC_pushB, tc_pushB, tz_pushB, tI_cpL, tL_cpL, tR_cpL, tN_cpL, tZ_cpL, tC_cpL, tc_cpL, tz_cpL, eq_self, true_and, and_true, false_and, and_false, if_true, if_false, reduceIte, ite_true, ite_false, not_true_eq_false, not_false_eq_true, hp]
  rw [f40, cV_v, f50 _ _ (by rw [tN_cpL, tN_mk, if_neg (by decide)]; exact hp) (by rw [tR_cpL, tR_mk, if_neg (fun q => absurd q.1 (by decide))]; exact h1) (by rw [tN_cpL, tN_mk, if_neg (by decide)]; exact hcd) (by rw [tN_cpL, tN_mk, if_pos rfl]; omega) (fun k => by rw [tI_cpL, if_neg (fun q => absurd q.1 (by decide)), tI_mk, if_neg (fun q => absurd q.1 (by decide))]) (fun k => by rw [tI_cpL, if_neg (fun q => absurd q.1 (by decide)), tI_mk, if_neg (fun q => absurd q.1 (by decide))]), cR_v]
  simp (config := {decide := true}) only [gfI_enc, gfL_enc, gfR_enc, pfI_enc, pfL_enc, pfR_enc, Option.bind_some, cI_v, cL_v, cF_v, cD_v, cR_v, cV_v, cI_x, cL_x, cR_x, cV_x, gz_0, gz_1, acc_enc, tI_sI, tL_sI, tR_sI, tN_sI, tZ_sI, tC_sI, tc_sI, tz_sI, tI_sL, tL_sL, tR_sL, tN_sL, tZ_sL, tC_sL, tc_sL, tz_sL, tI_sR, tL_sR, tR_sR, tN_sR, tZ_sR, tC_sR, tc_sR, tz_sR, tI_sZ, tL_sZ, tR_sZ, tN_sZ, tZ_sZ, tC_sZ, tc_sZ, tz_sZ, tI_sC, tL_sC, tR_sC, tN_sC, tZ_sC, tC_sC, tc_sC, tz_sC, tI_aC, tL_aC, tR_aC, tN_aC, tZ_aC, tC_aC, tc_aC, tz_aC, tI_rmL, tL_rmL, tR_rmL, tN_rmL, tZ_rmL, tC_rmL, tc_rmL, tz_rmL, tI_mk, tL_mk, tR_mk, tN_mk, tZ_mk, tC_mk, tc_mk, tz_mk, tI_pushL, tL_pushL, tR_pushL, tN_pushL, tZ_pushL, tC_pushL, tc_pushL, tz_pushL, tI_pushB, tL_pushB, tR_pushB, tN_pushB, tZ_pushB, tC_pushB, tc_pushB, tz_pushB, tI_cpL, tL_cpL, tR_cpL, tN_cpL, tZ_cpL, tC_cpL, tc_cpL, tz_cpL, eq_self, true_and, and_true, false_and, and_false, if_true, if_false, reduceIte, ite_true, ite_false, not_true_eq_false, not_false_eq_true, hp, pm i12, l12]
  rfl
