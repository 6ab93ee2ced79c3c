/-! ===== lists grow: cards ===== -/
theorem Core_p {D D' : List Nat} {F F' : List (Nat × Nat)} {a a' b b' : TS} {C : Nat} (h : Core a b C) (hR1 : R0 a' b') (hN1 : Nt a' b') (hP : PS a a' b b') (ca : chF D F a a') (cb : chF D' F' b b')
    (hd : dpk D F [5, 6, 8, 9, 10, 11, 12, 13, 14, 16, 17, 18, 19, 21, 22, 23, 24, 27, 29, 39] [] = true) (hd25 : 25 ∉ D) (hd' : dpk D' F' [48, 49, 50, 51, 52, 65, 66, 67, 68, 69, 70, 74, 75, 76, 77, 78, 79, 80, 81, 82, 83, 84, 85, 87, 92] [(95, 1)] = true) (gq' : groQ b b') : Core a' b' C := by
  obtain ⟨⟨hR, hN, hL, hAs, hK⟩, ⟨T, m1, m2, m3, m4, m5, m6, m7⟩, ht⟩ := h
  have sub : ∀ {l : List Nat}, (∀ s ∈ l, s ∈ [5, 6, 8, 9, 10, 11, 12, 13, 14, 16, 17, 18, 19, 21, 22, 23, 24, 27, 29, 39]) → dpk D F l [] = true := fun {l} hl => by
    unfold dpk at hd ⊢
    rw [Bool.and_eq_true] at hd ⊢
    exact ⟨List.all_eq_true.mpr (fun s hs => List.all_eq_true.mp hd.1 s (hl s hs)), rfl⟩
  have sub' : ∀ {l : List Nat} {p : List (Nat × Nat)}, (∀ s ∈ l, s ∈ [48, 49, 50, 51, 52, 65, 66, 67, 68, 69, 70, 74, 75, 76, 77, 78, 79, 80, 81, 82, 83, 84, 85, 87, 92]) → (∀ s ∈ p, s ∈ [((95 : Nat), (1 : Nat))]) → dpk D' F' l p = true := fun {l p} hl hp => by
    unfold dpk at hd' ⊢
    rw [Bool.and_eq_true] at hd' ⊢
    exact ⟨List.all_eq_true.mpr (fun s hs => List.all_eq_true.mp hd'.1 s (hl s hs)), List.all_eq_true.mpr (fun s hs => List.all_eq_true.mp hd'.2 s (hp s hs))⟩
  have nA : ∀ s, s ∈ [5, 6, 11, 12, 16, 17, 23, 39] → tN a' s = tN a s := fun s hs => dN ca hd (by simp only [List.mem_cons, List.not_mem_nil, or_false] at hs ⊢; omega)
  have nB : ∀ s, s ∈ [76, 77, 78, 79, 80, 81] → tN b' s = tN b s := fun s hs => dN cb hd' (by simp only [List.mem_cons, List.not_mem_nil, or_false] at hs ⊢; omega)
  have iB : ∀ s, s ∈ [48, 67, 69, 70, 87] → ∀ i k, tI b' s i k = tI b s i k := fun s hs => dIS cb hd' (by simp only [List.mem_cons, List.not_mem_nil, or_false] at hs ⊢; omega)
  obtain ⟨hL1, hv⟩ := Ln0_o hL.1 ca cb (sub (by decide)) hd25 (sub' (by decide) (by simp)) gq'
  have z27 : tZ a' 27 0 = tZ a 27 0 := dZ ca hd (s := 27) (by decide) 0
  have z29 : tZ a' 29 0 = tZ a 29 0 := dZ ca hd (s := 29) (by decide) 0
  have z9 : ∀ c, tZ a' 9 c = tZ a 9 c := dZ ca hd (s := 9) (by decide)
  have hKT : ∀ s, KTs a' b' s = KTs a b s := fun s => KTs_eq (dZ ca hd (s := 19) (by decide) s) (fun k _ => iB 67 (by simp) 0 _)
  have hGK : GK a' b' = GK a b := by
    unfold GK
    rw [z29, unsN_eq (fun p => iB 70 (by simp) 0 p), bkN_eq (fun p => iB 69 (by simp) 0 p)]
    unfold askN
    simp only [iB 87 (by simp)]
  have hKc : Kc a' = Kc a := by
    unfold Kc
    rw [nA 11 (by simp), nA 12 (by simp), nA 23 (by simp), nA 39 (by simp)]
  have hKb : Kb b' = Kb b := by
    unfold Kb
    rw [nB 76 (by simp), nB 77 (by simp), nB 78 (by simp)]
  refine ⟨⟨hR1, hN1, Ln_c hL hL1 hP z27 hv, As_c hAs ca cb (sub (by decide)) (sub' (by decide) (by simp)), Kp_c hK ca cb (sub (by decide)) (sub' (by decide) (by simp)) hP gq' (fun p _ h => by rw [iB 87 (by simp)]; exact h)⟩, ⟨T, m1, m2, ?_, by rw [hKc, hKb, hGK, z29]; exact m4, ?_, fun s hs => ?_, fun s hs => ?_⟩, Tx_s ht (sam0_c ca (sub (by decide))) (sam0_c cb (sub' (by decide) (by simp)))⟩
  · rw [dI cb hd' (s := 95) (k := 1) (by decide)]
    exact m3
  · have e1 : sumS (tZ a 27 0) (phi a' b') = sumS (tZ a 27 0) (phi a b) := sumS_eq _ (fun s hs => by
      unfold phi
      rw [(hv (2 * s) (by omega)).2, hKT, iB 48 (by simp)])
    have e2 : Mt b' = Mt b := by unfold Mt; rw [nB 79 (by simp), nB 80 (by simp), nB 81 (by simp)]
    rw [z27, z29, hGK, e1, e2]
    exact m5
  · have e1 : sumS (tZ a 27 0) (fun s' => ask0 (vQ b' (2 * s'))) = sumS (tZ a 27 0) (fun s' => ask0 (vQ b (2 * s'))) := sumS_eq _ (fun s hs => by rw [(hv (2 * s) (by omega)).2])
    rw [z27, z29, nA s (by simp only [List.mem_cons, List.not_mem_nil, or_false] at hs ⊢; omega), e1]
    exact m6 s hs
  · rw [z27] at hs
    rw [hKc, hKT, (hv (2 * s) (by omega)).2, (hv (2 * s + 1) (by omega)).2, z9, z9]
    exact m7 s hs
/-- payments, where there come more cards or shops -/
theorem RP_g {D D' : List Nat} {F F' : List (Nat × Nat)} {a a' b b' : TS} (h : RP a b) (ha : chF D F a a') (hb : chF D' F' b b') (hd : dpk D F [29] [(38, 0), (38, 3), (38, 4), (38, 6), (38, 11)] = true) (hd' : dpk D' F' [87] [(93, 8)] = true) (z27 : tZ a 27 0 ≤ tZ a' 27 0) (z28 : tZ a 28 0 ≤ tZ a' 28 0) : RP a' b' := by
  unfold RP capOK at *
  simp only [dC ha hd (s := 29) (by decide), dIS hb hd' (s := 87) (by decide), dI ha hd (s := 38) (k := 0) (by decide), dI ha hd (s := 38) (k := 11) (by decide), dI ha hd (s := 38) (k := 3) (by decide), dI ha hd (s := 38) (k := 4) (by decide), dI ha hd (s := 38) (k := 6) (by decide), dI hb hd' (s := 93) (k := 8) (by decide), dNP ha hd (s := 38) (k := 0) (by decide), dR ha hd (s := 29) (by decide), dRP ha hd (s := 38) (k := 0) (by decide), dZ ha hd (s := 29) (by decide)]
  obtain ⟨p1, p2, p3, p4, p5, p6⟩ := h
  refine ⟨p1, p2, p3, p4, fun p hp => ?_, p6⟩
  obtain ⟨q1, q2, ⟨k, k1, k2⟩, ⟨s, s1, s2⟩, q5⟩ := p5 p hp
  exact ⟨q1, q2, ⟨k, Nat.lt_of_lt_of_le k1 z28, k2⟩, ⟨s, Nat.lt_of_lt_of_le s1 z27, s2⟩, q5⟩
def cdK0 (n : Nat) : Int32 := imod (((((271 : Int32) * Int32.ofNat n) * Int32.ofNat n) + ((7919 : Int32) * Int32.ofNat n)) + (4242 : Int32)) (9973 : Int32)
theorem cdK0_eq {n : Nat} (h : n < 8) : (cdK0 n).toInt64 = keyL (Int32.ofNat n) := by
  have : n = 0 ∨ n = 1 ∨ n = 2 ∨ n = 3 ∨ n = 4 ∨ n = 5 ∨ n = 6 ∨ n = 7 := by omega
  rcases this with e | e | e | e | e | e | e | e <;> subst e <;> decide +kernel
/-- the class's card, the reference's card -/
def cdI (a : TS) : TS := sI (sI (sI (sI (sI (sI (sI (sI (sI (mk a 37 0 0 17) 37 (tN a 37) 6 0) 37 (tN a 37) 7 3) 37 (tN a 37) 8 0) 37 (tN a 37) 9 0) 37 (tN a 37) 10 0) 37 (tN a 37) 11 0) 37 (tN a 37) 12 0) 37 (tN a 37) 13 0) 37 (tN a 37) 14 0
def cdJ (a : TS) (n t : Nat) (p1 : Int32) : TS := sI (sI (sR (sI (sR (mk (sR (mk (cdI a) 1 201 0 201) 37 (tN a 37) 15 (some (1, tN a 1))) 2 201 0 201) 37 (tN a 37) 16 (some (2, tN a 2))) 37 (tN a 37) 0 (Int32.ofNat n)) 37 (tN a 37) 1 (some (35, t))) 37 (tN a 37) 2 p1) 37 (tN a 37) 3 (cdK0 n)
def cdA (a : TS) (n t : Nat) (p1 p2 p3 : Int32) : TS := pushL (sI (sI (cdJ a n t p1) 37 (tN a 37) 4 p2) 37 (tN a 37) 5 p3) 28 0 (some (37, tN a 37))
def cdB (b : TS) (k : Nat) (p0 p1 p2 p3 : Int32) : TS := sI (sI (sI (sI (sI (sI (sI b 93 0 10 0) 86 0 (10 * k + 1) 3) 86 0 (10 * k + 6) p2) 86 0 (10 * k + 7) p1) 86 0 (10 * k + 8) p3) 86 0 (10 * k + 9) p0) 93 0 6 (Int32.ofNat (k + 1))
theorem cdI_N (a : TS) (s : Nat) : tN (cdI a) s = if s = 37 then tN a 37 + 1 else tN a s := by
  unfold cdI
  rw [tN_sI, tN_sI, tN_sI, tN_sI, tN_sI, tN_sI, tN_sI, tN_sI, tN_sI, tN_mk]
theorem x1c {a : TS} {z : Hp} {n t : Nat} (p1 : Int32) (ht : t < tN a 35) : Ex 1 [aR (some (37, tN a 37)), aI (Int32.ofNat n), aR (some (35, t)), aI p1] (enc 1 (mk a 37 0 0 17) z) = some (.inl none, enc 1 (cdJ a n t p1) z) := by
  have i201 : (201 : Int32).toNatClampNeg = 201 := rfl
  have l37 : tN a 37 < tN a 37 + 1 := Nat.lt_succ_self _
  refine (X_in (by decide +kernel) (show tN a 37 < tN (mk a 37 0 0 17) 37 by rw [tN_mk, if_pos rfl]; omega) rfl).trans ((lf_1_0 ..).trans ?_)
  rw [X420 (by decide +kernel) (show tN a 37 < tN (mk a 37 0 0 17) 37 by rw [tN_mk, if_pos rfl]; omega), cV_v]
  simp (config := {decide := true}) only [gfI_enc, gfL_enc, gfR_enc, pfI_enc, pfL_enc, pfR_enc, Option.bind_some, cI_v, cL_v, cF_v, cD_v, cR_v, cV_v, cI_x, cL_x, cR_x, cV_x, gz_0, gz_1, acc_enc, tI_sI, tL_sI, tR_sI, tN_sI, tZ_sI, tC_sI, tc_sI, tz_sI, tI_sL, tL_sL, tR_sL, tN_sL, tZ_sL, tC_sL, tc_sL, tz_sL, tI_sR, tL_sR, tR_sR, tN_sR, tZ_sR, tC_sR, tc_sR, tz_sR, tI_sZ, tL_sZ, tR_sZ, tN_sZ, tZ_sZ, tC_sZ, tc_sZ, tz_sZ, tI_sC, tL_sC, tR_sC, tN_sC, tZ_sC, tC_sC, tc_sC, tz_sC, tI_aC, tL_aC, tR_aC, tN_aC, tZ_aC, tC_aC, tc_aC, tz_aC, tI_rmL, tL_rmL, tR_rmL, tN_rmL, tZ_rmL, tC_rmL, tc_rmL, tz_rmL, tI_mk, tL_mk, tR_mk, tN_mk, tZ_mk, tC_mk, tc_mk, tz_mk, tI_pushL, tL_pushL, tR_pushL, tN_pushL, tZ_pushL, tC_pushL, tc_pushL, tz_pushL, tI_pushB, tL_pushB, tR_pushB, tN_pushB, tZ_pushB, tC_pushB, tc_pushB, tz_pushB, tI_cpL, tL_cpL, tR_cpL, tN_cpL, tZ_cpL, tC_cpL, tc_cpL, tz_cpL, eq_self, true_and, and_true, false_and, and_false, if_true, if_false, reduceIte, ite_true, ite_false, not_true_eq_false, not_false_eq_true, l37]
  rw [nwa_enc (t := 0) (by decide +kernel) (by decide) (fun _ => rfl)]
  simp (config := {decide := true}) only [gfI_enc, gfL_enc, gfR_enc, pfI_enc, pfL_enc, pfR_enc, Option.bind_some, cI_v, cL_v, cF_v, cD_v, cR_v, cV_v, cI_x, cL_x, cR_x, cV_x, gz_0, gz_1, acc_enc, tI_sI, tL_sI, tR_sI, tN_sI, tZ_sI, tC_sI, tc_sI, tz_sI, tI_sL, tL_sL, tR_sL, tN_sL, tZ_sL, tC_sL, tc_sL, tz_sL, tI_sR, tL_sR, tR_sR, tN_sR, tZ_sR, tC_sR, tc_sR, tz_sR, tI_sZ, tL_sZ, tR_sZ, tN_sZ, tZ_sZ, tC_sZ, tc_sZ, tz_sZ, tI_sC, tL_sC, tR_sC, tN_sC, tZ_sC, tC_sC, tc_sC, tz_sC, tI_aC, tL_aC, tR_aC, tN_aC, tZ_aC, tC_aC, tc_aC, tz_aC, tI_rmL, tL_rmL, tR_rmL, tN_rmL, tZ_rmL, tC_rmL, tc_rmL, tz_rmL, tI_mk, tL_mk, tR_mk, tN_mk, tZ_mk, tC_mk, tc_mk, tz_mk, tI_pushL, tL_pushL, tR_pushL, tN_pushL, tZ_pushL, tC_pushL, tc_pushL, tz_pushL, tI_pushB, tL_pushB, tR_pushB, tN_pushB, tZ_pushB, tC_pushB, tc_pushB, tz_pushB, tI_cpL, tL_cpL, tR_cpL, tN_cpL, tZ_cpL, tC_cpL, tc_cpL, tz_cpL, eq_self, true_and, and_true, false_and, and_false, if_true, if_false, reduceIte, ite_true, ite_false, not_true_eq_false, not_false_eq_true, i201, l37]
  rw [nwa_enc (t := 0) (by decide +kernel) (by decide) (fun _ => rfl)]
  have l1 : ∀ n : Nat, n < n + 1 := fun n => Nat.lt_succ_self n
  simp (config := {decide := true}) only [gfI_enc, gfL_enc, gfR_enc, pfI_enc, pfL_enc, pfR_enc, Option.bind_some, cI_v, cL_v, cF_v, cD_v, cR_v, cV_v, cI_x, cL_x, cR_x, cV_x, gz_0, gz_1, acc_enc, tI_sI, tL_sI, tR_sI, tN_sI, tZ_sI, tC_sI, tc_sI, tz_sI, tI_sL, tL_sL, tR_sL, tN_sL, tZ_sL, tC_sL, tc_sL, tz_sL, tI_sR, tL_sR, tR_sR, tN_sR, tZ_sR, tC_sR, tc_sR, tz_sR, tI_sZ, tL_sZ, tR_sZ, tN_sZ, tZ_sZ, tC_sZ, tc_sZ, tz_sZ, tI_sC, tL_sC, tR_sC, tN_sC, tZ_sC, tC_sC, tc_sC, tz_sC, tI_aC, tL_aC, tR_aC, tN_aC, tZ_aC, tC_aC, tc_aC, tz_aC, tI_rmL, tL_rmL, tR_rmL, tN_rmL, tZ_rmL, tC_rmL, tc_rmL, tz_rmL, tI_mk, tL_mk, tR_mk, tN_mk, tZ_mk, tC_mk, tc_mk, tz_mk, tI_pushL, tL_pushL, tR_pushL, tN_pushL, tZ_pushL, tC_pushL, tc_pushL, tz_pushL, tI_pushB, tL_pushB, tR_pushB, tN_pushB, tZ_pushB, tC_pushB, tc_pushB, tz_pushB, tI_cpL, tL_cpL, tR_cpL, tN_cpL, tZ_cpL, tC_cpL, tc_cpL, tz_cpL, eq_self, true_and, and_true, false_and, and_false, if_true, if_false, reduceIte, ite_true, ite_false, not_true_eq_false, not_false_eq_true, i201, l37, ht, l1]
  rfl

theorem f17 {f : Nat} (h : f < 17) : f = 0 ∨ f = 1 ∨ f = 2 ∨ f = 3 ∨ f = 4 ∨ f = 5 ∨ f = 6 ∨ f = 7 ∨ f = 8 ∨ f = 9 ∨ f = 10 ∨ f = 11 ∨ f = 12 ∨ f = 13 ∨ f = 14 ∨ f = 15 ∨ f = 16 := by omega
theorem cdA_I (a : TS) (n t : Nat) (p1 p2 p3 : Int32) (i : Nat) {f : Nat} (hf : f < 17) : tI (cdA a n t p1 p2 p3) 37 i f = if i = tN a 37 then (if f = 5 then p3 else if f = 4 then p2 else if f = 3 then cdK0 n else if f = 2 then p1 else if f = 0 then Int32.ofNat n else if f = 7 then 3 else 0) else tI a 37 i f := by
  unfold cdA cdJ cdI
  by_cases e : i = tN a 37
  · subst e
    simp only [tI_pushL, tI_sI, tI_sR, tI_mk, true_and]
    rcases f17 hf with q | q | q | q | q | q | q | q | q | q | q | q | q | q | q | q | q <;> subst q <;> simp (config := {decide := true}) only [false_and, if_true, if_false]
  · have h2 : ¬ (True ∧ i = tN a 37) := fun q => e q.2
    simp (config := {decide := true}) only [tI_pushL, tI_sI, tI_sR, tI_mk, e, false_and, and_false, if_false]
theorem cdA_R (a : TS) (n t : Nat) (p1 p2 p3 : Int32) (i : Nat) {f : Nat} (hf : f < 17) : tR (cdA a n t p1 p2 p3) 37 i f = if i = tN a 37 then (if f = 1 then some (35, t) else if f = 16 then some (2, tN a 2) else if f = 15 then some (1, tN a 1) else none) else tR a 37 i f := by
  unfold cdA cdJ cdI
  by_cases e : i = tN a 37
  · subst e
    simp only [tR_pushL, tR_sI, tR_sR, tR_mk, true_and]
    rcases f17 hf with q | q | q | q | q | q | q | q | q | q | q | q | q | q | q | q | q <;> subst q <;> simp (config := {decide := true}) only [false_and, if_true, if_false]
  · simp (config := {decide := true}) only [tR_pushL, tR_sI, tR_sR, tR_mk, e, false_and, and_false, if_false]
theorem cdA_N (a : TS) (n t : Nat) (p1 p2 p3 : Int32) (s : Nat) : tN (cdA a n t p1 p2 p3) s = if s = 2 then tN a 2 + 1 else if s = 1 then tN a 1 + 1 else if s = 37 then tN a 37 + 1 else tN a s := by
  unfold cdA cdJ
  simp (config := {decide := true}) only [tN_pushL, tN_sI, tN_sR, tN_mk, cdI_N, if_false]
theorem cdA_1 (a : TS) (n t : Nat) (p1 p2 p3 : Int32) (i c : Nat) : tI (cdA a n t p1 p2 p3) 1 i c = if i = tN a 1 then 0 else tI a 1 i c := by
  unfold cdA cdJ cdI
  simp (config := {decide := true}) only [tI_pushL, tI_sI, tI_sR, tI_mk, tN_sI, tN_mk, true_and, false_and, if_false]
theorem cdA_2 (a : TS) (n t : Nat) (p1 p2 p3 : Int32) (i c : Nat) : tI (cdA a n t p1 p2 p3) 2 i c = if i = tN a 2 then 0 else tI a 2 i c := by
  unfold cdA cdJ cdI
  simp (config := {decide := true}) only [tI_pushL, tI_sI, tI_sR, tI_mk, tN_sI, tN_mk, tN_sR, true_and, false_and, if_false]
theorem cdA_Z (a : TS) (n t : Nat) (p1 p2 p3 : Int32) : tZ (cdA a n t p1 p2 p3) 28 0 = tZ a 28 0 + 1 ∧ (∀ i, tZ (cdA a n t p1 p2 p3) 1 i = if i = tN a 1 then 201 else tZ a 1 i) ∧ (∀ i, tZ (cdA a n t p1 p2 p3) 2 i = if i = tN a 2 then 201 else tZ a 2 i) := by
  unfold cdA cdJ cdI
  refine ⟨?_, fun i => ?_, fun i => ?_⟩
  · simp (config := {decide := true}) only [tZ_pushL, tZ_sI, tZ_sR, tZ_mk, tN_sI, tN_mk, tN_sR, true_and, false_and, if_false, if_true]
  · simp (config := {decide := true}) only [tZ_pushL, tZ_sI, tZ_sR, tZ_mk, tN_sI, tN_mk, tN_sR, true_and, false_and, if_false, if_true]
  · simp (config := {decide := true}) only [tZ_pushL, tZ_sI, tZ_sR, tZ_mk, tN_sI, tN_mk, tN_sR, true_and, false_and, if_false, if_true]
theorem cdA_28 (a : TS) (n t : Nat) (p1 p2 p3 : Int32) (k : Nat) : tR (cdA a n t p1 p2 p3) 28 0 k = (if k = tZ a 28 0 then some (37, tN a 37) else tR a 28 0 k) ∧ (tC (cdA a n t p1 p2 p3) 28 0 = if tZ a 28 0 < tC a 28 0 then tC a 28 0 else liC (tC a 28 0) (tZ a 28 0)) := by
  unfold cdA cdJ cdI
  refine ⟨?_, ?_⟩
  · simp (config := {decide := true}) only [tR_pushL, tR_sI, tR_sR, tR_mk, tZ_sI, tZ_sR, tZ_mk, true_and, false_and, if_false]
  · simp (config := {decide := true}) only [tC_pushL, tC_sI, tC_sR, tC_mk, tZ_sI, tZ_sR, tZ_mk, true_and, false_and, if_false, if_true]
theorem cdB_I (b : TS) (k : Nat) (p0 p1 p2 p3 : Int32) (j : Nat) : tI (cdB b k p0 p1 p2 p3) 86 0 j = if j = 10 * k + 9 then p0 else if j = 10 * k + 8 then p3 else if j = 10 * k + 7 then p1 else if j = 10 * k + 6 then p2 else if j = 10 * k + 1 then 3 else tI b 86 0 j := by
  unfold cdB
  simp (config := {decide := true}) only [tI_sI, true_and, false_and, if_false]
theorem cd_eq {a b : TS} {n t : Nat} {p0 p1 p2 p3 : Int32} (hz : tZ a 28 0 ≤ tC a 28 0) (h28 : 0 < tN a 28) : chF [1, 2, 28, 37] [] a (cdA a n t p1 p2 p3) ∧ Wr a (cdA a n t p1 p2 p3) ∧ chF [86] [(93, 6), (93, 10)] b (cdB b n p0 p1 p2 p3) ∧ Wr b (cdB b n p0 p1 p2 p3) := by
  refine ⟨?_, ?_, ?_, ?_⟩
  · unfold cdA cdJ cdI
    exact chF_t (chF_I (by simp) (chF_I (by simp) (chF_I (by simp) (chF_I (by simp) (chF_R (by simp) (chF_I (by simp) (chF_R (by simp) (chF_mk (by simp) (chF_R (by simp) (chF_mk (by simp) (chF_I (by simp) (chF_I (by simp) (chF_I (by simp) (chF_I (by simp) (chF_I (by simp) (chF_I (by simp) (chF_I (by simp) (chF_I (by simp) (chF_I (by simp) (chF_mk (by simp) (chF_r _ _ _))))))))))))))))))))) (chF_g (chg_pushL (by simp) (chg_r _ _)))
  · have w1 : Wr a (cdI a) := by
      unfold cdI
      exact (((((((((Wr.cM _ _ _ (by decide +kernel) (by decide) (Wr.rf _)).cI _ _ _ _).cI _ _ _ _).cI _ _ _ _).cI _ _ _ _).cI _ _ _ _).cI _ _ _ _).cI _ _ _ _).cI _ _ _ _).cI _ _ _ _
    have w2 : Wr a (cdJ a n t p1) := by
      unfold cdJ
      exact ((((((Wr.cM _ _ _ (by decide +kernel) (by decide) ((Wr.cM _ _ _ (by decide +kernel) (by decide) w1).cR _ _ _ _)).cR _ _ _ _).cI _ _ _ _).cR _ _ _ _).cI _ _ _ _).cI _ _ _ _)
    unfold cdA
    refine Wr.cP _ _ _ (by decide +kernel) (by decide) ?_ ?_ ((w2.cI _ _ _ _).cI _ _ _ _)
    · unfold cdJ
      simp (config := {decide := true}) only [tN_pushL, tN_sI, tN_sR, tN_mk, cdI_N, if_false]
      exact h28
    · unfold cdJ cdI
      simp (config := {decide := true}) only [tC_sI, tC_sR, tC_mk, tZ_sI, tZ_sR, tZ_mk, false_and, if_false]
      exact hz
  · unfold cdB
    exact chF_I (by simp) (chF_I (by simp) (chF_I (by simp) (chF_I (by simp) (chF_I (by simp) (chF_I (by simp) (chF_I (by simp) (chF_r _ _ _)))))))
  · unfold cdB
    exact (((((((Wr.rf _).cI _ _ _ _).cI _ _ _ _).cI _ _ _ _).cI _ _ _ _).cI _ _ _ _).cI _ _ _ _).cI _ _ _ _
