/-! ===== a payment is registered: both stores ===== -/
def pyI (A : TS) (p cd sh : Nat) (m : Int32) : TS := sI (sI (sR (sR (sI (sI (sI (sI (sI (sI (sI (sI (mk A 38 0 0 12) 38 (tN A 38) 5 0) 38 (tN A 38) 6 0) 38 (tN A 38) 7 1) 38 (tN A 38) 8 0) 38 (tN A 38) 9 0) 38 (tN A 38) 10 0) 38 (tN A 38) 11 0) 38 (tN A 38) 0 (Int32.ofNat p)) 38 (tN A 38) 1 (some (37, cd))) 38 (tN A 38) 2 (some (36, sh))) 38 (tN A 38) 3 m) 38 (tN A 38) 4 (tI A 37 cd 6)
def pyA (A : TS) (p cd sh : Nat) (m T tch : Int32) : TS := sI (pushL (sI (sI (pyI A p cd sh m) 38 (tN A 38) 6 T) 38 (tN A 38) 11 tch) 29 0 (some (38, tN A 38))) 36 sh 10 (tI A 36 sh 10 + 1)
def pyX (A : TS) (p cd sh : Nat) (m T tch st : Int32) : TS := sI (sI (pyA A p cd sh m T tch) 38 (tN A 38) 7 1) 38 (tN A 38) 5 st
def pyB (B : TS) (p cd sh : Nat) (m T tch : Int32) : TS := sI (sI (sI (sI (sI (sI (sI (sI B 93 0 8 (Int32.ofNat (p + 1))) 87 0 (10 * p + 1) (Int32.ofNat cd)) 87 0 (10 * p + 2) (Int32.ofNat sh)) 87 0 (10 * p + 3) m) 87 0 (10 * p + 4) (tI B 86 0 (10 * cd + 0))) 87 0 (10 * p + 6) T) 87 0 (10 * p + 9) tch) 90 0 sh (tI B 90 0 sh + 1)
def pyY (B : TS) (p cd sh : Nat) (m T tch st : Int32) : TS := sI (sI (pyB B p cd sh m T tch) 87 0 (10 * p + 0) 1) 87 0 (10 * p + 5) st
theorem f12 {f : Nat} (h : f < 12) : f = 0 ∨ f = 1 ∨ f = 2 ∨ f = 3 ∨ f = 4 ∨ f = 5 ∨ f = 6 ∨ f = 7 ∨ f = 8 ∨ f = 9 ∨ f = 10 ∨ f = 11 := by omega
theorem pyX_I (A : TS) (p cd sh : Nat) (m T tch st : Int32) (i : Nat) {f : Nat} (hf : f < 12) : tI (pyX A p cd sh m T tch st) 38 i f = if i = tN A 38 then (if f = 5 then st else if f = 7 then 1 else if f = 11 then tch else if f = 6 then T else if f = 4 then tI A 37 cd 6 else if f = 3 then m else if f = 0 then Int32.ofNat p else 0) else tI A 38 i f := by
  unfold pyX pyA pyI
  by_cases e : i = tN A 38
  · subst e
    simp only [tI_pushL, tI_sI, tI_sR, tI_mk, true_and]
    rcases f12 hf with q | q | q | q | q | q | q | q | q | q | q | q <;> subst q <;> simp (config := {decide := true}) only [false_and, if_true, if_false]
  · simp (config := {decide := true}) only [tI_pushL, tI_sI, tI_sR, tI_mk, e, false_and, and_false, if_false]
theorem pyX_R (A : TS) (p cd sh : Nat) (m T tch st : Int32) (i f : Nat) : tR (pyX A p cd sh m T tch st) 38 i f = if i = tN A 38 then (if f = 2 then some (36, sh) else if f = 1 then some (37, cd) else none) else tR A 38 i f := by
  unfold pyX pyA pyI
  by_cases e : i = tN A 38
  · subst e
    simp (config := {decide := true}) only [tR_pushL, tR_sI, tR_sR, tR_mk, true_and, false_and, if_true, if_false]
  · simp (config := {decide := true}) only [tR_pushL, tR_sI, tR_sR, tR_mk, e, false_and, and_false, if_false]
theorem pyX_36 (A : TS) (p cd sh : Nat) (m T tch st : Int32) (i f : Nat) : tI (pyX A p cd sh m T tch st) 36 i f = if i = sh ∧ f = 10 then tI A 36 sh 10 + 1 else tI A 36 i f := by
  unfold pyX pyA pyI
  simp (config := {decide := true}) only [tI_pushL, tI_sI, tI_sR, tI_mk, true_and, false_and, if_true, if_false]
theorem pyX_N (A : TS) (p cd sh : Nat) (m T tch st : Int32) (s : Nat) : tN (pyX A p cd sh m T tch st) s = if s = 38 then tN A 38 + 1 else tN A s := by
  unfold pyX pyA pyI
  simp only [tN_pushL, tN_sI, tN_sR, tN_mk]
theorem pyX_29 (A : TS) (p cd sh : Nat) (m T tch st : Int32) : tZ (pyX A p cd sh m T tch st) 29 0 = tZ A 29 0 + 1 ∧ (∀ k, tR (pyX A p cd sh m T tch st) 29 0 k = if k = tZ A 29 0 then some (38, tN A 38) else tR A 29 0 k) ∧ tC (pyX A p cd sh m T tch st) 29 0 = if tZ A 29 0 < tC A 29 0 then tC A 29 0 else liC (tC A 29 0) (tZ A 29 0) := by
  unfold pyX pyA pyI
  refine ⟨?_, fun k => ?_, ?_⟩
  · simp (config := {decide := true}) only [tZ_pushL, tZ_sI, tZ_sR, tZ_mk, true_and, false_and, if_true, if_false]
  · simp (config := {decide := true}) only [tR_pushL, tR_sI, tR_sR, tR_mk, tZ_sI, tZ_sR, tZ_mk, true_and, false_and, if_true, if_false]
  · simp (config := {decide := true}) only [tC_pushL, tC_sI, tC_sR, tC_mk, tZ_sI, tZ_sR, tZ_mk, true_and, false_and, if_true, if_false]
theorem pyY_I (B : TS) (p cd sh : Nat) (m T tch st : Int32) (j : Nat) : tI (pyY B p cd sh m T tch st) 87 0 j = if j = 10 * p + 5 then st else if j = 10 * p then 1 else if j = 10 * p + 9 then tch else if j = 10 * p + 6 then T else if j = 10 * p + 4 then tI B 86 0 (10 * cd) else if j = 10 * p + 3 then m else if j = 10 * p + 2 then Int32.ofNat sh else if j = 10 * p + 1 then Int32.ofNat cd else tI B 87 0 j := by
  unfold pyY pyB
  simp (config := {decide := true}) only [tI_sI, true_and, false_and, if_false, Nat.add_zero]
theorem pyY_90 (B : TS) (p cd sh : Nat) (m T tch st : Int32) (k : Nat) : tI (pyY B p cd sh m T tch st) 90 0 k = (if k = sh then tI B 90 0 sh + 1 else tI B 90 0 k) ∧ tI (pyY B p cd sh m T tch st) 93 0 8 = Int32.ofNat (p + 1) := by
  unfold pyY pyB
  refine ⟨?_, ?_⟩
  · simp (config := {decide := true}) only [tI_sI, true_and, false_and, if_false]
  · simp (config := {decide := true}) only [tI_sI, true_and, false_and, if_false, if_true]
theorem py_eq {A B : TS} (p cd sh : Nat) (m T tch st : Int32) (hz : tZ A 29 0 ≤ tC A 29 0) (h29 : 0 < tN A 29) : chF [29, 38] [(36, 10)] A (pyX A p cd sh m T tch st) ∧ Wr A (pyX A p cd sh m T tch st) ∧ chF [87, 90] [(93, 8)] B (pyY B p cd sh m T tch st) ∧ Wr B (pyY B p cd sh m T tch st) := by
  refine ⟨?_, ?_, ?_, ?_⟩
  · unfold pyX pyA pyI
    exact chF_I (by simp) (chF_I (by simp) (chF_I (by simp) (chF_t (chF_I (by simp) (chF_I (by simp) (chF_I (by simp) (chF_I (by simp) (chF_R (by simp) (chF_R (by simp) (chF_I (by simp) (chF_I (by simp) (chF_I (by simp) (chF_I (by simp) (chF_I (by simp) (chF_I (by simp) (chF_I (by simp) (chF_I (by simp) (chF_mk (by simp) (chF_r _ _ _)))))))))))))))) (chF_g (chg_pushL (by simp) (chg_r _ _))))))
  · have w1 : Wr A (pyI A p cd sh m) := by
      unfold pyI
      exact ((((((((((((Wr.cM _ _ _ (by decide +kernel) (by decide) (Wr.rf _)).cI _ _ _ _).cI _ _ _ _).cI _ _ _ _).cI _ _ _ _).cI _ _ _ _).cI _ _ _ _).cI _ _ _ _).cI _ _ _ _).cR _ _ _ _).cR _ _ _ _).cI _ _ _ _).cI _ _ _ _
    unfold pyX pyA
    refine (((Wr.cP _ _ _ (by decide +kernel) (by decide) ?_ ?_ ((w1.cI _ _ _ _).cI _ _ _ _)).cI _ _ _ _).cI _ _ _ _).cI _ _ _ _
    · unfold pyI
      simp (config := {decide := true}) only [tN_pushL, tN_sI, tN_sR, tN_mk, if_false]
      exact h29
    · unfold pyI
      simp (config := {decide := true}) only [tC_sI, tC_sR, tC_mk, tZ_sI, tZ_sR, tZ_mk, false_and, if_false]
      exact hz
  · unfold pyY pyB
    exact chF_I (by simp) (chF_I (by simp) (chF_I (by simp) (chF_I (by simp) (chF_I (by simp) (chF_I (by simp) (chF_I (by simp) (chF_I (by simp) (chF_I (by simp) (chF_I (by simp) (chF_r _ _ _))))))))))
  · unfold pyY pyB
    exact ((((((((((Wr.rf _).cI _ _ _ _).cI _ _ _ _).cI _ _ _ _).cI _ _ _ _).cI _ _ _ _).cI _ _ _ _).cI _ _ _ _).cI _ _ _ _).cI _ _ _ _).cI _ _ _ _
