/-! ===== the start: empty stores, and what holds behind the constructors ===== -/
def eS0 : TS := (fun _ _ _ => 0, fun _ _ _ => 0, fun _ _ _ => none, fun _ => 0, fun _ _ => 0, fun _ _ => 0, 0, 0)
/-- the reference's: a place of the class's is counted (it is never looked at) -/
def eS1 : TS := (fun _ _ _ => 0, fun _ _ _ => 0, fun _ _ _ => none, fun s => if s = 96 then 1 else 0, fun _ _ => 0, fun _ _ => 0, 0, 0)
/-- not one of these -/
def nin (l : List Nat) (s : Nat) : Bool := l.all (fun t => !Nat.beq s t)
theorem nin_h {l : List Nat} {s : Nat} (h : nin l s = true) : ∀ t ∈ l, s ≠ t := fun t ht e => by
  subst e
  have := List.all_eq_true.mp h s ht
  rw [beq_tt rfl] at this
  cases this
def aS0 : TS := kk76 (mk eS0 96 0 0 12)
def bS0 : TS := kk248 (mk eS1 97 0 0 9)
theorem n0_ (s : Nat) : tN eS0 s = 0 := id rfl
theorem n51_25 (A : TS) : tN (kk51 A) 25 = tN A 25 := id rfl
theorem n51_26 (A : TS) : tN (kk51 A) 26 = tN A 26 := id rfl
theorem n51_27 (A : TS) : tN (kk51 A) 27 = tN A 27 := id rfl
theorem n51_28 (A : TS) : tN (kk51 A) 28 = tN A 28 := id rfl
theorem n51_29 (A : TS) : tN (kk51 A) 29 = tN A 29 := id rfl
theorem n51_30 (A : TS) : tN (kk51 A) 30 = tN A 30 := id rfl
theorem n51_31 (A : TS) : tN (kk51 A) 31 = tN A 31 := id rfl
theorem n51_3 (A : TS) : tN (kk51 A) 3 = tN A 3 := id rfl
theorem n51_15 (A : TS) : tN (kk51 A) 15 = tN A 15 := id rfl
theorem n12_ (A : TS) (s : Nat) : tN (kk12 A) s = tN A s := id rfl
theorem n13_31 (A : TS) : tN (kk13 A) 31 = tN A 31 := id rfl
theorem n13_15 (A : TS) : tN (kk13 A) 15 = tN A 15 := id rfl
theorem n1_91 : tN eS1 91 = 0 := id rfl
theorem n1_92 : tN eS1 92 = 0 := id rfl
theorem n1_93 : tN eS1 93 = 0 := id rfl
theorem n1_94 : tN eS1 94 = 0 := id rfl
theorem n1_95 : tN eS1 95 = 0 := id rfl
theorem n143_92 (A : TS) : tN (kk143 A) 92 = tN A 92 := id rfl
theorem n143_93 (A : TS) : tN (kk143 A) 93 = tN A 93 := id rfl
theorem n143_94 (A : TS) : tN (kk143 A) 94 = tN A 94 := id rfl
theorem n143_95 (A : TS) : tN (kk143 A) 95 = tN A 95 := id rfl
theorem n215_93 (A : TS) : tN (kk215b (kk215a A)) 93 = tN A 93 := id rfl
theorem n215_94 (A : TS) : tN (kk215b (kk215a A)) 94 = tN A 94 := id rfl
theorem n215_95 (A : TS) : tN (kk215b (kk215a A)) 95 = tN A 95 := id rfl
theorem n223_94 (A : TS) : tN (kk223 A) 94 = tN A 94 := id rfl
theorem n223_95 (A : TS) : tN (kk223 A) 95 = tN A 95 := id rfl
theorem n157_95 (A : TS) : tN (kk157 A) 95 = tN A 95 := id rfl
theorem x76 (z : Hp) : Ex 76 [aR (some (96, 0))] (enc 1 (mk eS0 96 0 0 12) z) = some (.inl none, enc 1 aS0 z) := by
  have hn : ∀ s, tN eS0 s = 0 := fun _ => rfl
  refine (X_in (by decide +kernel) (show 0 < tN (mk eS0 96 0 0 12) 96 by decide +kernel) rfl).trans ((lf_76_0 ..).trans ?_)
  have f3 : nF 8 = 4 := rfl
  have f4 : nF 2 = 3 := rfl
  have f5 : nF 3 = 5 := rfl
  have f6 : nF 9 = 3 := rfl
  have b51 : ∀ A : TS, ∀ s, nin [13, 14] s = true → tN (kk51 A) s = tN A s := fun A s h => by
    have e := nin_h h
    unfold kk51
    simp (config := {decide := true}) only [tI_sI, tL_sI, tR_sI, tN_sI, tZ_sI, tC_sI, tc_sI, tz_sI, tI_sL, tL_sL, tR_sL, tN_sL, tZ_sL, tC_sL, tc_sL, tz_sL, tI_sR, tL_sR, tR_sR, tN_sR, tZ_sR, tC_sR, tc_sR, tz_sR, tI_sZ, tL_sZ, tR_sZ, tN_sZ, tZ_sZ, tC_sZ, tc_sZ, tz_sZ, tI_sC, tL_sC, tR_sC, tN_sC, tZ_sC, tC_sC, tc_sC, tz_sC, tI_aC, tL_aC, tR_aC, tN_aC, tZ_aC, tC_aC, tc_aC, tz_aC, tI_rmL, tL_rmL, tR_rmL, tN_rmL, tZ_rmL, tC_rmL, tc_rmL, tz_rmL, tI_mk, tL_mk, tR_mk, tN_mk, tZ_mk, tC_mk, tc_mk, tz_mk, tI_pushL, tL_pushL, tR_pushL, tN_pushL, tZ_pushL, tC_pushL, tc_pushL, tz_pushL, tI_pushB, tL_pushB, tR_pushB, tN_pushB, tZ_pushB, tC_pushB, tc_pushB, tz_pushB, tI_cpL, tL_cpL, tR_cpL, tN_cpL, tZ_cpL, tC_cpL, tc_cpL, tz_cpL, e 13 (by simp), e 14 (by simp), eq_self, true_and, and_true, false_and, and_false, if_true, if_false, reduceIte, ite_true, ite_false, not_true_eq_false, not_false_eq_true]
  have b12 : ∀ A : TS, ∀ s, tN (kk12 A) s = tN A s := fun A s => rfl
  have b13 : ∀ A : TS, ∀ s, nin [3] s = true → tN (kk13 A) s = tN A s := fun A s h => by
    have e := nin_h h
    unfold kk13
    simp (config := {decide := true}) only [tI_sI, tL_sI, tR_sI, tN_sI, tZ_sI, tC_sI, tc_sI, tz_sI, tI_sL, tL_sL, tR_sL, tN_sL, tZ_sL, tC_sL, tc_sL, tz_sL, tI_sR, tL_sR, tR_sR, tN_sR, tZ_sR, tC_sR, tc_sR, tz_sR, tI_sZ, tL_sZ, tR_sZ, tN_sZ, tZ_sZ, tC_sZ, tc_sZ, tz_sZ, tI_sC, tL_sC, tR_sC, tN_sC, tZ_sC, tC_sC, tc_sC, tz_sC, tI_aC, tL_aC, tR_aC, tN_aC, tZ_aC, tC_aC, tc_aC, tz_aC, tI_rmL, tL_rmL, tR_rmL, tN_rmL, tZ_rmL, tC_rmL, tc_rmL, tz_rmL, tI_mk, tL_mk, tR_mk, tN_mk, tZ_mk, tC_mk, tc_mk, tz_mk, tI_pushL, tL_pushL, tR_pushL, tN_pushL, tZ_pushL, tC_pushL, tc_pushL, tz_pushL, tI_pushB, tL_pushB, tR_pushB, tN_pushB, tZ_pushB, tC_pushB, tc_pushB, tz_pushB, tI_cpL, tL_cpL, tR_cpL, tN_cpL, tZ_cpL, tC_cpL, tc_cpL, tz_cpL, e 3 (by simp), eq_self, true_and, and_true, false_and, and_false, if_true, if_false, reduceIte, ite_true, ite_false, not_true_eq_false, not_false_eq_true]
  have b63 : ∀ A : TS, ∀ s, nin [15] s = true → tN (kk63 A) s = tN A s := fun A s h => by
    have e := nin_h h
    unfold kk63
    simp (config := {decide := true}) only [tI_sI, tL_sI, tR_sI, tN_sI, tZ_sI, tC_sI, tc_sI, tz_sI, tI_sL, tL_sL, tR_sL, tN_sL, tZ_sL, tC_sL, tc_sL, tz_sL, tI_sR, tL_sR, tR_sR, tN_sR, tZ_sR, tC_sR, tc_sR, tz_sR, tI_sZ, tL_sZ, tR_sZ, tN_sZ, tZ_sZ, tC_sZ, tc_sZ, tz_sZ, tI_sC, tL_sC, tR_sC, tN_sC, tZ_sC, tC_sC, tc_sC, tz_sC, tI_aC, tL_aC, tR_aC, tN_aC, tZ_aC, tC_aC, tc_aC, tz_aC, tI_rmL, tL_rmL, tR_rmL, tN_rmL, tZ_rmL, tC_rmL, tc_rmL, tz_rmL, tI_mk, tL_mk, tR_mk, tN_mk, tZ_mk, tC_mk, tc_mk, tz_mk, tI_pushL, tL_pushL, tR_pushL, tN_pushL, tZ_pushL, tC_pushL, tc_pushL, tz_pushL, tI_pushB, tL_pushB, tR_pushB, tN_pushB, tZ_pushB, tC_pushB, tc_pushB, tz_pushB, tI_cpL, tL_cpL, tR_cpL, tN_cpL, tZ_cpL, tC_cpL, tc_cpL, tz_cpL, e 15 (by simp), eq_self, true_and, and_true, false_and, and_false, if_true, if_false, reduceIte, ite_true, ite_false, not_true_eq_false, not_false_eq_true]
  have r51 : ∀ A : TS, ∀ i k, tR (kk51 A) 96 i k = tR A 96 i k := fun A i k => by
    unfold kk51
    simp (config := {decide := true}) only [tI_sI, tL_sI, tR_sI, tN_sI, tZ_sI, tC_sI, tc_sI, tz_sI, tI_sL, tL_sL, tR_sL, tN_sL, tZ_sL, tC_sL, tc_sL, tz_sL, tI_sR, tL_sR, tR_sR, tN_sR, tZ_sR, tC_sR, tc_sR, tz_sR, tI_sZ, tL_sZ, tR_sZ, tN_sZ, tZ_sZ, tC_sZ, tc_sZ, tz_sZ, tI_sC, tL_sC, tR_sC, tN_sC, tZ_sC, tC_sC, tc_sC, tz_sC, tI_aC, tL_aC, tR_aC, tN_aC, tZ_aC, tC_aC, tc_aC, tz_aC, tI_rmL, tL_rmL, tR_rmL, tN_rmL, tZ_rmL, tC_rmL, tc_rmL, tz_rmL, tI_mk, tL_mk, tR_mk, tN_mk, tZ_mk, tC_mk, tc_mk, tz_mk, tI_pushL, tL_pushL, tR_pushL, tN_pushL, tZ_pushL, tC_pushL, tc_pushL, tz_pushL, tI_pushB, tL_pushB, tR_pushB, tN_pushB, tZ_pushB, tC_pushB, tc_pushB, tz_pushB, tI_cpL, tL_cpL, tR_cpL, tN_cpL, tZ_cpL, tC_cpL, tc_cpL, tz_cpL, eq_self, true_and, and_true, false_and, and_false, if_true, if_false, reduceIte, ite_true, ite_false, not_true_eq_false, not_false_eq_true]
  have r12 : ∀ A : TS, ∀ s i k, tR (kk12 A) s i k = tR A s i k := fun A s i k => rfl
  have o24 : ow 24 = 1 := by decide +kernel
  have o25 : ow 25 = 1 := by decide +kernel
  have o26 : ow 26 = 1 := by decide +kernel
  have o27 : ow 27 = 1 := by decide +kernel
  have o28 : ow 28 = 1 := by decide +kernel
  have o29 : ow 29 = 1 := by decide +kernel
  have o30 : ow 30 = 1 := by decide +kernel
  have o31 : ow 31 = 1 := by decide +kernel
  have ob := fun (s K : Nat) (fs : List Nat) (m : TS) (z : Hp) (h : okN 1 s K fs = true) => nob_enc (m := m) (z := z) h
  have c24 := fun m z => ob 24 8 [4, 0, 0, 4] m z (by decide +kernel)
  have c25 := fun m z => ob 25 2 [0, 0, 0] m z (by decide +kernel)
  have c30 := fun m z => ob 30 3 [4, 4, 4, 0, 0] m z (by decide +kernel)
  have c31 := fun m z => ob 31 9 [4, 0, 0] m z (by decide +kernel)
  have n1 := fun (s : Nat) (m : TS) (z : Hp) (h : ow s = 1) => nob_1 (m := m) (z := z) (c := 21) (fs := [0, 4, 0]) h
  have y26 := fun m z h => X400z (s := 26) (w := 1) (m := m) (z := z) (by decide +kernel) h
  have y27 := fun m z h => X400z (s := 27) (w := 1) (m := m) (z := z) (by decide +kernel) h
  have y28 := fun m z h => X400z (s := 28) (w := 1) (m := m) (z := z) (by decide +kernel) h
  have y29 := fun m z h => X400z (s := 29) (w := 1) (m := m) (z := z) (by decide +kernel) h
  rw [X420 (by decide +kernel) (show 0 < tN (mk eS0 96 0 0 12) 96 by decide +kernel), cV_v]
  simp (config := {decide := true}) only [gfI_enc, gfL_enc, gfR_enc, pfI_enc, pfL_enc, pfR_enc, Option.bind_some, cI_v, cL_v, cF_v, cD_v, cR_v, cV_v, cI_x, cL_x, cR_x, cV_x, gz_0, gz_1, acc_enc, tI_sI, tL_sI, tR_sI, tN_sI, tZ_sI, tC_sI, tc_sI, tz_sI, tI_sL, tL_sL, tR_sL, tN_sL, tZ_sL, tC_sL, tc_sL, tz_sL, tI_sR, tL_sR, tR_sR, tN_sR, tZ_sR, tC_sR, tc_sR, tz_sR, tI_sZ, tL_sZ, tR_sZ, tN_sZ, tZ_sZ, tC_sZ, tc_sZ, tz_sZ, tI_sC, tL_sC, tR_sC, tN_sC, tZ_sC, tC_sC, tc_sC, tz_sC, tI_aC, tL_aC, tR_aC, tN_aC, tZ_aC, tC_aC, tc_aC, tz_aC, tI_rmL, tL_rmL, tR_rmL, tN_rmL, tZ_rmL, tC_rmL, tc_rmL, tz_rmL, tI_mk, tL_mk, tR_mk, tN_mk, tZ_mk, tC_mk, tc_mk, tz_mk, tI_pushL, tL_pushL, tR_pushL, tN_pushL, tZ_pushL, tC_pushL, tc_pushL, tz_pushL, tI_pushB, tL_pushB, tR_pushB, tN_pushB, tZ_pushB, tC_pushB, tc_pushB, tz_pushB, tI_cpL, tL_cpL, tR_cpL, tN_cpL, tZ_cpL, tC_cpL, tc_cpL, tz_cpL, eq_self, true_and, and_true, false_and, and_false, if_true, if_false, reduceIte, ite_true, ite_false, not_true_eq_false, not_false_eq_true, n0_, n51_25, n51_26, n51_27, n51_28, n51_29, n51_30, n51_31, n51_3, n51_15, n12_, n13_31, n13_15, f3, f4, f5, f6, b51, b12, b13, b63, r51, r12, c24, c25, c30, c31, n1 26 _ _ o26, n1 27 _ _ o27, n1 28 _ _ o28, n1 29 _ _ o29, y26, y27, y28, y29, x51, x12, x13, x63]
  rfl
theorem x248 (z : Hp) (hz : Zk z) : Ex 248 [aR (some (97, 0))] (enc 2 (mk eS1 97 0 0 9) z) = some (.inl none, enc 2 bS0 z) := by
  have hn : ∀ s, nin [96] s = true → tN eS1 s = 0 := fun s h => if_neg (nin_h h 96 (by simp))
  refine (X_in (by decide +kernel) (show 0 < tN (mk eS1 97 0 0 9) 97 by decide +kernel) rfl).trans ((lf_248_0 ..).trans ?_)
  have f12 : nF 12 = 9 := rfl
  have f18 : nF 18 = 11 := rfl
  have f19 : nF 19 = 12 := rfl
  have f14 : nF 14 = 18 := rfl
  have f16 : nF 16 = 19 := rfl
  have d1 : ∀ A : TS, (∀ s, nin [43, 44, 45, 46, 47] s = true → tN (kk143 A) s = tN A s) ∧ (∀ k, tR (kk143 A) 97 0 k = tR A 97 0 k) := fun A => ⟨fun s h => by
    have e := nin_h h
    unfold kk143
    simp (config := {decide := true}) only [tI_sI, tL_sI, tR_sI, tN_sI, tZ_sI, tC_sI, tc_sI, tz_sI, tI_sL, tL_sL, tR_sL, tN_sL, tZ_sL, tC_sL, tc_sL, tz_sL, tI_sR, tL_sR, tR_sR, tN_sR, tZ_sR, tC_sR, tc_sR, tz_sR, tI_sZ, tL_sZ, tR_sZ, tN_sZ, tZ_sZ, tC_sZ, tc_sZ, tz_sZ, tI_sC, tL_sC, tR_sC, tN_sC, tZ_sC, tC_sC, tc_sC, tz_sC, tI_aC, tL_aC, tR_aC, tN_aC, tZ_aC, tC_aC, tc_aC, tz_aC, tI_rmL, tL_rmL, tR_rmL, tN_rmL, tZ_rmL, tC_rmL, tc_rmL, tz_rmL, tI_mk, tL_mk, tR_mk, tN_mk, tZ_mk, tC_mk, tc_mk, tz_mk, tI_pushL, tL_pushL, tR_pushL, tN_pushL, tZ_pushL, tC_pushL, tc_pushL, tz_pushL, tI_pushB, tL_pushB, tR_pushB, tN_pushB, tZ_pushB, tC_pushB, tc_pushB, tz_pushB, tI_cpL, tL_cpL, tR_cpL, tN_cpL, tZ_cpL, tC_cpL, tc_cpL, tz_cpL, e 43 (by simp), e 44 (by simp), e 45 (by simp), e 46 (by simp), e 47 (by simp), eq_self, true_and, and_true, false_and, and_false, if_true, if_false, reduceIte, ite_true, ite_false, not_true_eq_false, not_false_eq_true], fun k => by
    unfold kk143
    simp (config := {decide := true}) only [tI_sI, tL_sI, tR_sI, tN_sI, tZ_sI, tC_sI, tc_sI, tz_sI, tI_sL, tL_sL, tR_sL, tN_sL, tZ_sL, tC_sL, tc_sL, tz_sL, tI_sR, tL_sR, tR_sR, tN_sR, tZ_sR, tC_sR, tc_sR, tz_sR, tI_sZ, tL_sZ, tR_sZ, tN_sZ, tZ_sZ, tC_sZ, tc_sZ, tz_sZ, tI_sC, tL_sC, tR_sC, tN_sC, tZ_sC, tC_sC, tc_sC, tz_sC, tI_aC, tL_aC, tR_aC, tN_aC, tZ_aC, tC_aC, tc_aC, tz_aC, tI_rmL, tL_rmL, tR_rmL, tN_rmL, tZ_rmL, tC_rmL, tc_rmL, tz_rmL, tI_mk, tL_mk, tR_mk, tN_mk, tZ_mk, tC_mk, tc_mk, tz_mk, tI_pushL, tL_pushL, tR_pushL, tN_pushL, tZ_pushL, tC_pushL, tc_pushL, tz_pushL, tI_pushB, tL_pushB, tR_pushB, tN_pushB, tZ_pushB, tC_pushB, tc_pushB, tz_pushB, tI_cpL, tL_cpL, tR_cpL, tN_cpL, tZ_cpL, tC_cpL, tc_cpL, tz_cpL, eq_self, true_and, and_true, false_and, and_false, if_true, if_false, reduceIte, ite_true, ite_false, not_true_eq_false, not_false_eq_true]⟩
  have d2 : ∀ A : TS, (∀ s, nin [82, 83, 84, 85] s = true → tN (kk215b (kk215a A)) s = tN A s) ∧ (∀ k, tR (kk215b (kk215a A)) 97 0 k = tR A 97 0 k) := fun A => ⟨fun s h => by
    have e := nin_h h
    unfold kk215b kk215a
    simp (config := {decide := true}) only [tI_sI, tL_sI, tR_sI, tN_sI, tZ_sI, tC_sI, tc_sI, tz_sI, tI_sL, tL_sL, tR_sL, tN_sL, tZ_sL, tC_sL, tc_sL, tz_sL, tI_sR, tL_sR, tR_sR, tN_sR, tZ_sR, tC_sR, tc_sR, tz_sR, tI_sZ, tL_sZ, tR_sZ, tN_sZ, tZ_sZ, tC_sZ, tc_sZ, tz_sZ, tI_sC, tL_sC, tR_sC, tN_sC, tZ_sC, tC_sC, tc_sC, tz_sC, tI_aC, tL_aC, tR_aC, tN_aC, tZ_aC, tC_aC, tc_aC, tz_aC, tI_rmL, tL_rmL, tR_rmL, tN_rmL, tZ_rmL, tC_rmL, tc_rmL, tz_rmL, tI_mk, tL_mk, tR_mk, tN_mk, tZ_mk, tC_mk, tc_mk, tz_mk, tI_pushL, tL_pushL, tR_pushL, tN_pushL, tZ_pushL, tC_pushL, tc_pushL, tz_pushL, tI_pushB, tL_pushB, tR_pushB, tN_pushB, tZ_pushB, tC_pushB, tc_pushB, tz_pushB, tI_cpL, tL_cpL, tR_cpL, tN_cpL, tZ_cpL, tC_cpL, tc_cpL, tz_cpL, e 82 (by simp), e 83 (by simp), e 84 (by simp), e 85 (by simp), eq_self, true_and, and_true, false_and, and_false, if_true, if_false, reduceIte, ite_true, ite_false, not_true_eq_false, not_false_eq_true], fun k => by
    unfold kk215b kk215a
    simp (config := {decide := true}) only [tI_sI, tL_sI, tR_sI, tN_sI, tZ_sI, tC_sI, tc_sI, tz_sI, tI_sL, tL_sL, tR_sL, tN_sL, tZ_sL, tC_sL, tc_sL, tz_sL, tI_sR, tL_sR, tR_sR, tN_sR, tZ_sR, tC_sR, tc_sR, tz_sR, tI_sZ, tL_sZ, tR_sZ, tN_sZ, tZ_sZ, tC_sZ, tc_sZ, tz_sZ, tI_sC, tL_sC, tR_sC, tN_sC, tZ_sC, tC_sC, tc_sC, tz_sC, tI_aC, tL_aC, tR_aC, tN_aC, tZ_aC, tC_aC, tc_aC, tz_aC, tI_rmL, tL_rmL, tR_rmL, tN_rmL, tZ_rmL, tC_rmL, tc_rmL, tz_rmL, tI_mk, tL_mk, tR_mk, tN_mk, tZ_mk, tC_mk, tc_mk, tz_mk, tI_pushL, tL_pushL, tR_pushL, tN_pushL, tZ_pushL, tC_pushL, tc_pushL, tz_pushL, tI_pushB, tL_pushB, tR_pushB, tN_pushB, tZ_pushB, tC_pushB, tc_pushB, tz_pushB, tI_cpL, tL_cpL, tR_cpL, tN_cpL, tZ_cpL, tC_cpL, tc_cpL, tz_cpL, eq_self, true_and, and_true, false_and, and_false, if_true, if_false, reduceIte, ite_true, ite_false, not_true_eq_false, not_false_eq_true]⟩
  have d3 : ∀ A : TS, (∀ s, nin [86, 87, 88, 89, 90] s = true → tN (kk223 A) s = tN A s) ∧ (∀ k, tR (kk223 A) 97 0 k = tR A 97 0 k) := fun A => ⟨fun s h => by
    have e := nin_h h
    unfold kk223
    simp (config := {decide := true}) only [tI_sI, tL_sI, tR_sI, tN_sI, tZ_sI, tC_sI, tc_sI, tz_sI, tI_sL, tL_sL, tR_sL, tN_sL, tZ_sL, tC_sL, tc_sL, tz_sL, tI_sR, tL_sR, tR_sR, tN_sR, tZ_sR, tC_sR, tc_sR, tz_sR, tI_sZ, tL_sZ, tR_sZ, tN_sZ, tZ_sZ, tC_sZ, tc_sZ, tz_sZ, tI_sC, tL_sC, tR_sC, tN_sC, tZ_sC, tC_sC, tc_sC, tz_sC, tI_aC, tL_aC, tR_aC, tN_aC, tZ_aC, tC_aC, tc_aC, tz_aC, tI_rmL, tL_rmL, tR_rmL, tN_rmL, tZ_rmL, tC_rmL, tc_rmL, tz_rmL, tI_mk, tL_mk, tR_mk, tN_mk, tZ_mk, tC_mk, tc_mk, tz_mk, tI_pushL, tL_pushL, tR_pushL, tN_pushL, tZ_pushL, tC_pushL, tc_pushL, tz_pushL, tI_pushB, tL_pushB, tR_pushB, tN_pushB, tZ_pushB, tC_pushB, tc_pushB, tz_pushB, tI_cpL, tL_cpL, tR_cpL, tN_cpL, tZ_cpL, tC_cpL, tc_cpL, tz_cpL, e 86 (by simp), e 87 (by simp), e 88 (by simp), e 89 (by simp), e 90 (by simp), eq_self, true_and, and_true, false_and, and_false, if_true, if_false, reduceIte, ite_true, ite_false, not_true_eq_false, not_false_eq_true], fun k => by
    unfold kk223
    simp (config := {decide := true}) only [tI_sI, tL_sI, tR_sI, tN_sI, tZ_sI, tC_sI, tc_sI, tz_sI, tI_sL, tL_sL, tR_sL, tN_sL, tZ_sL, tC_sL, tc_sL, tz_sL, tI_sR, tL_sR, tR_sR, tN_sR, tZ_sR, tC_sR, tc_sR, tz_sR, tI_sZ, tL_sZ, tR_sZ, tN_sZ, tZ_sZ, tC_sZ, tc_sZ, tz_sZ, tI_sC, tL_sC, tR_sC, tN_sC, tZ_sC, tC_sC, tc_sC, tz_sC, tI_aC, tL_aC, tR_aC, tN_aC, tZ_aC, tC_aC, tc_aC, tz_aC, tI_rmL, tL_rmL, tR_rmL, tN_rmL, tZ_rmL, tC_rmL, tc_rmL, tz_rmL, tI_mk, tL_mk, tR_mk, tN_mk, tZ_mk, tC_mk, tc_mk, tz_mk, tI_pushL, tL_pushL, tR_pushL, tN_pushL, tZ_pushL, tC_pushL, tc_pushL, tz_pushL, tI_pushB, tL_pushB, tR_pushB, tN_pushB, tZ_pushB, tC_pushB, tc_pushB, tz_pushB, tI_cpL, tL_cpL, tR_cpL, tN_cpL, tZ_cpL, tC_cpL, tc_cpL, tz_cpL, eq_self, true_and, and_true, false_and, and_false, if_true, if_false, reduceIte, ite_true, ite_false, not_true_eq_false, not_false_eq_true]⟩
  have d4 : ∀ A : TS, (∀ s, nin [53, 54, 55, 56, 57, 58, 59, 60] s = true → tN (kk157 A) s = tN A s) ∧ (∀ k, tR (kk157 A) 97 0 k = tR A 97 0 k) := fun A => ⟨fun s h => by
    have e := nin_h h
    unfold kk157 muB
    simp (config := {decide := true}) only [tI_sI, tL_sI, tR_sI, tN_sI, tZ_sI, tC_sI, tc_sI, tz_sI, tI_sL, tL_sL, tR_sL, tN_sL, tZ_sL, tC_sL, tc_sL, tz_sL, tI_sR, tL_sR, tR_sR, tN_sR, tZ_sR, tC_sR, tc_sR, tz_sR, tI_sZ, tL_sZ, tR_sZ, tN_sZ, tZ_sZ, tC_sZ, tc_sZ, tz_sZ, tI_sC, tL_sC, tR_sC, tN_sC, tZ_sC, tC_sC, tc_sC, tz_sC, tI_aC, tL_aC, tR_aC, tN_aC, tZ_aC, tC_aC, tc_aC, tz_aC, tI_rmL, tL_rmL, tR_rmL, tN_rmL, tZ_rmL, tC_rmL, tc_rmL, tz_rmL, tI_mk, tL_mk, tR_mk, tN_mk, tZ_mk, tC_mk, tc_mk, tz_mk, tI_pushL, tL_pushL, tR_pushL, tN_pushL, tZ_pushL, tC_pushL, tc_pushL, tz_pushL, tI_pushB, tL_pushB, tR_pushB, tN_pushB, tZ_pushB, tC_pushB, tc_pushB, tz_pushB, tI_cpL, tL_cpL, tR_cpL, tN_cpL, tZ_cpL, tC_cpL, tc_cpL, tz_cpL, e 53 (by simp), e 54 (by simp), e 55 (by simp), e 56 (by simp), e 57 (by simp), e 58 (by simp), e 59 (by simp), e 60 (by simp), eq_self, true_and, and_true, false_and, and_false, if_true, if_false, reduceIte, ite_true, ite_false, not_true_eq_false, not_false_eq_true], fun k => by
    unfold kk157 muB
    simp (config := {decide := true}) only [tI_sI, tL_sI, tR_sI, tN_sI, tZ_sI, tC_sI, tc_sI, tz_sI, tI_sL, tL_sL, tR_sL, tN_sL, tZ_sL, tC_sL, tc_sL, tz_sL, tI_sR, tL_sR, tR_sR, tN_sR, tZ_sR, tC_sR, tc_sR, tz_sR, tI_sZ, tL_sZ, tR_sZ, tN_sZ, tZ_sZ, tC_sZ, tc_sZ, tz_sZ, tI_sC, tL_sC, tR_sC, tN_sC, tZ_sC, tC_sC, tc_sC, tz_sC, tI_aC, tL_aC, tR_aC, tN_aC, tZ_aC, tC_aC, tc_aC, tz_aC, tI_rmL, tL_rmL, tR_rmL, tN_rmL, tZ_rmL, tC_rmL, tc_rmL, tz_rmL, tI_mk, tL_mk, tR_mk, tN_mk, tZ_mk, tC_mk, tc_mk, tz_mk, tI_pushL, tL_pushL, tR_pushL, tN_pushL, tZ_pushL, tC_pushL, tc_pushL, tz_pushL, tI_pushB, tL_pushB, tR_pushB, tN_pushB, tZ_pushB, tC_pushB, tc_pushB, tz_pushB, tI_cpL, tL_cpL, tR_cpL, tN_cpL, tZ_cpL, tC_cpL, tc_cpL, tz_cpL, eq_self, true_and, and_true, false_and, and_false, if_true, if_false, reduceIte, ite_true, ite_false, not_true_eq_false, not_false_eq_true]⟩
  have d5 : ∀ A : TS, (∀ s, nin [65, 66, 67, 68, 69, 70, 71, 72, 73] s = true → tN (kk188 A) s = tN A s) ∧ (∀ k, tR (kk188 A) 97 0 k = tR A 97 0 k) := fun A => ⟨fun s h => by
    have e := nin_h h
    unfold kk188
    simp (config := {decide := true}) only [tI_sI, tL_sI, tR_sI, tN_sI, tZ_sI, tC_sI, tc_sI, tz_sI, tI_sL, tL_sL, tR_sL, tN_sL, tZ_sL, tC_sL, tc_sL, tz_sL, tI_sR, tL_sR, tR_sR, tN_sR, tZ_sR, tC_sR, tc_sR, tz_sR, tI_sZ, tL_sZ, tR_sZ, tN_sZ, tZ_sZ, tC_sZ, tc_sZ, tz_sZ, tI_sC, tL_sC, tR_sC, tN_sC, tZ_sC, tC_sC, tc_sC, tz_sC, tI_aC, tL_aC, tR_aC, tN_aC, tZ_aC, tC_aC, tc_aC, tz_aC, tI_rmL, tL_rmL, tR_rmL, tN_rmL, tZ_rmL, tC_rmL, tc_rmL, tz_rmL, tI_mk, tL_mk, tR_mk, tN_mk, tZ_mk, tC_mk, tc_mk, tz_mk, tI_pushL, tL_pushL, tR_pushL, tN_pushL, tZ_pushL, tC_pushL, tc_pushL, tz_pushL, tI_pushB, tL_pushB, tR_pushB, tN_pushB, tZ_pushB, tC_pushB, tc_pushB, tz_pushB, tI_cpL, tL_cpL, tR_cpL, tN_cpL, tZ_cpL, tC_cpL, tc_cpL, tz_cpL, e 65 (by simp), e 66 (by simp), e 67 (by simp), e 68 (by simp), e 69 (by simp), e 70 (by simp), e 71 (by simp), e 72 (by simp), e 73 (by simp), eq_self, true_and, and_true, false_and, and_false, if_true, if_false, reduceIte, ite_true, ite_false, not_true_eq_false, not_false_eq_true], fun k => by
    unfold kk188
    simp (config := {decide := true}) only [tI_sI, tL_sI, tR_sI, tN_sI, tZ_sI, tC_sI, tc_sI, tz_sI, tI_sL, tL_sL, tR_sL, tN_sL, tZ_sL, tC_sL, tc_sL, tz_sL, tI_sR, tL_sR, tR_sR, tN_sR, tZ_sR, tC_sR, tc_sR, tz_sR, tI_sZ, tL_sZ, tR_sZ, tN_sZ, tZ_sZ, tC_sZ, tc_sZ, tz_sZ, tI_sC, tL_sC, tR_sC, tN_sC, tZ_sC, tC_sC, tc_sC, tz_sC, tI_aC, tL_aC, tR_aC, tN_aC, tZ_aC, tC_aC, tc_aC, tz_aC, tI_rmL, tL_rmL, tR_rmL, tN_rmL, tZ_rmL, tC_rmL, tc_rmL, tz_rmL, tI_mk, tL_mk, tR_mk, tN_mk, tZ_mk, tC_mk, tc_mk, tz_mk, tI_pushL, tL_pushL, tR_pushL, tN_pushL, tZ_pushL, tC_pushL, tc_pushL, tz_pushL, tI_pushB, tL_pushB, tR_pushB, tN_pushB, tZ_pushB, tC_pushB, tc_pushB, tz_pushB, tI_cpL, tL_cpL, tR_cpL, tN_cpL, tZ_cpL, tC_cpL, tc_cpL, tz_cpL, eq_self, true_and, and_true, false_and, and_false, if_true, if_false, reduceIte, ite_true, ite_false, not_true_eq_false, not_false_eq_true]⟩
  have ob := fun (s K : Nat) (fs : List Nat) (m : TS) (z : Hp) (h : okN 2 s K fs = true) => nob_enc (m := m) (z := z) h
  have c91 := fun m z => ob 91 12 [4, 4, 4, 4, 4, 0, 0, 1, 1] m z (by decide +kernel)
  have c92 := fun m z => ob 92 18 [4, 4, 4, 0, 0, 0, 0, 0, 0, 4, 0] m z (by decide +kernel)
  have c93 := fun m z => ob 93 19 [4, 4, 4, 4, 4, 4, 0, 0, 0, 0, 0, 4] m z (by decide +kernel)
  have c94 := fun m z => ob 94 14 [4, 4, 4, 4, 4, 4, 0, 4, 4, 4, 0, 0, 0, 0, 0, 0, 0, 0] m z (by decide +kernel)
  have c95 := fun m z => ob 95 16 [0, 0, 0, 0, 0, 0, 0, 4, 4, 0, 4, 4, 4, 4, 4, 4, 4, 4, 4] m z (by decide +kernel)
  have t215 := fun m h1 h2 => x215 m z hz h1 h2
  have e143 := fun A s h => (d1 A).1 s h
  have r143 := fun A k => (d1 A).2 k
  have e215 := fun A s h => (d2 A).1 s h
  have r215 := fun A k => (d2 A).2 k
  have e223 := fun A s h => (d3 A).1 s h
  have r223 := fun A k => (d3 A).2 k
  have e157 := fun A s h => (d4 A).1 s h
  have r157 := fun A k => (d4 A).2 k
  have e188 := fun A s h => (d5 A).1 s h
  have r188 := fun A k => (d5 A).2 k
  rw [X420 (by decide +kernel) (show 0 < tN (mk eS1 97 0 0 9) 97 by decide +kernel), cV_v]
  simp (config := {decide := true}) only [gfI_enc, gfL_enc, gfR_enc, pfI_enc, pfL_enc, pfR_enc, Option.bind_some, cI_v, cL_v, cF_v, cD_v, cR_v, cV_v, cI_x, cL_x, cR_x, cV_x, gz_0, gz_1, acc_enc, tI_sI, tL_sI, tR_sI, tN_sI, tZ_sI, tC_sI, tc_sI, tz_sI, tI_sL, tL_sL, tR_sL, tN_sL, tZ_sL, tC_sL, tc_sL, tz_sL, tI_sR, tL_sR, tR_sR, tN_sR, tZ_sR, tC_sR, tc_sR, tz_sR, tI_sZ, tL_sZ, tR_sZ, tN_sZ, tZ_sZ, tC_sZ, tc_sZ, tz_sZ, tI_sC, tL_sC, tR_sC, tN_sC, tZ_sC, tC_sC, tc_sC, tz_sC, tI_aC, tL_aC, tR_aC, tN_aC, tZ_aC, tC_aC, tc_aC, tz_aC, tI_rmL, tL_rmL, tR_rmL, tN_rmL, tZ_rmL, tC_rmL, tc_rmL, tz_rmL, tI_mk, tL_mk, tR_mk, tN_mk, tZ_mk, tC_mk, tc_mk, tz_mk, tI_pushL, tL_pushL, tR_pushL, tN_pushL, tZ_pushL, tC_pushL, tc_pushL, tz_pushL, tI_pushB, tL_pushB, tR_pushB, tN_pushB, tZ_pushB, tC_pushB, tc_pushB, tz_pushB, tI_cpL, tL_cpL, tR_cpL, tN_cpL, tZ_cpL, tC_cpL, tc_cpL, tz_cpL, eq_self, true_and, and_true, false_and, and_false, if_true, if_false, reduceIte, ite_true, ite_false, not_true_eq_false, not_false_eq_true, hn, n1_91, n1_92, n1_93, n1_94, n1_95, n143_92, n143_93, n143_94, n143_95, n215_93, n215_94, n215_95, n223_94, n223_95, n157_95, f12, f18, f19, f14, f16, e143, r143, e215, r215, e223, r223, e157, r157, e188, r188, c91, c92, c93, c94, c95, x143, t215, x223, x157, x188]
  rfl
