/-! ===== the start: what the two constructors make ===== -/
theorem p410 (q : Nat × Nat) (h : Hp) : Ex 410 [aR (some q)] h = (match hG h (some q) with
      | some (22, [.inr (.inr (.inr (.inr none))), .inl 0, .inl 0, .inl 0]) => some (.inl none, hC (hS h q (1000016, [])) 1 16)
      | _ => none) := rfl
theorem nob_1 {w s c : Nat} {fs : List Nat} {m : TS} {z : Hp} (h : ow s = w) : (nob (enc w m z) s c fs).1 = some (s, tN m s) := by
  show some (s, ((enc w m z).1 s).length) = _
  rw [enc_len m z h]
theorem X410 {w s : Nat} {m : TS} {z : Hp} (h1 : ow s = w) (h2 : kd s = 1000000) : Ex 410 [aR (some (s, tN m s))] (nob (enc w m z) s 22 [4, 0, 0, 0]).2 = some (.inl none, enc w (aC (mk m s 0 16 4) 1 16) z) := by
  show Ex 410 [aR (some (s, tN m s))] (hN (enc w m z) s (22, [aR none, aI 0, aI 0, aI 0]) 4) = _
  rw [p410]
  have hn := hN_get (enc w m z) s (22, [aR none, aI 0, aI 0, aI 0]) 4 (s, tN m s)
  rw [enc_len m z h1, if_pos rfl] at hn
  rw [hn]
  show some (Sum.inl none, hC (hS (hN (enc w m z) s (22, [aR none, aI 0, aI 0, aI 0]) 4) (s, tN m s) (1000016, [])) 1 16) = _
  refine congrArg (fun q : Hp => (some (Sum.inl none, q) : Res)) ?_
  rw [← hC_enc, ← hN_enc (c := (1000016, [])) (z0 := 0) (c0 := 16) h1 (by rw [h2]; rfl)]
  refine congrArg (fun q : Hp => hC q 1 16) ?_
  refine Prod.ext ?_ rfl
  funext s'
  show (match Nat.beq s' s with | true => ((hN (enc w m z) s (22, [aR none, aI 0, aI 0, aI 0]) 4).1 s').set (tN m s) (1000016, []) | false => (hN (enc w m z) s (22, [aR none, aI 0, aI 0, aI 0]) 4).1 s') = (hN (enc w m z) s (1000016, []) 4).1 s'
  by_cases e : s' = s
  · subst e
    rw [beq_tt rfl]
    show (match Nat.beq s' s' with | true => (enc w m z).1 s' ++ [_] | false => (enc w m z).1 s').set (tN m s') (1000016, []) = (match Nat.beq s' s' with | true => (enc w m z).1 s' ++ [_] | false => (enc w m z).1 s')
    rw [beq_tt rfl]
    dsimp only
    rw [List.set_append_right _ _ (by rw [enc_len m z h1]; exact Nat.le_refl _), enc_len m z h1, Nat.sub_self]
    rfl
  · rw [beq_ff e]
    show (match Nat.beq s' s with | true => (enc w m z).1 s' ++ [_] | false => (enc w m z).1 s') = (match Nat.beq s' s with | true => (enc w m z).1 s' ++ [_] | false => (enc w m z).1 s')
    rw [beq_ff e]
theorem X400z {w s : Nat} {m : TS} {z : Hp} (h : okL w s = true) (h0 : tN m s = 0) : Ex 400 [aR (some (s, 0))] (nob (enc w m z) s 21 [0, 4, 0]).2 = some (.inl none, enc w (mk m s 0 0 3) z) := by
  have := X400 (m := m) (z := z) h
  rwa [h0] at this
theorem X410z {w s : Nat} {m : TS} {z : Hp} (h1 : ow s = w) (h2 : kd s = 1000000) (h0 : tN m s = 0) : Ex 410 [aR (some (s, 0))] (nob (enc w m z) s 22 [4, 0, 0, 0]).2 = some (.inl none, enc w (aC (mk m s 0 16 4) 1 16) z) := by
  have := X410 (m := m) (z := z) h1 h2
  rwa [h0] at this
/-- four rows of a hundred -/
def muB (A : TS) : TS := sR (sR (sR (sR (mk (mk (mk (mk (mk A 59 4 0 4) 60 100 0 100) 60 100 0 100) 60 100 0 100) 60 100 0 100) 59 0 0 (some (60, 0))) 59 0 1 (some (60, 1))) 59 0 2 (some (60, 2))) 59 0 3 (some (60, 3))
theorem r_rep {f : Nat → AV} {v : AV} {n : Nat} (h : ∀ k, f k = v) : (List.range n).map f = List.replicate n v := by
  apply List.ext_getElem?
  intro j
  rw [List.getElem?_map, List.getElem?_replicate]
  by_cases hj : j < n
  · rw [List.getElem?_range hj, if_pos hj]
    show some (f j) = _
    rw [h j]
  · rw [List.getElem?_eq_none (by simp; omega), if_neg hj]
    rfl
theorem muB_row (A : TS) (h2 : tN A 60 = 0) (i : Nat) (hi : i = 0 ∨ i = 1 ∨ i = 2 ∨ i = 3) : cellT (muB A) 60 i = (1002, List.replicate 100 (aI 0)) := by
  have e1 : tZ (muB A) 60 i = 100 := by
    unfold muB
    rcases hi with e | e | e | e <;> subst e <;> simp (config := {decide := true}) only [tI_sI, tL_sI, tR_sI, tN_sI, tZ_sI, tC_sI, tc_sI, tz_sI, tI_sL, tL_sL, tR_sL, tN_sL, tZ_sL, tC_sL, tc_sL, tz_sL, tI_sR, tL_sR, tR_sR, tN_sR, tZ_sR, tC_sR, tc_sR, tz_sR, tI_sZ, tL_sZ, tR_sZ, tN_sZ, tZ_sZ, tC_sZ, tc_sZ, tz_sZ, tI_sC, tL_sC, tR_sC, tN_sC, tZ_sC, tC_sC, tc_sC, tz_sC, tI_aC, tL_aC, tR_aC, tN_aC, tZ_aC, tC_aC, tc_aC, tz_aC, tI_rmL, tL_rmL, tR_rmL, tN_rmL, tZ_rmL, tC_rmL, tc_rmL, tz_rmL, tI_mk, tL_mk, tR_mk, tN_mk, tZ_mk, tC_mk, tc_mk, tz_mk, tI_pushL, tL_pushL, tR_pushL, tN_pushL, tZ_pushL, tC_pushL, tc_pushL, tz_pushL, tI_pushB, tL_pushB, tR_pushB, tN_pushB, tZ_pushB, tC_pushB, tc_pushB, tz_pushB, tI_cpL, tL_cpL, tR_cpL, tN_cpL, tZ_cpL, tC_cpL, tc_cpL, tz_cpL, h2, eq_self, true_and, and_true, false_and, and_false, if_true, if_false, reduceIte, ite_true, ite_false, not_true_eq_false, not_false_eq_true]
  have e2 : ∀ k, tI (muB A) 60 i k = 0 := fun k => by
    unfold muB
    rcases hi with e | e | e | e <;> subst e <;> simp (config := {decide := true}) only [tI_sI, tL_sI, tR_sI, tN_sI, tZ_sI, tC_sI, tc_sI, tz_sI, tI_sL, tL_sL, tR_sL, tN_sL, tZ_sL, tC_sL, tc_sL, tz_sL, tI_sR, tL_sR, tR_sR, tN_sR, tZ_sR, tC_sR, tc_sR, tz_sR, tI_sZ, tL_sZ, tR_sZ, tN_sZ, tZ_sZ, tC_sZ, tc_sZ, tz_sZ, tI_sC, tL_sC, tR_sC, tN_sC, tZ_sC, tC_sC, tc_sC, tz_sC, tI_aC, tL_aC, tR_aC, tN_aC, tZ_aC, tC_aC, tc_aC, tz_aC, tI_rmL, tL_rmL, tR_rmL, tN_rmL, tZ_rmL, tC_rmL, tc_rmL, tz_rmL, tI_mk, tL_mk, tR_mk, tN_mk, tZ_mk, tC_mk, tc_mk, tz_mk, tI_pushL, tL_pushL, tR_pushL, tN_pushL, tZ_pushL, tC_pushL, tc_pushL, tz_pushL, tI_pushB, tL_pushB, tR_pushB, tN_pushB, tZ_pushB, tC_pushB, tc_pushB, tz_pushB, tI_cpL, tL_cpL, tR_cpL, tN_cpL, tZ_cpL, tC_cpL, tc_cpL, tz_cpL, h2, eq_self, true_and, and_true, false_and, and_false, if_true, if_false, reduceIte, ite_true, ite_false, not_true_eq_false, not_false_eq_true]
  unfold cellT cellF
  rw [e1, show kd 60 = 1002 by decide +kernel]
  refine Prod.ext rfl ?_
  exact r_rep (fun k => congrArg aI (e2 k))
theorem nmu_enc {A : TS} {z : Hp} (h1 : tN A 59 = 0) (h2 : tN A 60 = 0) : nmu (enc 2 A z) 59 1900 1002 4 100 = enc 2 (muB A) z := by
  have o59 : ow 59 = 2 := by decide +kernel
  have o60 : ow 60 = 2 := by decide +kernel
  have n59 : tN (muB A) 59 = 1 := by
    unfold muB
    simp (config := {decide := true}) only [tI_sI, tL_sI, tR_sI, tN_sI, tZ_sI, tC_sI, tc_sI, tz_sI, tI_sL, tL_sL, tR_sL, tN_sL, tZ_sL, tC_sL, tc_sL, tz_sL, tI_sR, tL_sR, tR_sR, tN_sR, tZ_sR, tC_sR, tc_sR, tz_sR, tI_sZ, tL_sZ, tR_sZ, tN_sZ, tZ_sZ, tC_sZ, tc_sZ, tz_sZ, tI_sC, tL_sC, tR_sC, tN_sC, tZ_sC, tC_sC, tc_sC, tz_sC, tI_aC, tL_aC, tR_aC, tN_aC, tZ_aC, tC_aC, tc_aC, tz_aC, tI_rmL, tL_rmL, tR_rmL, tN_rmL, tZ_rmL, tC_rmL, tc_rmL, tz_rmL, tI_mk, tL_mk, tR_mk, tN_mk, tZ_mk, tC_mk, tc_mk, tz_mk, tI_pushL, tL_pushL, tR_pushL, tN_pushL, tZ_pushL, tC_pushL, tc_pushL, tz_pushL, tI_pushB, tL_pushB, tR_pushB, tN_pushB, tZ_pushB, tC_pushB, tc_pushB, tz_pushB, tI_cpL, tL_cpL, tR_cpL, tN_cpL, tZ_cpL, tC_cpL, tc_cpL, tz_cpL, h1, eq_self, true_and, and_true, false_and, and_false, if_true, if_false, reduceIte, ite_true, ite_false, not_true_eq_false, not_false_eq_true]
  have n60 : tN (muB A) 60 = 4 := by
    unfold muB
    simp (config := {decide := true}) only [tI_sI, tL_sI, tR_sI, tN_sI, tZ_sI, tC_sI, tc_sI, tz_sI, tI_sL, tL_sL, tR_sL, tN_sL, tZ_sL, tC_sL, tc_sL, tz_sL, tI_sR, tL_sR, tR_sR, tN_sR, tZ_sR, tC_sR, tc_sR, tz_sR, tI_sZ, tL_sZ, tR_sZ, tN_sZ, tZ_sZ, tC_sZ, tc_sZ, tz_sZ, tI_sC, tL_sC, tR_sC, tN_sC, tZ_sC, tC_sC, tc_sC, tz_sC, tI_aC, tL_aC, tR_aC, tN_aC, tZ_aC, tC_aC, tc_aC, tz_aC, tI_rmL, tL_rmL, tR_rmL, tN_rmL, tZ_rmL, tC_rmL, tc_rmL, tz_rmL, tI_mk, tL_mk, tR_mk, tN_mk, tZ_mk, tC_mk, tc_mk, tz_mk, tI_pushL, tL_pushL, tR_pushL, tN_pushL, tZ_pushL, tC_pushL, tc_pushL, tz_pushL, tI_pushB, tL_pushB, tR_pushB, tN_pushB, tZ_pushB, tC_pushB, tc_pushB, tz_pushB, tI_cpL, tL_cpL, tR_cpL, tN_cpL, tZ_cpL, tC_cpL, tc_cpL, tz_cpL, h2, eq_self, true_and, and_true, false_and, and_false, if_true, if_false, reduceIte, ite_true, ite_false, not_true_eq_false, not_false_eq_true]
  have z59 : tZ (muB A) 59 0 = 4 := by
    unfold muB
    simp (config := {decide := true}) only [tI_sI, tL_sI, tR_sI, tN_sI, tZ_sI, tC_sI, tc_sI, tz_sI, tI_sL, tL_sL, tR_sL, tN_sL, tZ_sL, tC_sL, tc_sL, tz_sL, tI_sR, tL_sR, tR_sR, tN_sR, tZ_sR, tC_sR, tc_sR, tz_sR, tI_sZ, tL_sZ, tR_sZ, tN_sZ, tZ_sZ, tC_sZ, tc_sZ, tz_sZ, tI_sC, tL_sC, tR_sC, tN_sC, tZ_sC, tC_sC, tc_sC, tz_sC, tI_aC, tL_aC, tR_aC, tN_aC, tZ_aC, tC_aC, tc_aC, tz_aC, tI_rmL, tL_rmL, tR_rmL, tN_rmL, tZ_rmL, tC_rmL, tc_rmL, tz_rmL, tI_mk, tL_mk, tR_mk, tN_mk, tZ_mk, tC_mk, tc_mk, tz_mk, tI_pushL, tL_pushL, tR_pushL, tN_pushL, tZ_pushL, tC_pushL, tc_pushL, tz_pushL, tI_pushB, tL_pushB, tR_pushB, tN_pushB, tZ_pushB, tC_pushB, tc_pushB, tz_pushB, tI_cpL, tL_cpL, tR_cpL, tN_cpL, tZ_cpL, tC_cpL, tc_cpL, tz_cpL, h1, eq_self, true_and, and_true, false_and, and_false, if_true, if_false, reduceIte, ite_true, ite_false, not_true_eq_false, not_false_eq_true]
  have no : ∀ s, s ≠ 59 → s ≠ 60 → (tN (muB A) s = tN A s ∧ ∀ i, cellT (muB A) s i = cellT A s i) := fun s e1 e2 => by
    refine ⟨?_, fun i => ?_⟩
    · unfold muB
      simp (config := {decide := true}) only [tI_sI, tL_sI, tR_sI, tN_sI, tZ_sI, tC_sI, tc_sI, tz_sI, tI_sL, tL_sL, tR_sL, tN_sL, tZ_sL, tC_sL, tc_sL, tz_sL, tI_sR, tL_sR, tR_sR, tN_sR, tZ_sR, tC_sR, tc_sR, tz_sR, tI_sZ, tL_sZ, tR_sZ, tN_sZ, tZ_sZ, tC_sZ, tc_sZ, tz_sZ, tI_sC, tL_sC, tR_sC, tN_sC, tZ_sC, tC_sC, tc_sC, tz_sC, tI_aC, tL_aC, tR_aC, tN_aC, tZ_aC, tC_aC, tc_aC, tz_aC, tI_rmL, tL_rmL, tR_rmL, tN_rmL, tZ_rmL, tC_rmL, tc_rmL, tz_rmL, tI_mk, tL_mk, tR_mk, tN_mk, tZ_mk, tC_mk, tc_mk, tz_mk, tI_pushL, tL_pushL, tR_pushL, tN_pushL, tZ_pushL, tC_pushL, tc_pushL, tz_pushL, tI_pushB, tL_pushB, tR_pushB, tN_pushB, tZ_pushB, tC_pushB, tc_pushB, tz_pushB, tI_cpL, tL_cpL, tR_cpL, tN_cpL, tZ_cpL, tC_cpL, tc_cpL, tz_cpL, e1, e2, eq_self, true_and, and_true, false_and, and_false, if_true, if_false, reduceIte, ite_true, ite_false, not_true_eq_false, not_false_eq_true]
    · refine cellT_congr ?_ ?_ ?_ ?_ ?_
      · funext k
        unfold muB
        simp (config := {decide := true}) only [tI_sI, tL_sI, tR_sI, tN_sI, tZ_sI, tC_sI, tc_sI, tz_sI, tI_sL, tL_sL, tR_sL, tN_sL, tZ_sL, tC_sL, tc_sL, tz_sL, tI_sR, tL_sR, tR_sR, tN_sR, tZ_sR, tC_sR, tc_sR, tz_sR, tI_sZ, tL_sZ, tR_sZ, tN_sZ, tZ_sZ, tC_sZ, tc_sZ, tz_sZ, tI_sC, tL_sC, tR_sC, tN_sC, tZ_sC, tC_sC, tc_sC, tz_sC, tI_aC, tL_aC, tR_aC, tN_aC, tZ_aC, tC_aC, tc_aC, tz_aC, tI_rmL, tL_rmL, tR_rmL, tN_rmL, tZ_rmL, tC_rmL, tc_rmL, tz_rmL, tI_mk, tL_mk, tR_mk, tN_mk, tZ_mk, tC_mk, tc_mk, tz_mk, tI_pushL, tL_pushL, tR_pushL, tN_pushL, tZ_pushL, tC_pushL, tc_pushL, tz_pushL, tI_pushB, tL_pushB, tR_pushB, tN_pushB, tZ_pushB, tC_pushB, tc_pushB, tz_pushB, tI_cpL, tL_cpL, tR_cpL, tN_cpL, tZ_cpL, tC_cpL, tc_cpL, tz_cpL, e1, e2, eq_self, true_and, and_true, false_and, and_false, if_true, if_false, reduceIte, ite_true, ite_false, not_true_eq_false, not_false_eq_true]
      · funext k
        unfold muB
        simp (config := {decide := true}) only [tI_sI, tL_sI, tR_sI, tN_sI, tZ_sI, tC_sI, tc_sI, tz_sI, tI_sL, tL_sL, tR_sL, tN_sL, tZ_sL, tC_sL, tc_sL, tz_sL, tI_sR, tL_sR, tR_sR, tN_sR, tZ_sR, tC_sR, tc_sR, tz_sR, tI_sZ, tL_sZ, tR_sZ, tN_sZ, tZ_sZ, tC_sZ, tc_sZ, tz_sZ, tI_sC, tL_sC, tR_sC, tN_sC, tZ_sC, tC_sC, tc_sC, tz_sC, tI_aC, tL_aC, tR_aC, tN_aC, tZ_aC, tC_aC, tc_aC, tz_aC, tI_rmL, tL_rmL, tR_rmL, tN_rmL, tZ_rmL, tC_rmL, tc_rmL, tz_rmL, tI_mk, tL_mk, tR_mk, tN_mk, tZ_mk, tC_mk, tc_mk, tz_mk, tI_pushL, tL_pushL, tR_pushL, tN_pushL, tZ_pushL, tC_pushL, tc_pushL, tz_pushL, tI_pushB, tL_pushB, tR_pushB, tN_pushB, tZ_pushB, tC_pushB, tc_pushB, tz_pushB, tI_cpL, tL_cpL, tR_cpL, tN_cpL, tZ_cpL, tC_cpL, tc_cpL, tz_cpL, e1, e2, eq_self, true_and, and_true, false_and, and_false, if_true, if_false, reduceIte, ite_true, ite_false, not_true_eq_false, not_false_eq_true]
      · funext k
        unfold muB
        simp (config := {decide := true}) only [tI_sI, tL_sI, tR_sI, tN_sI, tZ_sI, tC_sI, tc_sI, tz_sI, tI_sL, tL_sL, tR_sL, tN_sL, tZ_sL, tC_sL, tc_sL, tz_sL, tI_sR, tL_sR, tR_sR, tN_sR, tZ_sR, tC_sR, tc_sR, tz_sR, tI_sZ, tL_sZ, tR_sZ, tN_sZ, tZ_sZ, tC_sZ, tc_sZ, tz_sZ, tI_sC, tL_sC, tR_sC, tN_sC, tZ_sC, tC_sC, tc_sC, tz_sC, tI_aC, tL_aC, tR_aC, tN_aC, tZ_aC, tC_aC, tc_aC, tz_aC, tI_rmL, tL_rmL, tR_rmL, tN_rmL, tZ_rmL, tC_rmL, tc_rmL, tz_rmL, tI_mk, tL_mk, tR_mk, tN_mk, tZ_mk, tC_mk, tc_mk, tz_mk, tI_pushL, tL_pushL, tR_pushL, tN_pushL, tZ_pushL, tC_pushL, tc_pushL, tz_pushL, tI_pushB, tL_pushB, tR_pushB, tN_pushB, tZ_pushB, tC_pushB, tc_pushB, tz_pushB, tI_cpL, tL_cpL, tR_cpL, tN_cpL, tZ_cpL, tC_cpL, tc_cpL, tz_cpL, e1, e2, eq_self, true_and, and_true, false_and, and_false, if_true, if_false, reduceIte, ite_true, ite_false, not_true_eq_false, not_false_eq_true]
      · unfold muB
        simp (config := {decide := true}) only [tI_sI, tL_sI, tR_sI, tN_sI, tZ_sI, tC_sI, tc_sI, tz_sI, tI_sL, tL_sL, tR_sL, tN_sL, tZ_sL, tC_sL, tc_sL, tz_sL, tI_sR, tL_sR, tR_sR, tN_sR, tZ_sR, tC_sR, tc_sR, tz_sR, tI_sZ, tL_sZ, tR_sZ, tN_sZ, tZ_sZ, tC_sZ, tc_sZ, tz_sZ, tI_sC, tL_sC, tR_sC, tN_sC, tZ_sC, tC_sC, tc_sC, tz_sC, tI_aC, tL_aC, tR_aC, tN_aC, tZ_aC, tC_aC, tc_aC, tz_aC, tI_rmL, tL_rmL, tR_rmL, tN_rmL, tZ_rmL, tC_rmL, tc_rmL, tz_rmL, tI_mk, tL_mk, tR_mk, tN_mk, tZ_mk, tC_mk, tc_mk, tz_mk, tI_pushL, tL_pushL, tR_pushL, tN_pushL, tZ_pushL, tC_pushL, tc_pushL, tz_pushL, tI_pushB, tL_pushB, tR_pushB, tN_pushB, tZ_pushB, tC_pushB, tc_pushB, tz_pushB, tI_cpL, tL_cpL, tR_cpL, tN_cpL, tZ_cpL, tC_cpL, tc_cpL, tz_cpL, e1, e2, eq_self, true_and, and_true, false_and, and_false, if_true, if_false, reduceIte, ite_true, ite_false, not_true_eq_false, not_false_eq_true]
      · unfold muB
        simp (config := {decide := true}) only [tI_sI, tL_sI, tR_sI, tN_sI, tZ_sI, tC_sI, tc_sI, tz_sI, tI_sL, tL_sL, tR_sL, tN_sL, tZ_sL, tC_sL, tc_sL, tz_sL, tI_sR, tL_sR, tR_sR, tN_sR, tZ_sR, tC_sR, tc_sR, tz_sR, tI_sZ, tL_sZ, tR_sZ, tN_sZ, tZ_sZ, tC_sZ, tc_sZ, tz_sZ, tI_sC, tL_sC, tR_sC, tN_sC, tZ_sC, tC_sC, tc_sC, tz_sC, tI_aC, tL_aC, tR_aC, tN_aC, tZ_aC, tC_aC, tc_aC, tz_aC, tI_rmL, tL_rmL, tR_rmL, tN_rmL, tZ_rmL, tC_rmL, tc_rmL, tz_rmL, tI_mk, tL_mk, tR_mk, tN_mk, tZ_mk, tC_mk, tc_mk, tz_mk, tI_pushL, tL_pushL, tR_pushL, tN_pushL, tZ_pushL, tC_pushL, tc_pushL, tz_pushL, tI_pushB, tL_pushB, tR_pushB, tN_pushB, tZ_pushB, tC_pushB, tc_pushB, tz_pushB, tI_cpL, tL_cpL, tR_cpL, tN_cpL, tZ_cpL, tC_cpL, tc_cpL, tz_cpL, e1, e2, eq_self, true_and, and_true, false_and, and_false, if_true, if_false, reduceIte, ite_true, ite_false, not_true_eq_false, not_false_eq_true]
  refine Prod.ext ?_ (Prod.ext ?_ ?_)
  · funext s
    show (match Nat.beq s 59 with | true => (enc 2 A z).1 s ++ [(1900, (List.range 4).map (fun j => aR (some (60, ((enc 2 A z).1 60).length + j))))] | false => match Nat.beq s 60 with | true => (enc 2 A z).1 s ++ List.replicate 4 (1002, List.replicate 100 (dfa 1002)) | false => (enc 2 A z).1 s) = _
    by_cases e1 : s = 59
    · subst e1
      rw [beq_tt rfl]
      dsimp only
      rw [enc_at _ _ o59, enc_at _ _ o59, enc_len _ _ o60, h1, h2, n59]
      show [((1900, _) : OC)] = [cellT (muB A) 59 0]
      unfold cellT cellF
      rw [z59, show kd 59 = 1900 by decide +kernel]
      show [((1900, [aR (some (60, 0)), aR (some (60, 1)), aR (some (60, 2)), aR (some (60, 3))]) : OC)] = [(1900, [aR (tR (muB A) 59 0 0), aR (tR (muB A) 59 0 1), aR (tR (muB A) 59 0 2), aR (tR (muB A) 59 0 3)])]
      unfold muB
      simp (config := {decide := true}) only [tI_sI, tL_sI, tR_sI, tN_sI, tZ_sI, tC_sI, tc_sI, tz_sI, tI_sL, tL_sL, tR_sL, tN_sL, tZ_sL, tC_sL, tc_sL, tz_sL, tI_sR, tL_sR, tR_sR, tN_sR, tZ_sR, tC_sR, tc_sR, tz_sR, tI_sZ, tL_sZ, tR_sZ, tN_sZ, tZ_sZ, tC_sZ, tc_sZ, tz_sZ, tI_sC, tL_sC, tR_sC, tN_sC, tZ_sC, tC_sC, tc_sC, tz_sC, tI_aC, tL_aC, tR_aC, tN_aC, tZ_aC, tC_aC, tc_aC, tz_aC, tI_rmL, tL_rmL, tR_rmL, tN_rmL, tZ_rmL, tC_rmL, tc_rmL, tz_rmL, tI_mk, tL_mk, tR_mk, tN_mk, tZ_mk, tC_mk, tc_mk, tz_mk, tI_pushL, tL_pushL, tR_pushL, tN_pushL, tZ_pushL, tC_pushL, tc_pushL, tz_pushL, tI_pushB, tL_pushB, tR_pushB, tN_pushB, tZ_pushB, tC_pushB, tc_pushB, tz_pushB, tI_cpL, tL_cpL, tR_cpL, tN_cpL, tZ_cpL, tC_cpL, tc_cpL, tz_cpL, eq_self, true_and, and_true, false_and, and_false, if_true, if_false, reduceIte, ite_true, ite_false, not_true_eq_false, not_false_eq_true]
    · rw [beq_ff e1]
      dsimp only
      by_cases e2 : s = 60
      · subst e2
        rw [beq_tt rfl]
        dsimp only
        rw [enc_at _ _ o60, enc_at _ _ o60, h2, n60]
        show List.replicate 4 ((1002, List.replicate 100 (aI 0)) : OC) = [cellT (muB A) 60 0, cellT (muB A) 60 1, cellT (muB A) 60 2, cellT (muB A) 60 3]
        rw [muB_row A h2 0 (by simp), muB_row A h2 1 (by simp), muB_row A h2 2 (by simp), muB_row A h2 3 (by simp)]
        rfl
      · rw [beq_ff e2]
        dsimp only
        obtain ⟨q1, q2⟩ := no s e1 e2
        by_cases e3 : ow s = 2
        · rw [enc_at _ _ e3, enc_at _ _ e3, q1]
          exact List.map_congr_left (fun i _ => (q2 i).symm)
        · rw [enc_ot _ _ e3, enc_ot _ _ e3]
  · show tc A + z.2.1 + 5 = tc A + 1 + 1 + 1 + 1 + 1 + z.2.1
    omega
  · show tz A + z.2.2 + 404 = tz A + 4 + 100 + 100 + 100 + 100 + z.2.2
    omega
theorem paS_enc {s i : Nat} {m : TS} {z : Hp} {q : Nat × Nat} {l : List AV} {x : Int32} (h : okQ 2 s = true) (hk : kd s = 1034) (hi : i < tN m s) (h0 : ¬ x < 0) (hx : x.toNatClampNeg < tZ m s i) (hq : ow q.1 ≠ 2) (hv : hG z (some q) = some (42, l)) : paR (enc 2 m z) (some (s, i)) x (some q) = some (enc 2 (sR m s i x.toNatClampNeg (some q)) z) := by
  obtain ⟨h1, h2, h3, h4⟩ := okQ_of h
  unfold paR
  rw [hG_enc h1 hi]
  dsimp only
  rw [cell_tag, tag_arr (by omega) h3]
  have hs : okS (kd s) (some q) (enc 2 m z) = true := by
    unfold okS
    dsimp only
    rw [show hG (enc 2 m z) (some q) = some (42, l) from (hG_ot (s := q.1) (i := q.2) hq).trans hv, hk]
    rfl
  have e : (Nat.ble 1010 (kd s) && Nat.blt (kd s) 2000 && okS (kd s) (some q) (enc 2 m z)) = true := by
    rw [hs, Bool.and_true, Bool.and_eq_true]
    exact ⟨ble_tt h2, ble_tt h3⟩
  rw [e]
  dsimp only
  refine pa_enc (K := kd s) (t := 4) (by decide) ?_ hi h0 hx set_sR
  unfold okA
  rw [beq_tt h1, beq_tt rfl, ble_tt (show 1000 ≤ kd s by omega), show Nat.blt (kd s) 2000 = true from ble_tt h3, beq_tt (h4 0)]
  rfl
def kk51 (A : TS) : TS := sR (mk (sI (sI (sR (aC (mk (A) 13 0 16 4) 1 16) 24 0 0 (some (13, 0))) 24 0 1 0) 24 0 2 (-1)) 14 4 0 4) 24 0 3 (some (14, 0))
def kk12 (A : TS) : TS := sI (sI (sI (A) 25 0 0 0) 25 0 1 0) 25 0 2 1
def kk13 (A : TS) : TS := sR (sR (sI (sI (sR (mk (A) 3 1000 0 1000) 30 0 2 (some (3, 0))) 30 0 3 0) 30 0 4 0) 30 0 0 (some (28, 0))) 30 0 1 (some (25, 0))
def kk63 (A : TS) : TS := sI (sI (sR (mk (A) 15 0 0 3) 31 0 0 (some (15, 0))) 31 0 1 1000) 31 0 2 1
def kk76 (A : TS) : TS := sI (sL (sL (sI (sR (kk63 (mk (sR (kk13 (mk (sR (mk (sR (mk (sR (mk (sR (mk (sR (kk12 (mk (sR (kk51 (mk A 24 0 0 4)) 96 0 0 (some (24, 0))) 25 0 0 3)) 96 0 1 (some (25, 0))) 26 0 0 3) 96 0 2 (some (26, 0))) 27 0 0 3) 96 0 3 (some (27, 0))) 28 0 0 3) 96 0 4 (some (28, 0))) 29 0 0 3) 96 0 5 (some (29, 0))) 30 0 0 5)) 96 0 6 (some (30, 0))) 31 0 0 3)) 96 0 7 (some (31, 0))) 96 0 8 100) 96 0 9 0) 96 0 10 0) 96 0 11 0
def kk143 (A : TS) : TS := sR (mk (sR (mk (sR (mk (sR (mk (sR (mk (A) 43 8 0 8) 91 0 0 (some (43, 0))) 44 8 0 8) 91 0 1 (some (44, 0))) 45 4 0 4) 91 0 2 (some (45, 0))) 46 4 0 4) 91 0 3 (some (46, 0))) 47 8 0 8) 91 0 4 (some (47, 0))
def kk223 (A : TS) : TS := sR (sR (mk (sR (mk (sR (mk (sR (mk (sR (mk (A) 86 80 0 80) 93 0 1 (some (86, 0))) 87 2000 0 2000) 93 0 2 (some (87, 0))) 88 4 0 4) 93 0 3 (some (88, 0))) 89 4 0 4) 93 0 4 (some (89, 0))) 90 4 0 4) 93 0 5 (some (90, 0))) 93 0 0 (some (91, 0))
def kk157 (A : TS) : TS := sR (sR (sR (muB (sR (mk (sR (mk (sR (mk (sR (mk (sR (mk (sR (mk (A) 53 1000 0 1000) 94 0 2 (some (53, 0))) 54 200 0 200) 94 0 3 (some (54, 0))) 55 200 0 200) 94 0 4 (some (55, 0))) 56 200 0 200) 94 0 5 (some (56, 0))) 57 8 0 8) 94 0 7 (some (57, 0))) 58 8 0 8) 94 0 8 (some (58, 0)))) 94 0 9 (some (59, 0))) 94 0 0 (some (93, 0))) 94 0 1 (some (91, 0))
def kk188 (A : TS) : TS := sR (sR (sR (mk (sR (mk (sR (mk (sR (mk (sR (mk (sR (mk (sR (mk (sR (mk (sR (mk (sI (sI (sI (A) 95 0 2 1) 95 0 3 1000) 95 0 5 1) 65 8 0 8) 95 0 10 (some (65, 0))) 66 2000 0 2000) 95 0 11 (some (66, 0))) 67 2000 0 2000) 95 0 12 (some (67, 0))) 68 4 0 4) 95 0 13 (some (68, 0))) 69 4 0 4) 95 0 14 (some (69, 0))) 70 200 0 200) 95 0 15 (some (70, 0))) 71 200 0 200) 95 0 16 (some (71, 0))) 72 200 0 200) 95 0 17 (some (72, 0))) 73 8 0 8) 95 0 18 (some (73, 0))) 95 0 7 (some (93, 0))) 95 0 8 (some (94, 0))
def kk215a (A : TS) : TS := sR (sR (sR (sR (sR (sR (sR (sR (sR (sR (sR (sR (sR (sR (sR (sR (sR (mk (A) 82 16 0 16) 82 0 0 (some (0, 11))) 82 0 1 (some (0, 12))) 82 0 2 (some (0, 13))) 82 0 3 (some (0, 14))) 82 0 4 (some (0, 15))) 82 0 5 (some (0, 16))) 82 0 6 (some (0, 17))) 82 0 7 (some (0, 18))) 82 0 8 (some (0, 19))) 82 0 9 (some (0, 20))) 82 0 10 (some (0, 21))) 82 0 11 (some (0, 22))) 82 0 12 (some (0, 23))) 82 0 13 (some (0, 24))) 82 0 14 (some (0, 25))) 82 0 15 (some (0, 26))) 92 0 0 (some (82, 0))
def kk215b (A : TS) : TS := sR (mk (sR (mk (sR (sI (sI (sI (sI (sI (sI (sI (sI (sI (sI (sI (sI (sI (sI (sI (sI (mk (A) 83 16 0 16) 83 0 0 1) 83 0 1 2) 83 0 2 4) 83 0 3 3) 83 0 4 1) 83 0 5 3) 83 0 6 1) 83 0 7 4) 83 0 8 0) 83 0 9 0) 83 0 10 3) 83 0 11 2) 83 0 12 1) 83 0 13 1) 83 0 14 0) 83 0 15 1) 92 0 1 (some (83, 0))) 84 600 0 600) 92 0 2 (some (84, 0))) 85 800 0 800) 92 0 9 (some (85, 0))
def kk248 (A : TS) : TS := sI (sI (sI (sR (sI (sR (kk188 (mk (sR (kk157 (mk (sR (kk223 (mk (sR (kk215b (kk215a (mk (sR (kk143 (mk A 91 0 0 9)) 97 0 0 (some (91, 0))) 92 0 0 11))) 97 0 1 (some (92, 0))) 93 0 0 12)) 97 0 2 (some (93, 0))) 94 0 0 18)) 97 0 3 (some (94, 0))) 95 0 0 19)) 97 0 4 (some (95, 0))) 97 0 7 100) 93 0 11 (some (95, 0))) 95 0 2 1) 95 0 3 1000) 95 0 5 1
/-- a fresh array, simp's way -/
theorem nwz {w s K t : Nat} (n : Int32) {k : Nat} (hk : n.toNatClampNeg = k) (h : okA w s K t = true) (h0 : ¬ n < 0) (hd : ∀ k, dfa K = vlK t k (fun _ => 0) (fun _ => 0) (fun _ => none)) (m : TS) (z : Hp) (hN : tN m s = 0) : nwa (enc w m z) s K n = some (some (s, 0), enc w (mk m s k 0 k) z) := by
  subst hk
  rw [nwa_enc h h0 hd, hN]

theorem x51 (A : TS) (z : Hp) (h24 : 0 < tN A 24) (h13 : tN A 13 = 0) (h14 : tN A 14 = 0) : Ex 51 [aR (some (24, 0))] (enc 1 A z) = some (.inl none, enc 1 (kk51 A) z) := by
  have n14 := nwz (w := 1) (s := 14) (K := 1000) (t := 0) (4 : Int32) (k := 4) (by decide +kernel) (by decide +kernel) (by decide) (fun _ => rfl)
  refine (X_in (by decide +kernel) (h24) rfl).trans ((lf_51_0 ..).trans ?_)
  rw [X420 (by decide +kernel) h24, cV_v, nob_1 (by decide +kernel), X410 (by decide +kernel) (by decide +kernel), cV_v, h13]
  simp (config := {decide := true}) only [gfI_enc, gfL_enc, gfR_enc, pfI_enc, pfL_enc, pfR_enc, Option.bind_some, cI_v, cL_v, cF_v, cD_v, cR_v, cV_v, cI_x, cL_x, cR_x, cV_x, gz_0, gz_1, acc_enc, tI_sI, tL_sI, tR_sI, tN_sI, tZ_sI, tC_sI, tc_sI, tz_sI, tI_sL, tL_sL, tR_sL, tN_sL, tZ_sL, tC_sL, tc_sL, tz_sL, tI_sR, tL_sR, tR_sR, tN_sR, tZ_sR, tC_sR, tc_sR, tz_sR, tI_sZ, tL_sZ, tR_sZ, tN_sZ, tZ_sZ, tC_sZ, tc_sZ, tz_sZ, tI_sC, tL_sC, tR_sC, tN_sC, tZ_sC, tC_sC, tc_sC, tz_sC, tI_aC, tL_aC, tR_aC, tN_aC, tZ_aC, tC_aC, tc_aC, tz_aC, tI_rmL, tL_rmL, tR_rmL, tN_rmL, tZ_rmL, tC_rmL, tc_rmL, tz_rmL, tI_mk, tL_mk, tR_mk, tN_mk, tZ_mk, tC_mk, tc_mk, tz_mk, tI_pushL, tL_pushL, tR_pushL, tN_pushL, tZ_pushL, tC_pushL, tc_pushL, tz_pushL, tI_pushB, tL_pushB, tR_pushB, tN_pushB, tZ_pushB, tC_pushB, tc_pushB, tz_pushB, tI_cpL, tL_cpL, tR_cpL, tN_cpL, tZ_cpL, tC_cpL, tc_cpL, tz_cpL, eq_self, true_and, and_true, false_and, and_false, if_true, if_false, reduceIte, ite_true, ite_false, not_true_eq_false, not_false_eq_true, h24, h13, h14, n14]
  rfl
theorem x12 (A : TS) (z : Hp) (h25 : 0 < tN A 25) : Ex 12 [aR (some (25, 0))] (enc 1 A z) = some (.inl none, enc 1 (kk12 A) z) := by
  refine (X_in (by decide +kernel) (h25) rfl).trans ((lf_12_0 ..).trans ?_)
  rw [X420 (by decide +kernel) h25, cV_v]
  simp (config := {decide := true}) only [gfI_enc, gfL_enc, gfR_enc, pfI_enc, pfL_enc, pfR_enc, Option.bind_some, cI_v, cL_v, cF_v, cD_v, cR_v, cV_v, cI_x, cL_x, cR_x, cV_x, gz_0, gz_1, acc_enc, tI_sI, tL_sI, tR_sI, tN_sI, tZ_sI, tC_sI, tc_sI, tz_sI, tI_sL, tL_sL, tR_sL, tN_sL, tZ_sL, tC_sL, tc_sL, tz_sL, tI_sR, tL_sR, tR_sR, tN_sR, tZ_sR, tC_sR, tc_sR, tz_sR, tI_sZ, tL_sZ, tR_sZ, tN_sZ, tZ_sZ, tC_sZ, tc_sZ, tz_sZ, tI_sC, tL_sC, tR_sC, tN_sC, tZ_sC, tC_sC, tc_sC, tz_sC, tI_aC, tL_aC, tR_aC, tN_aC, tZ_aC, tC_aC, tc_aC, tz_aC, tI_rmL, tL_rmL, tR_rmL, tN_rmL, tZ_rmL, tC_rmL, tc_rmL, tz_rmL, tI_mk, tL_mk, tR_mk, tN_mk, tZ_mk, tC_mk, tc_mk, tz_mk, tI_pushL, tL_pushL, tR_pushL, tN_pushL, tZ_pushL, tC_pushL, tc_pushL, tz_pushL, tI_pushB, tL_pushB, tR_pushB, tN_pushB, tZ_pushB, tC_pushB, tc_pushB, tz_pushB, tI_cpL, tL_cpL, tR_cpL, tN_cpL, tZ_cpL, tC_cpL, tc_cpL, tz_cpL, eq_self, true_and, and_true, false_and, and_false, if_true, if_false, reduceIte, ite_true, ite_false, not_true_eq_false, not_false_eq_true, h25]
  rfl
theorem x13 (A : TS) (z : Hp) (h30 : 0 < tN A 30) (h3 : tN A 3 = 0) : Ex 13 [aR (some (30, 0)), aR (some (28, 0)), aR (some (25, 0))] (enc 1 A z) = some (.inl none, enc 1 (kk13 A) z) := by
  have n3 := nwz (w := 1) (s := 3) (K := 1015) (t := 4) (1000 : Int32) (k := 1000) (by decide +kernel) (by decide +kernel) (by decide) (fun _ => rfl)
  refine (X_in (by decide +kernel) (h30) rfl).trans ((lf_13_0 ..).trans ?_)
  rw [X420 (by decide +kernel) h30, cV_v]
  simp (config := {decide := true}) only [gfI_enc, gfL_enc, gfR_enc, pfI_enc, pfL_enc, pfR_enc, Option.bind_some, cI_v, cL_v, cF_v, cD_v, cR_v, cV_v, cI_x, cL_x, cR_x, cV_x, gz_0, gz_1, acc_enc, tI_sI, tL_sI, tR_sI, tN_sI, tZ_sI, tC_sI, tc_sI, tz_sI, tI_sL, tL_sL, tR_sL, tN_sL, tZ_sL, tC_sL, tc_sL, tz_sL, tI_sR, tL_sR, tR_sR, tN_sR, tZ_sR, tC_sR, tc_sR, tz_sR, tI_sZ, tL_sZ, tR_sZ, tN_sZ, tZ_sZ, tC_sZ, tc_sZ, tz_sZ, tI_sC, tL_sC, tR_sC, tN_sC, tZ_sC, tC_sC, tc_sC, tz_sC, tI_aC, tL_aC, tR_aC, tN_aC, tZ_aC, tC_aC, tc_aC, tz_aC, tI_rmL, tL_rmL, tR_rmL, tN_rmL, tZ_rmL, tC_rmL, tc_rmL, tz_rmL, tI_mk, tL_mk, tR_mk, tN_mk, tZ_mk, tC_mk, tc_mk, tz_mk, tI_pushL, tL_pushL, tR_pushL, tN_pushL, tZ_pushL, tC_pushL, tc_pushL, tz_pushL, tI_pushB, tL_pushB, tR_pushB, tN_pushB, tZ_pushB, tC_pushB, tc_pushB, tz_pushB, tI_cpL, tL_cpL, tR_cpL, tN_cpL, tZ_cpL, tC_cpL, tc_cpL, tz_cpL, eq_self, true_and, and_true, false_and, and_false, if_true, if_false, reduceIte, ite_true, ite_false, not_true_eq_false, not_false_eq_true, h30, h3, n3]
  rfl
theorem x63 (A : TS) (z : Hp) (h31 : 0 < tN A 31) (h15 : tN A 15 = 0) : Ex 63 [aR (some (31, 0))] (enc 1 A z) = some (.inl none, enc 1 (kk63 A) z) := by
  refine (X_in (by decide +kernel) (h31) rfl).trans ((lf_63_0 ..).trans ?_)
  rw [X420 (by decide +kernel) h31, cV_v, nob_1 (by decide +kernel), X400 (by decide +kernel), cV_v, h15]
  simp (config := {decide := true}) only [gfI_enc, gfL_enc, gfR_enc, pfI_enc, pfL_enc, pfR_enc, Option.bind_some, cI_v, cL_v, cF_v, cD_v, cR_v, cV_v, cI_x, cL_x, cR_x, cV_x, gz_0, gz_1, acc_enc, tI_sI, tL_sI, tR_sI, tN_sI, tZ_sI, tC_sI, tc_sI, tz_sI, tI_sL, tL_sL, tR_sL, tN_sL, tZ_sL, tC_sL, tc_sL, tz_sL, tI_sR, tL_sR, tR_sR, tN_sR, tZ_sR, tC_sR, tc_sR, tz_sR, tI_sZ, tL_sZ, tR_sZ, tN_sZ, tZ_sZ, tC_sZ, tc_sZ, tz_sZ, tI_sC, tL_sC, tR_sC, tN_sC, tZ_sC, tC_sC, tc_sC, tz_sC, tI_aC, tL_aC, tR_aC, tN_aC, tZ_aC, tC_aC, tc_aC, tz_aC, tI_rmL, tL_rmL, tR_rmL, tN_rmL, tZ_rmL, tC_rmL, tc_rmL, tz_rmL, tI_mk, tL_mk, tR_mk, tN_mk, tZ_mk, tC_mk, tc_mk, tz_mk, tI_pushL, tL_pushL, tR_pushL, tN_pushL, tZ_pushL, tC_pushL, tc_pushL, tz_pushL, tI_pushB, tL_pushB, tR_pushB, tN_pushB, tZ_pushB, tC_pushB, tc_pushB, tz_pushB, tI_cpL, tL_cpL, tR_cpL, tN_cpL, tZ_cpL, tC_cpL, tc_cpL, tz_cpL, eq_self, true_and, and_true, false_and, and_false, if_true, if_false, reduceIte, ite_true, ite_false, not_true_eq_false, not_false_eq_true, h31, h15]
  rfl
theorem x143 (A : TS) (z : Hp) (h91 : 0 < tN A 91) (g : tN A 43 = 0 ∧ tN A 44 = 0 ∧ tN A 45 = 0 ∧ tN A 46 = 0 ∧ tN A 47 = 0) : Ex 143 [aR (some (91, 0))] (enc 2 A z) = some (.inl none, enc 2 (kk143 A) z) := by
  obtain ⟨g1, g2, g3, g4, g5⟩ := g
  have n1 := nwz (w := 2) (s := 43) (K := 1001) (t := 1) (8 : Int32) (k := 8) (by decide +kernel) (by decide +kernel) (by decide) (fun _ => rfl)
  have n2 := nwz (w := 2) (s := 44) (K := 1001) (t := 1) (8 : Int32) (k := 8) (by decide +kernel) (by decide +kernel) (by decide) (fun _ => rfl)
  have n3 := nwz (w := 2) (s := 45) (K := 1001) (t := 1) (4 : Int32) (k := 4) (by decide +kernel) (by decide +kernel) (by decide) (fun _ => rfl)
  have n4 := nwz (w := 2) (s := 46) (K := 1001) (t := 1) (4 : Int32) (k := 4) (by decide +kernel) (by decide +kernel) (by decide) (fun _ => rfl)
  have n5 := nwz (w := 2) (s := 47) (K := 1002) (t := 0) (8 : Int32) (k := 8) (by decide +kernel) (by decide +kernel) (by decide) (fun _ => rfl)
  refine (X_in (by decide +kernel) (h91) rfl).trans ((lf_143_0 ..).trans ?_)
  rw [X420 (by decide +kernel) h91, cV_v]
  simp (config := {decide := true}) only [gfI_enc, gfL_enc, gfR_enc, pfI_enc, pfL_enc, pfR_enc, Option.bind_some, cI_v, cL_v, cF_v, cD_v, cR_v, cV_v, cI_x, cL_x, cR_x, cV_x, gz_0, gz_1, acc_enc, tI_sI, tL_sI, tR_sI, tN_sI, tZ_sI, tC_sI, tc_sI, tz_sI, tI_sL, tL_sL, tR_sL, tN_sL, tZ_sL, tC_sL, tc_sL, tz_sL, tI_sR, tL_sR, tR_sR, tN_sR, tZ_sR, tC_sR, tc_sR, tz_sR, tI_sZ, tL_sZ, tR_sZ, tN_sZ, tZ_sZ, tC_sZ, tc_sZ, tz_sZ, tI_sC, tL_sC, tR_sC, tN_sC, tZ_sC, tC_sC, tc_sC, tz_sC, tI_aC, tL_aC, tR_aC, tN_aC, tZ_aC, tC_aC, tc_aC, tz_aC, tI_rmL, tL_rmL, tR_rmL, tN_rmL, tZ_rmL, tC_rmL, tc_rmL, tz_rmL, tI_mk, tL_mk, tR_mk, tN_mk, tZ_mk, tC_mk, tc_mk, tz_mk, tI_pushL, tL_pushL, tR_pushL, tN_pushL, tZ_pushL, tC_pushL, tc_pushL, tz_pushL, tI_pushB, tL_pushB, tR_pushB, tN_pushB, tZ_pushB, tC_pushB, tc_pushB, tz_pushB, tI_cpL, tL_cpL, tR_cpL, tN_cpL, tZ_cpL, tC_cpL, tc_cpL, tz_cpL, eq_self, true_and, and_true, false_and, and_false, if_true, if_false, reduceIte, ite_true, ite_false, not_true_eq_false, not_false_eq_true, h91, g1, g2, g3, g4, g5, n1, n2, n3, n4, n5]
  rfl
theorem x223 (A : TS) (z : Hp) (h93 : 0 < tN A 93) (g : tN A 86 = 0 ∧ tN A 87 = 0 ∧ tN A 88 = 0 ∧ tN A 89 = 0 ∧ tN A 90 = 0) : Ex 223 [aR (some (93, 0)), aR (some (91, 0))] (enc 2 A z) = some (.inl none, enc 2 (kk223 A) z) := by
  obtain ⟨g1, g2, g3, g4, g5⟩ := g
  have n1 := nwz (w := 2) (s := 86) (K := 1000) (t := 0) (80 : Int32) (k := 80) (by decide +kernel) (by decide +kernel) (by decide) (fun _ => rfl)
  have n2 := nwz (w := 2) (s := 87) (K := 1000) (t := 0) (2000 : Int32) (k := 2000) (by decide +kernel) (by decide +kernel) (by decide) (fun _ => rfl)
  have n3 := nwz (w := 2) (s := 88) (K := 1000) (t := 0) (4 : Int32) (k := 4) (by decide +kernel) (by decide +kernel) (by decide) (fun _ => rfl)
  have n4 := nwz (w := 2) (s := 89) (K := 1000) (t := 0) (4 : Int32) (k := 4) (by decide +kernel) (by decide +kernel) (by decide) (fun _ => rfl)
  have n5 := nwz (w := 2) (s := 90) (K := 1000) (t := 0) (4 : Int32) (k := 4) (by decide +kernel) (by decide +kernel) (by decide) (fun _ => rfl)
  refine (X_in (by decide +kernel) (h93) rfl).trans ((lf_223_0 ..).trans ?_)
  rw [X420 (by decide +kernel) h93, cV_v]
  simp (config := {decide := true}) only [gfI_enc, gfL_enc, gfR_enc, pfI_enc, pfL_enc, pfR_enc, Option.bind_some, cI_v, cL_v, cF_v, cD_v, cR_v, cV_v, cI_x, cL_x, cR_x, cV_x, gz_0, gz_1, acc_enc, tI_sI, tL_sI, tR_sI, tN_sI, tZ_sI, tC_sI, tc_sI, tz_sI, tI_sL, tL_sL, tR_sL, tN_sL, tZ_sL, tC_sL, tc_sL, tz_sL, tI_sR, tL_sR, tR_sR, tN_sR, tZ_sR, tC_sR, tc_sR, tz_sR, tI_sZ, tL_sZ, tR_sZ, tN_sZ, tZ_sZ, tC_sZ, tc_sZ, tz_sZ, tI_sC, tL_sC, tR_sC, tN_sC, tZ_sC, tC_sC, tc_sC, tz_sC, tI_aC, tL_aC, tR_aC, tN_aC, tZ_aC, tC_aC, tc_aC, tz_aC, tI_rmL, tL_rmL, tR_rmL, tN_rmL, tZ_rmL, tC_rmL, tc_rmL, tz_rmL, tI_mk, tL_mk, tR_mk, tN_mk, tZ_mk, tC_mk, tc_mk, tz_mk, tI_pushL, tL_pushL, tR_pushL, tN_pushL, tZ_pushL, tC_pushL, tc_pushL, tz_pushL, tI_pushB, tL_pushB, tR_pushB, tN_pushB, tZ_pushB, tC_pushB, tc_pushB, tz_pushB, tI_cpL, tL_cpL, tR_cpL, tN_cpL, tZ_cpL, tC_cpL, tc_cpL, tz_cpL, eq_self, true_and, and_true, false_and, and_false, if_true, if_false, reduceIte, ite_true, ite_false, not_true_eq_false, not_false_eq_true, h93, g1, g2, g3, g4, g5, n1, n2, n3, n4, n5]
  rfl
theorem x157 (A : TS) (z : Hp) (h94 : 0 < tN A 94) (g : tN A 53 = 0 ∧ tN A 54 = 0 ∧ tN A 55 = 0 ∧ tN A 56 = 0 ∧ tN A 57 = 0 ∧ tN A 58 = 0 ∧ tN A 59 = 0 ∧ tN A 60 = 0) : Ex 157 [aR (some (94, 0)), aR (some (93, 0)), aR (some (91, 0))] (enc 2 A z) = some (.inl none, enc 2 (kk157 A) z) := by
  obtain ⟨g1, g2, g3, g4, g5, g6, g7, g8⟩ := g
  have n1 := nwz (w := 2) (s := 53) (K := 1026) (t := 4) (1000 : Int32) (k := 1000) (by decide +kernel) (by decide +kernel) (by decide) (fun _ => rfl)
  have n2 := nwz (w := 2) (s := 54) (K := 1000) (t := 0) (200 : Int32) (k := 200) (by decide +kernel) (by decide +kernel) (by decide) (fun _ => rfl)
  have n3 := nwz (w := 2) (s := 55) (K := 1000) (t := 0) (200 : Int32) (k := 200) (by decide +kernel) (by decide +kernel) (by decide) (fun _ => rfl)
  have n4 := nwz (w := 2) (s := 56) (K := 1000) (t := 0) (200 : Int32) (k := 200) (by decide +kernel) (by decide +kernel) (by decide) (fun _ => rfl)
  have n5 := nwz (w := 2) (s := 57) (K := 1000) (t := 0) (8 : Int32) (k := 8) (by decide +kernel) (by decide +kernel) (by decide) (fun _ => rfl)
  have n6 := nwz (w := 2) (s := 58) (K := 1002) (t := 0) (8 : Int32) (k := 8) (by decide +kernel) (by decide +kernel) (by decide) (fun _ => rfl)
  have o59 : ow 59 = 2 := by decide +kernel
  have el := fun (m : TS) => enc_len m z o59
  have m94 : ∀ A, tN (muB A) 94 = tN A 94 := fun A => by
    unfold muB
    simp (config := {decide := true}) only [tI_sI, tL_sI, tR_sI, tN_sI, tZ_sI, tC_sI, tc_sI, tz_sI, tI_sL, tL_sL, tR_sL, tN_sL, tZ_sL, tC_sL, tc_sL, tz_sL, tI_sR, tL_sR, tR_sR, tN_sR, tZ_sR, tC_sR, tc_sR, tz_sR, tI_sZ, tL_sZ, tR_sZ, tN_sZ, tZ_sZ, tC_sZ, tc_sZ, tz_sZ, tI_sC, tL_sC, tR_sC, tN_sC, tZ_sC, tC_sC, tc_sC, tz_sC, tI_aC, tL_aC, tR_aC, tN_aC, tZ_aC, tC_aC, tc_aC, tz_aC, tI_rmL, tL_rmL, tR_rmL, tN_rmL, tZ_rmL, tC_rmL, tc_rmL, tz_rmL, tI_mk, tL_mk, tR_mk, tN_mk, tZ_mk, tC_mk, tc_mk, tz_mk, tI_pushL, tL_pushL, tR_pushL, tN_pushL, tZ_pushL, tC_pushL, tc_pushL, tz_pushL, tI_pushB, tL_pushB, tR_pushB, tN_pushB, tZ_pushB, tC_pushB, tc_pushB, tz_pushB, tI_cpL, tL_cpL, tR_cpL, tN_cpL, tZ_cpL, tC_cpL, tc_cpL, tz_cpL, eq_self, true_and, and_true, false_and, and_false, if_true, if_false, reduceIte, ite_true, ite_false, not_true_eq_false, not_false_eq_true]
  refine (X_in (by decide +kernel) (h94) rfl).trans ((lf_157_0 ..).trans ?_)
  rw [X420 (by decide +kernel) h94, cV_v]
  simp (config := {decide := true}) only [gfI_enc, gfL_enc, gfR_enc, pfI_enc, pfL_enc, pfR_enc, Option.bind_some, cI_v, cL_v, cF_v, cD_v, cR_v, cV_v, cI_x, cL_x, cR_x, cV_x, gz_0, gz_1, acc_enc, tI_sI, tL_sI, tR_sI, tN_sI, tZ_sI, tC_sI, tc_sI, tz_sI, tI_sL, tL_sL, tR_sL, tN_sL, tZ_sL, tC_sL, tc_sL, tz_sL, tI_sR, tL_sR, tR_sR, tN_sR, tZ_sR, tC_sR, tc_sR, tz_sR, tI_sZ, tL_sZ, tR_sZ, tN_sZ, tZ_sZ, tC_sZ, tc_sZ, tz_sZ, tI_sC, tL_sC, tR_sC, tN_sC, tZ_sC, tC_sC, tc_sC, tz_sC, tI_aC, tL_aC, tR_aC, tN_aC, tZ_aC, tC_aC, tc_aC, tz_aC, tI_rmL, tL_rmL, tR_rmL, tN_rmL, tZ_rmL, tC_rmL, tc_rmL, tz_rmL, tI_mk, tL_mk, tR_mk, tN_mk, tZ_mk, tC_mk, tc_mk, tz_mk, tI_pushL, tL_pushL, tR_pushL, tN_pushL, tZ_pushL, tC_pushL, tc_pushL, tz_pushL, tI_pushB, tL_pushB, tR_pushB, tN_pushB, tZ_pushB, tC_pushB, tc_pushB, tz_pushB, tI_cpL, tL_cpL, tR_cpL, tN_cpL, tZ_cpL, tC_cpL, tc_cpL, tz_cpL, eq_self, true_and, and_true, false_and, and_false, if_true, if_false, reduceIte, ite_true, ite_false, not_true_eq_false, not_false_eq_true, h94, g1, g2, g3, g4, g5, g6, g7, g8, n1, n2, n3, n4, n5, n6, nmu_enc, el, m94]
  rfl
theorem arr_st {z : Hp} {m : TS} {o c f s K t k : Nat} (n : Int32) (hk : n.toNatClampNeg = k) (hA : okA 2 s K t = true) (h0 : ¬ n < 0) (hd : ∀ k, dfa K = vlK t k (fun _ => 0) (fun _ => 0) (fun _ => none)) (hF : okF 2 o c f 4 = true) (hne : o ≠ s) (ho : 0 < tN m o) (hs : tN m s = 0) {G : Hp → Res} :
    (nwa (enc 2 m z) s K n).bind (fun q => (pf q.2 (some (o, 0)) c f (aR q.1)).bind G) = G (enc 2 (sR (mk m s k 0 k) o 0 f (some (s, 0))) z) := by
  rw [nwz n hk hA h0 hd m z hs, Option.bind_some]
  dsimp only
  rw [pfR_enc hF (by rw [tN_mk, if_neg hne]; exact ho), Option.bind_some]
theorem x188 (A : TS) (z : Hp) (h95 : 0 < tN A 95) (g : tN A 65 = 0 ∧ tN A 66 = 0 ∧ tN A 67 = 0 ∧ tN A 68 = 0 ∧ tN A 69 = 0 ∧ tN A 70 = 0 ∧ tN A 71 = 0 ∧ tN A 72 = 0 ∧ tN A 73 = 0) : Ex 188 [aR (some (95, 0)), aR (some (93, 0)), aR (some (94, 0))] (enc 2 A z) = some (.inl none, enc 2 (kk188 A) z) := by
  obtain ⟨g1, g2, g3, g4, g5, g6, g7, g8, g9⟩ := g
  refine (X_in (by decide +kernel) (h95) rfl).trans ((lf_188_0 ..).trans ?_)
  rw [X420 (by decide +kernel) h95, cV_v, pfI_enc (by decide +kernel) h95, Option.bind_some, pfI_enc (by decide +kernel) (by exact h95), Option.bind_some, pfI_enc (by decide +kernel) (by exact h95), Option.bind_some]
  refine (arr_st (s := 65) (K := 1024) (t := 4) (k := 8) (8 : Int32) (by decide +kernel) (by decide +kernel) (by decide) (fun _ => rfl) (by decide +kernel) (by decide) (by simp (config := {decide := true}) only [tN_sR, tN_mk, tN_sI, eq_self, if_false, if_true, reduceIte, h95, g1, g2, g3, g4, g5, g6, g7, g8, g9]) (by simp (config := {decide := true}) only [tN_sR, tN_mk, tN_sI, eq_self, if_false, if_true, reduceIte, h95, g1, g2, g3, g4, g5, g6, g7, g8, g9])).trans ?_
  refine (arr_st (s := 66) (K := 1028) (t := 4) (k := 2000) (2000 : Int32) (by decide +kernel) (by decide +kernel) (by decide) (fun _ => rfl) (by decide +kernel) (by decide) (by simp (config := {decide := true}) only [tN_sR, tN_mk, tN_sI, eq_self, if_false, if_true, reduceIte, h95, g1, g2, g3, g4, g5, g6, g7, g8, g9]) (by simp (config := {decide := true}) only [tN_sR, tN_mk, tN_sI, eq_self, if_false, if_true, reduceIte, h95, g1, g2, g3, g4, g5, g6, g7, g8, g9])).trans ?_
  refine (arr_st (s := 67) (K := 1000) (t := 0) (k := 2000) (2000 : Int32) (by decide +kernel) (by decide +kernel) (by decide) (fun _ => rfl) (by decide +kernel) (by decide) (by simp (config := {decide := true}) only [tN_sR, tN_mk, tN_sI, eq_self, if_false, if_true, reduceIte, h95, g1, g2, g3, g4, g5, g6, g7, g8, g9]) (by simp (config := {decide := true}) only [tN_sR, tN_mk, tN_sI, eq_self, if_false, if_true, reduceIte, h95, g1, g2, g3, g4, g5, g6, g7, g8, g9])).trans ?_
  refine (arr_st (s := 68) (K := 1000) (t := 0) (k := 4) (4 : Int32) (by decide +kernel) (by decide +kernel) (by decide) (fun _ => rfl) (by decide +kernel) (by decide) (by simp (config := {decide := true}) only [tN_sR, tN_mk, tN_sI, eq_self, if_false, if_true, reduceIte, h95, g1, g2, g3, g4, g5, g6, g7, g8, g9]) (by simp (config := {decide := true}) only [tN_sR, tN_mk, tN_sI, eq_self, if_false, if_true, reduceIte, h95, g1, g2, g3, g4, g5, g6, g7, g8, g9])).trans ?_
  refine (arr_st (s := 69) (K := 1000) (t := 0) (k := 4) (4 : Int32) (by decide +kernel) (by decide +kernel) (by decide) (fun _ => rfl) (by decide +kernel) (by decide) (by simp (config := {decide := true}) only [tN_sR, tN_mk, tN_sI, eq_self, if_false, if_true, reduceIte, h95, g1, g2, g3, g4, g5, g6, g7, g8, g9]) (by simp (config := {decide := true}) only [tN_sR, tN_mk, tN_sI, eq_self, if_false, if_true, reduceIte, h95, g1, g2, g3, g4, g5, g6, g7, g8, g9])).trans ?_
  refine (arr_st (s := 70) (K := 1002) (t := 0) (k := 200) (200 : Int32) (by decide +kernel) (by decide +kernel) (by decide) (fun _ => rfl) (by decide +kernel) (by decide) (by simp (config := {decide := true}) only [tN_sR, tN_mk, tN_sI, eq_self, if_false, if_true, reduceIte, h95, g1, g2, g3, g4, g5, g6, g7, g8, g9]) (by simp (config := {decide := true}) only [tN_sR, tN_mk, tN_sI, eq_self, if_false, if_true, reduceIte, h95, g1, g2, g3, g4, g5, g6, g7, g8, g9])).trans ?_
  refine (arr_st (s := 71) (K := 1028) (t := 4) (k := 200) (200 : Int32) (by decide +kernel) (by decide +kernel) (by decide) (fun _ => rfl) (by decide +kernel) (by decide) (by simp (config := {decide := true}) only [tN_sR, tN_mk, tN_sI, eq_self, if_false, if_true, reduceIte, h95, g1, g2, g3, g4, g5, g6, g7, g8, g9]) (by simp (config := {decide := true}) only [tN_sR, tN_mk, tN_sI, eq_self, if_false, if_true, reduceIte, h95, g1, g2, g3, g4, g5, g6, g7, g8, g9])).trans ?_
  refine (arr_st (s := 72) (K := 1000) (t := 0) (k := 200) (200 : Int32) (by decide +kernel) (by decide +kernel) (by decide) (fun _ => rfl) (by decide +kernel) (by decide) (by simp (config := {decide := true}) only [tN_sR, tN_mk, tN_sI, eq_self, if_false, if_true, reduceIte, h95, g1, g2, g3, g4, g5, g6, g7, g8, g9]) (by simp (config := {decide := true}) only [tN_sR, tN_mk, tN_sI, eq_self, if_false, if_true, reduceIte, h95, g1, g2, g3, g4, g5, g6, g7, g8, g9])).trans ?_
  refine (arr_st (s := 73) (K := 1000) (t := 0) (k := 8) (8 : Int32) (by decide +kernel) (by decide +kernel) (by decide) (fun _ => rfl) (by decide +kernel) (by decide) (by simp (config := {decide := true}) only [tN_sR, tN_mk, tN_sI, eq_self, if_false, if_true, reduceIte, h95, g1, g2, g3, g4, g5, g6, g7, g8, g9]) (by simp (config := {decide := true}) only [tN_sR, tN_mk, tN_sI, eq_self, if_false, if_true, reduceIte, h95, g1, g2, g3, g4, g5, g6, g7, g8, g9])).trans ?_
  rw [pfR_enc (by decide +kernel) (by simp (config := {decide := true}) only [tN_sR, tN_mk, tN_sI, eq_self, if_false, if_true, reduceIte, h95, g1, g2, g3, g4, g5, g6, g7, g8, g9]), Option.bind_some, pfR_enc (by decide +kernel) (by simp (config := {decide := true}) only [tN_sR, tN_mk, tN_sI, eq_self, if_false, if_true, reduceIte, h95, g1, g2, g3, g4, g5, g6, g7, g8, g9]), Option.bind_some]
  rfl
theorem stR {z : Hp} {m : TS} {j c k : Nat} {x : Int32} (hz : Zk z) (hc : c = 10 + j) (hj : j < 17) (hk : x.toNatClampNeg = k) (h0 : ¬ x < 0) (hm : 0 < tN m 82 ∧ k < tZ m 82 0) {G : Hp → Res} : (paR (enc 2 m z) (some (82, 0)) x (some (0, c))).bind G = G (enc 2 (sR m 82 0 k (some (0, c))) z) := by
  subst hk
  subst hc
  rw [paS_enc (by decide +kernel) (by decide +kernel) hm.1 h0 hm.2 (show ow 0 ≠ 2 by decide +kernel) (hz.1 j hj), Option.bind_some]
theorem stI {z : Hp} {m : TS} {k : Nat} {x v : Int32} (hk : x.toNatClampNeg = k) (h0 : ¬ x < 0) (hm : 0 < tN m 83 ∧ k < tZ m 83 0) {G : Hp → Res} : (pa (enc 2 m z) (some (83, 0)) 1000 x (aI v)).bind G = G (enc 2 (sI m 83 0 k v) z) := by
  subst hk
  rw [paI_enc (by decide) (by decide +kernel) hm.1 h0 hm.2, Option.bind_some]
/-- the second half of the texts' constructor -/
noncomputable def x215K (B : TS) (z : Hp) : Res :=
  cV (some (.inl none, enc 2 B z)) (fun h19 =>
    (nwa h19 83 1000 (16 : Int32)).bind (fun q20 =>
    (pa q20.2 q20.1 1000 (0 : Int32) (aI (1 : Int32))).bind (fun h21 =>
    (pa h21 q20.1 1000 (1 : Int32) (aI (2 : Int32))).bind (fun h22 =>
    (pa h22 q20.1 1000 (2 : Int32) (aI (4 : Int32))).bind (fun h23 =>
    (pa h23 q20.1 1000 (3 : Int32) (aI (3 : Int32))).bind (fun h24 =>
    (pa h24 q20.1 1000 (4 : Int32) (aI (1 : Int32))).bind (fun h25 =>
    (pa h25 q20.1 1000 (5 : Int32) (aI (3 : Int32))).bind (fun h26 =>
    (pa h26 q20.1 1000 (6 : Int32) (aI (1 : Int32))).bind (fun h27 =>
    (pa h27 q20.1 1000 (7 : Int32) (aI (4 : Int32))).bind (fun h28 =>
    (pa h28 q20.1 1000 (8 : Int32) (aI (0 : Int32))).bind (fun h29 =>
    (pa h29 q20.1 1000 (9 : Int32) (aI (0 : Int32))).bind (fun h30 =>
    (pa h30 q20.1 1000 (10 : Int32) (aI (3 : Int32))).bind (fun h31 =>
    (pa h31 q20.1 1000 (11 : Int32) (aI (2 : Int32))).bind (fun h32 =>
    (pa h32 q20.1 1000 (12 : Int32) (aI (1 : Int32))).bind (fun h33 =>
    (pa h33 q20.1 1000 (13 : Int32) (aI (1 : Int32))).bind (fun h34 =>
    (pa h34 q20.1 1000 (14 : Int32) (aI (0 : Int32))).bind (fun h35 =>
    (pa h35 q20.1 1000 (15 : Int32) (aI (1 : Int32))).bind (fun h36 =>
    (pf h36 (some (92, 0)) 18 1 (aR q20.1)).bind (fun h37 =>
    (nwa h37 84 1000 (600 : Int32)).bind (fun q38 =>
    (pf q38.2 (some (92, 0)) 18 2 (aR q38.1)).bind (fun h39 =>
    (nwa h39 85 1000 (800 : Int32)).bind (fun q40 =>
    (pf q40.2 (some (92, 0)) 18 9 (aR q40.1)).bind (fun h41 =>
    some (.inl none, h41)))))))))))))))))))))))) xT
theorem x215b (B : TS) (z : Hp) (h92 : 0 < tN B 92) (g2 : tN B 83 = 0) (g3 : tN B 84 = 0) (g4 : tN B 85 = 0) : x215K B z = some (.inl none, enc 2 (kk215b B) z) := by
  unfold x215K
  rw [cV_v, nwz (s := 83) (K := 1000) (t := 0) (16 : Int32) (k := 16) (by decide +kernel) (by decide +kernel) (by decide) (fun _ => rfl) B z g2, Option.bind_some]
  dsimp only
  have m83 : ∀ k, k < 16 → 0 < tN (mk B 83 16 0 16) 83 ∧ k < tZ (mk B 83 16 0 16) 83 0 := fun k hk => by
    rw [tN_mk, if_pos rfl, tZ_mk, g2, if_pos ⟨rfl, rfl⟩]
    exact ⟨Nat.zero_lt_one, hk⟩
  have h92a : 0 < tN (mk B 83 16 0 16) 92 := by rw [tN_mk, if_neg (by decide)]; exact h92
  have g3a : tN (mk B 83 16 0 16) 84 = 0 := by rw [tN_mk, if_neg (by decide)]; exact g3
  have g4a : tN (mk B 83 16 0 16) 85 = 0 := by rw [tN_mk, if_neg (by decide)]; exact g4
  refine (stI (k := 0) (by decide +kernel) (by decide) (by exact m83 0 (by decide))).trans ?_
  refine (stI (k := 1) (by decide +kernel) (by decide) (by exact m83 1 (by decide))).trans ?_
  refine (stI (k := 2) (by decide +kernel) (by decide) (by exact m83 2 (by decide))).trans ?_
  refine (stI (k := 3) (by decide +kernel) (by decide) (by exact m83 3 (by decide))).trans ?_
  refine (stI (k := 4) (by decide +kernel) (by decide) (by exact m83 4 (by decide))).trans ?_
  refine (stI (k := 5) (by decide +kernel) (by decide) (by exact m83 5 (by decide))).trans ?_
  refine (stI (k := 6) (by decide +kernel) (by decide) (by exact m83 6 (by decide))).trans ?_
  refine (stI (k := 7) (by decide +kernel) (by decide) (by exact m83 7 (by decide))).trans ?_
  refine (stI (k := 8) (by decide +kernel) (by decide) (by exact m83 8 (by decide))).trans ?_
  refine (stI (k := 9) (by decide +kernel) (by decide) (by exact m83 9 (by decide))).trans ?_
  refine (stI (k := 10) (by decide +kernel) (by decide) (by exact m83 10 (by decide))).trans ?_
  refine (stI (k := 11) (by decide +kernel) (by decide) (by exact m83 11 (by decide))).trans ?_
  refine (stI (k := 12) (by decide +kernel) (by decide) (by exact m83 12 (by decide))).trans ?_
  refine (stI (k := 13) (by decide +kernel) (by decide) (by exact m83 13 (by decide))).trans ?_
  refine (stI (k := 14) (by decide +kernel) (by decide) (by exact m83 14 (by decide))).trans ?_
  refine (stI (k := 15) (by decide +kernel) (by decide) (by exact m83 15 (by decide))).trans ?_
  rw [pfR_enc (by decide +kernel) (by exact h92a), Option.bind_some]
  refine (arr_st (s := 84) (K := 1000) (t := 0) (k := 600) (600 : Int32) (by decide +kernel) (by decide +kernel) (by decide) (fun _ => rfl) (by decide +kernel) (by decide) (by exact h92a) (by exact g3a)).trans ?_
  refine (arr_st (s := 85) (K := 1000) (t := 0) (k := 800) (800 : Int32) (by decide +kernel) (by decide +kernel) (by decide) (fun _ => rfl) (by decide +kernel) (by decide) (by rw [tN_sR, tN_mk, if_neg (by decide)]; exact h92a) (by rw [tN_sR, tN_mk, if_neg (by decide)]; exact g4a)).trans ?_
  rfl
theorem x215 (A : TS) (z : Hp) (hz : Zk z) (h92 : 0 < tN A 92) (g : tN A 82 = 0 ∧ tN A 83 = 0 ∧ tN A 84 = 0 ∧ tN A 85 = 0) : Ex 215 [aR (some (92, 0))] (enc 2 A z) = some (.inl none, enc 2 (kk215b (kk215a A)) z) := by
  obtain ⟨g1, g2, g3, g4⟩ := g
  refine (X_in (by decide +kernel) (h92) rfl).trans ((lf_215_0 ..).trans ?_)
  rw [X420 (by decide +kernel) h92, cV_v, nwz (s := 82) (K := 1034) (t := 4) (16 : Int32) (k := 16) (by decide +kernel) (by decide +kernel) (by decide) (fun _ => rfl) A z g1, Option.bind_some]
  dsimp only
  have m82 : ∀ k, k < 16 → 0 < tN (mk A 82 16 0 16) 82 ∧ k < tZ (mk A 82 16 0 16) 82 0 := fun k hk => by
    rw [tN_mk, if_pos rfl, tZ_mk, g1, if_pos ⟨rfl, rfl⟩]
    exact ⟨Nat.zero_lt_one, hk⟩
  refine (stR (j := 1) (k := 0) hz rfl (by decide) (by decide +kernel) (by decide) (by exact m82 0 (by decide))).trans ?_
  refine (stR (j := 2) (k := 1) hz rfl (by decide) (by decide +kernel) (by decide) (by exact m82 1 (by decide))).trans ?_
  refine (stR (j := 3) (k := 2) hz rfl (by decide) (by decide +kernel) (by decide) (by exact m82 2 (by decide))).trans ?_
  refine (stR (j := 4) (k := 3) hz rfl (by decide) (by decide +kernel) (by decide) (by exact m82 3 (by decide))).trans ?_
  refine (stR (j := 5) (k := 4) hz rfl (by decide) (by decide +kernel) (by decide) (by exact m82 4 (by decide))).trans ?_
  refine (stR (j := 6) (k := 5) hz rfl (by decide) (by decide +kernel) (by decide) (by exact m82 5 (by decide))).trans ?_
  refine (stR (j := 7) (k := 6) hz rfl (by decide) (by decide +kernel) (by decide) (by exact m82 6 (by decide))).trans ?_
  refine (stR (j := 8) (k := 7) hz rfl (by decide) (by decide +kernel) (by decide) (by exact m82 7 (by decide))).trans ?_
  refine (stR (j := 9) (k := 8) hz rfl (by decide) (by decide +kernel) (by decide) (by exact m82 8 (by decide))).trans ?_
  refine (stR (j := 10) (k := 9) hz rfl (by decide) (by decide +kernel) (by decide) (by exact m82 9 (by decide))).trans ?_
  refine (stR (j := 11) (k := 10) hz rfl (by decide) (by decide +kernel) (by decide) (by exact m82 10 (by decide))).trans ?_
  refine (stR (j := 12) (k := 11) hz rfl (by decide) (by decide +kernel) (by decide) (by exact m82 11 (by decide))).trans ?_
  refine (stR (j := 13) (k := 12) hz rfl (by decide) (by decide +kernel) (by decide) (by exact m82 12 (by decide))).trans ?_
  refine (stR (j := 14) (k := 13) hz rfl (by decide) (by decide +kernel) (by decide) (by exact m82 13 (by decide))).trans ?_
  refine (stR (j := 15) (k := 14) hz rfl (by decide) (by decide +kernel) (by decide) (by exact m82 14 (by decide))).trans ?_
  refine (stR (j := 16) (k := 15) hz rfl (by decide) (by decide +kernel) (by decide) (by exact m82 15 (by decide))).trans ?_
  have h92a : 0 < tN (mk A 82 16 0 16) 92 := by rw [tN_mk, if_neg (by decide)]; exact h92
  have g2a : tN (mk A 82 16 0 16) 83 = 0 := by rw [tN_mk, if_neg (by decide)]; exact g2
  have g3a : tN (mk A 82 16 0 16) 84 = 0 := by rw [tN_mk, if_neg (by decide)]; exact g3
  have g4a : tN (mk A 82 16 0 16) 85 = 0 := by rw [tN_mk, if_neg (by decide)]; exact g4
  rw [pfR_enc (by decide +kernel) (by exact h92a), Option.bind_some]
  change _ = some (Sum.inl none, enc 2 (kk215b (kk215a A)) z)
  have q92 : 0 < tN (kk215a A) 92 := h92a
  have q83 : tN (kk215a A) 83 = 0 := g2a
  have q84 : tN (kk215a A) 84 = 0 := g3a
  have q85 : tN (kk215a A) 85 = 0 := g4a
  have fold : ∀ B, B = kk215a A → 0 < tN B 92 → tN B 83 = 0 → tN B 84 = 0 → tN B 85 = 0 → x215K B z = some (Sum.inl none, enc 2 (kk215b B) z) := fun B _ k1 k2 k3 k4 => x215b B z k1 k2 k3 k4
  exact fold (kk215a A) rfl q92 q83 q84 q85
