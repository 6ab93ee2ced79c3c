/-! ===== a payment is registered: all that is known of it ===== -/
def PyF (a b X Y : TS) (p cd sh c : Nat) (m T tch st : Int32) : Prop :=
  R0 X Y ∧ chF [29, 38] [(37, 6), (37, 7), (37, 8), (36, 10)] a X ∧ chF [86, 87, 90] [(93, 8)] b Y ∧ Wr a X ∧ Wr b Y ∧ tZ X 29 0 = p + 1 ∧ (∀ j, j < 10 * p → tI Y 87 0 j = tI b 87 0 j) ∧
  (tI Y 87 0 (10 * p) = 1 ∧ tI Y 87 0 (10 * p + 1) = Int32.ofNat cd ∧ tI Y 87 0 (10 * p + 2) = Int32.ofNat sh ∧ tI Y 87 0 (10 * p + 3) = m ∧ tI Y 87 0 (10 * p + 4) = Int32.ofNat c ∧ tI Y 87 0 (10 * p + 5) = st ∧ tI Y 87 0 (10 * p + 6) = T ∧ tI Y 87 0 (10 * p + 9) = tch) ∧
  (∀ s, tN X s = if s = 38 then p + 1 else tN a s) ∧ st = pst Y p 2 ∧ c < 201 ∧
  (tR X 38 p 1 = some (37, cd) ∧ tR X 38 p 2 = some (36, sh) ∧ tI X 38 p 0 = Int32.ofNat p ∧ tI X 38 p 3 = m ∧ tI X 38 p 4 = Int32.ofNat c ∧ tI X 38 p 5 = st) ∧ (PcA a → PcA X)
theorem py_all {a b : TS} {cd sh : Nat} {m tch : Int32} (pin : Int32) (hR : R0 a b) (hAs : As a b) (h200 : tZ a 29 0 < 200) (hcd : cd < tZ a 28 0) (hsh : sh < tZ a 27 0) (hm : 0 < m ∧ m ≤ 100000) (htch : bitOk tch = true) (h5 : pin = -1 → tI b 86 0 (10 * cd + 2) ≠ 5) :
    ∃ c, tI b 86 0 (10 * cd) + 1 = Int32.ofNat c ∧ PyF a b (pyX (cuA a cd pin) (tZ a 29 0) cd sh m (tI b 95 0 1) tch (stp (keyL (Int32.ofNat cd)) (Int32.ofNat c) m (Int32.ofNat sh) 2)) (pyY (cuB b cd pin) (tZ a 29 0) cd sh m (tI b 95 0 1) tch (stp (keyL (Int32.ofNat cd)) (Int32.ofNat c) m (Int32.ofNat sh) 2)) (tZ a 29 0) cd sh c m (tI b 95 0 1) tch (stp (keyL (Int32.ofNat cd)) (Int32.ofNat c) m (Int32.ofNat sh) 2) := by
  have hRx := cu_R pin hR hcd h5
  obtain ⟨ha, wa, hb, wb⟩ := cu_eq a b cd pin
  have hD := hR.2.2.2.2.2.2.2.2.1
  obtain ⟨-, -, -, -, -, -, -, -, n, n1, n2⟩ := hD.1 cd hcd
  have b0 : tI (cuB b cd pin) 86 0 (10 * cd) = Int32.ofNat (n + 1) := by rw [cuB_I, if_pos rfl, n2, o_s]
  have i87 := dIS hb (S := [87]) (P := []) (s := 87) (by decide) (by simp) 0
  have z29 : tZ (cuA a cd pin) 29 0 = tZ a 29 0 := dZ ha (S := [29]) (P := []) (s := 29) (by decide) (by simp) 0
  have z28 : tZ (cuA a cd pin) 28 0 = tZ a 28 0 := dZ ha (S := [28]) (P := []) (s := 28) (by decide) (by simp) 0
  have z27 : tZ (cuA a cd pin) 27 0 = tZ a 27 0 := dZ ha (S := [27]) (P := []) (s := 27) (by decide) (by simp) 0
  have nN : ∀ s, tN (cuA a cd pin) s = tN a s := fun s => by unfold cuA; split <;> rfl
  have n38 : tN a 38 = tZ a 29 0 := (r_P' hR).2.2.1
  refine ⟨n + 1, by rw [n2, o_s], ?_⟩
  have h1 := pay_R (A := cuA a cd pin) (B := cuB b cd pin) (cd := cd) (sh := sh) (c := n + 1) (m := m) (T := tI b 95 0 1) (tch := tch) hRx (by omega) (by omega) (by omega) hm (fun p' hp' => by rw [i87]; exact (hAs.2 p' (by omega)).2) htch (by omega) b0
  have hzC : tZ (cuA a cd pin) 29 0 ≤ tC (cuA a cd pin) 29 0 := by
    rw [z29, dC ha (S := [29]) (P := []) (s := 29) (by decide) (by simp)]
    exact (r_P' hR).2.1.1
  obtain ⟨hX, wX, hY, wY⟩ := py_eq (A := cuA a cd pin) (B := cuB b cd pin) (tZ a 29 0) cd sh m (tI b 95 0 1) tch (stp (keyL (Int32.ofNat cd)) (Int32.ofNat (n + 1)) m (Int32.ofNat sh) 2) hzC (by rw [nN]; exact fcN_29 (r_FC hR))
  rw [z29] at h1
  have aI := fun {f} hf => pyX_I (cuA a cd pin) (tZ a 29 0) cd sh m (tI b 95 0 1) tch (stp (keyL (Int32.ofNat cd)) (Int32.ofNat (n + 1)) m (Int32.ofNat sh) 2) (tZ a 29 0) (f := f) hf
  have aR := pyX_R (cuA a cd pin) (tZ a 29 0) cd sh m (tI b 95 0 1) tch (stp (keyL (Int32.ofNat cd)) (Int32.ofNat (n + 1)) m (Int32.ofNat sh) 2) (tZ a 29 0)
  have aRi := fun i => pyX_R (cuA a cd pin) (tZ a 29 0) cd sh m (tI b 95 0 1) tch (stp (keyL (Int32.ofNat cd)) (Int32.ofNat (n + 1)) m (Int32.ofNat sh) 2) i 2
  have aN := pyX_N (cuA a cd pin) (tZ a 29 0) cd sh m (tI b 95 0 1) tch (stp (keyL (Int32.ofNat cd)) (Int32.ofNat (n + 1)) m (Int32.ofNat sh) 2)
  have a36 := fun s => pyX_36 (cuA a cd pin) (tZ a 29 0) cd sh m (tI b 95 0 1) tch (stp (keyL (Int32.ofNat cd)) (Int32.ofNat (n + 1)) m (Int32.ofNat sh) 2) s 10
  have u36 : ∀ s, tI (cuA a cd pin) 36 s 10 = tI a 36 s 10 := fun s => dIS ha (S := [36]) (P := []) (s := 36) (by decide) (by simp) s 10
  have u38 : ∀ p f, tR (cuA a cd pin) 38 p f = tR a 38 p f := fun p f => dR ha (S := [38]) (P := []) (s := 38) (by decide) (by simp) p f
  have az := (pyX_29 (cuA a cd pin) (tZ a 29 0) cd sh m (tI b 95 0 1) tch (stp (keyL (Int32.ofNat cd)) (Int32.ofNat (n + 1)) m (Int32.ofNat sh) 2)).1
  have bI := pyY_I (cuB b cd pin) (tZ a 29 0) cd sh m (tI b 95 0 1) tch (stp (keyL (Int32.ofNat cd)) (Int32.ofNat (n + 1)) m (Int32.ofNat sh) 2)
  have hcA : tI (cuA a cd pin) 37 cd 6 = Int32.ofNat (n + 1) := by rw [(hRx.2.2.2.2.2.2.2.2.1.1 cd (by omega)).2.1, b0]
  rw [z29] at az
  generalize hs0 : stp (keyL (Int32.ofNat cd)) (Int32.ofNat (n + 1)) m (Int32.ofNat sh) 2 = st at *
  generalize pyX (cuA a cd pin) (tZ a 29 0) cd sh m (tI b 95 0 1) tch st = X at *
  generalize pyY (cuB b cd pin) (tZ a 29 0) cd sh m (tI b 95 0 1) tch st = Y at *
  rw [nN, n38] at aI aR aRi
  have nR : ∀ f, tR X 38 (tZ a 29 0) f = if f = 2 then some (36, sh) else if f = 1 then some (37, cd) else none := fun f => by rw [aR, if_pos rfl]
  have nI : ∀ f (hf : f < 12), tI X 38 (tZ a 29 0) f = if f = 5 then st else if f = 7 then 1 else if f = 11 then tch else if f = 6 then tI b 95 0 1 else if f = 4 then tI (cuA a cd pin) 37 cd 6 else if f = 3 then m else if f = 0 then Int32.ofNat (tZ a 29 0) else 0 := fun f hf => by rw [aI hf, if_pos rfl]
  rw [b0] at bI
  have m5 : tI Y 87 0 (10 * tZ a 29 0 + 5) = st := by rw [bI, if_pos rfl]
  have m0 : tI Y 87 0 (10 * tZ a 29 0) = 1 := by rw [bI, if_neg (by omega), if_pos rfl]
  have m9 : tI Y 87 0 (10 * tZ a 29 0 + 9) = tch := by rw [bI, if_neg (by omega), if_neg (by omega), if_pos rfl]
  have m6 : tI Y 87 0 (10 * tZ a 29 0 + 6) = tI b 95 0 1 := by rw [bI, if_neg (by omega), if_neg (by omega), if_neg (by omega), if_pos rfl]
  have m4 : tI Y 87 0 (10 * tZ a 29 0 + 4) = Int32.ofNat (n + 1) := by rw [bI, if_neg (by omega), if_neg (by omega), if_neg (by omega), if_neg (by omega), if_pos rfl]
  have m3 : tI Y 87 0 (10 * tZ a 29 0 + 3) = m := by rw [bI, if_neg (by omega), if_neg (by omega), if_neg (by omega), if_neg (by omega), if_neg (by omega), if_pos rfl]
  have m2 : tI Y 87 0 (10 * tZ a 29 0 + 2) = Int32.ofNat sh := by rw [bI, if_neg (by omega), if_neg (by omega), if_neg (by omega), if_neg (by omega), if_neg (by omega), if_neg (by omega), if_pos rfl]
  have m1 : tI Y 87 0 (10 * tZ a 29 0 + 1) = Int32.ofNat cd := by rw [bI, if_neg (by omega), if_neg (by omega), if_neg (by omega), if_neg (by omega), if_neg (by omega), if_neg (by omega), if_neg (by omega), if_pos rfl]
  refine ⟨h1, chF_t (chF_m ha (by simp) (by simp)) (chF_m hX (by simp) (by simp)), chF_t (chF_m hb (by simp) (by simp)) (chF_m hY (by simp) (by simp)), wa.t wX, wb.t wY, az, fun j hj => ?_, ⟨m0, m1, m2, m3, m4, m5, m6, m9⟩, fun s => ?_, ?_, by omega, ⟨nR 1, nR 2, nI 0 (by omega), nI 3 (by omega), (nI 4 (by omega)).trans hcA, nI 5 (by omega)⟩, fun hPc s hs => ?_⟩
  · rw [bI, if_neg (by omega), if_neg (by omega), if_neg (by omega), if_neg (by omega), if_neg (by omega), if_neg (by omega), if_neg (by omega), if_neg (by omega)]
    exact i87 j
  · rw [aN, nN, nN, n38]
  · unfold pst
    rw [m1, m4, m3, m2]
    exact hs0.symm
  · have z27X : tZ X 27 0 = tZ a 27 0 := (dZ hX (S := [27]) (P := []) (s := 27) (by decide) (by simp) 0).trans z27
    rw [z27X] at hs
    have h1 := hPc s hs
    have e0 : (List.range (tZ a 29 0)).countP (fun p => decide (tR X 38 p 2 = some (36, s))) = (List.range (tZ a 29 0)).countP (fun p => decide (tR a 38 p 2 = some (36, s))) := by
      refine List.countP_congr (fun p hp => ?_)
      have := List.mem_range.mp hp
      rw [aRi, if_neg (by omega), u38]
    rw [az, List.range_succ, List.countP_append, e0, a36, u36, u36]
    by_cases e : s = sh
    · subst e
      rw [if_pos ⟨rfl, rfl⟩, h1, o_s]
      congr 1
      simp [nR 2]
    · rw [if_neg (fun q => e q.1), h1]
      congr 1
      simp [nR 2, show ¬ sh = s from fun q => e q.symm]
