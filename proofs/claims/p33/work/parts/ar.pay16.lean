/-! ===== a payment: done ===== -/
theorem tch_bit (pin : Int32) : bitOk (if pin = -1 then (1 : Int32) else 0) = true := by
  by_cases e : pin = -1
  · rw [if_pos e]; rfl
  · rw [if_neg e]; rfl
/-- a payment: what it changes -/
def PayP (a b a' b' : TS) (cd sh : Nat) (m pin : Int32) : Prop := ∃ c, tI b 86 0 (10 * cd) + 1 = Int32.ofNat c ∧ c < 201 ∧ tZ a' 29 0 = tZ a 29 0 + 1 ∧ (∀ j, j < 10 * tZ a 29 0 → tI b' 87 0 j = tI b 87 0 j) ∧
  (tI b' 87 0 (10 * tZ a 29 0 + 1) = Int32.ofNat cd ∧ tI b' 87 0 (10 * tZ a 29 0 + 2) = Int32.ofNat sh ∧ tI b' 87 0 (10 * tZ a 29 0 + 3) = m ∧ tI b' 87 0 (10 * tZ a 29 0 + 4) = Int32.ofNat c ∧ tI b' 87 0 (10 * tZ a 29 0 + 6) = tI b 95 0 1) ∧
  (tI b' 86 0 (10 * cd) = Int32.ofNat c ∧ tI b' 86 0 (10 * cd + 1) = (if pin = -1 then tI b 86 0 (10 * cd + 1) else 3) ∧ tI b' 86 0 (10 * cd + 2) = (if pin = -1 then tI b 86 0 (10 * cd + 2) + 1 else 0)) ∧
  (∀ j, ¬ (10 * cd ≤ j ∧ j ≤ 10 * cd + 4) → tI b' 86 0 j = tI b 86 0 j) ∧
  ((tI b' 87 0 (10 * tZ a 29 0) = 0 ∧ ¬ tI b 88 0 sh < m ∧ ∀ c, c < 2 * tZ a 27 0 → vQ b' c = vQ b c) ∨ (tI b' 87 0 (10 * tZ a 29 0) = 1 ∧ ∃ g, PtE a b a' b' sh g ∧ g 0 = 0 ∧ g 1 = Int32.ofNat (tZ a 29 0) ∧ g 13 = 0)) ∧
  chF [8, 9, 10, 11, 18, 21, 22, 29, 38] [(37, 6), (37, 7), (37, 8), (37, 9), (37, 10), (36, 10)] a a' ∧ chF [48, 49, 50, 51, 52, 74, 75, 77, 86, 87, 90] [(93, 8)] b b' ∧ (tI b' 87 0 (10 * tZ a 29 0) = 0 → chF [86, 87, 90] [(93, 8)] b b')
set_option maxHeartbeats 4000000 in
theorem pay_done {a b : TS} {C cd sh : Nat} {m pin : Int32} (h : Core a b C) (h200 : tZ a 29 0 < 200) (hcd : cd < tZ a 28 0) (hsh : sh < tZ a 27 0) (hm : 0 < m ∧ m ≤ 100000) (h5 : pin = -1 → tI b 86 0 (10 * cd + 2) ≠ 5)
    (f3 : ∀ z, Ex 3 [aR (some (37, cd)), aI m, aI pin] (enc 1 a z) = some (.inl (some (aI 0)), enc 1 a z)) :
    ∃ a' b', (∀ z, Ex 96 [aR (some (96, 0)), aI (Int32.ofNat cd), aI (Int32.ofNat sh), aI m, aI pin] (enc 1 a z) = some (.inl (some (aI (Int32.ofNat (tZ a 29 0)))), enc 1 a' z)) ∧ Core a' b' C ∧ Wr a a' ∧ PayP a b a' b' cd sh m pin := by
  have hR := h.1.1
  have hAs := h.1.2.2.2.1
  have hFC := r_FC hR
  obtain ⟨C1, ⟨C2, -⟩, ⟨C3, -⟩, C6, C7⟩ := r_C hR
  obtain ⟨S1, -, ⟨S2, -, -, S18, -⟩, S4, S5⟩ := r_S hR
  obtain ⟨P1, ⟨P2, P2', -⟩, P3, P4, -⟩ := r_P' hR
  obtain ⟨c, c1, hPy⟩ := py_all (cd := cd) (sh := sh) (m := m) (tch := if pin = -1 then 1 else 0) pin hR hAs h200 hcd hsh hm (tch_bit pin) h5
  have hal := core_alone h h200 hcd hPy
  obtain ⟨a1, b1, hx37, hy193, hCs, wa1, ⟨u1, u2⟩, u3⟩ := core_asks h h200 hcd hsh hPy
  clear hy193
  -- the stores
  obtain ⟨cA, wA, cB, wB⟩ := cu_eq a b cd pin
  have nA : ∀ s, tN (cuA a cd pin) s = tN a s := fun s => by unfold cuA; split <;> rfl
  have hFA : FxC (cuA a cd pin) := FxC_s hFC wA cA (by decide)
  have hN : tN (cuA a cd pin) 38 = tZ a 29 0 := (nA 38).trans P3
  have eX : ∀ T tch st, pyX (cuA a cd pin) (tZ a 29 0) cd sh m T tch st = sI (sI (pyA (cuA a cd pin) (tZ a 29 0) cd sh m T tch) 38 (tZ a 29 0) 7 1) 38 (tZ a 29 0) 5 st := fun T tch st => by
    unfold pyX
    rw [hN]
  have eY : ∀ T tch st, pyY (cuB b cd pin) (tZ a 29 0) cd sh m T tch st = sI (sI (pyB (cuB b cd pin) (tZ a 29 0) cd sh m T tch) 87 0 (10 * tZ a 29 0 + 0) 1) 87 0 (10 * tZ a 29 0 + 5) st := fun T tch st => rfl
  have nS0 : ∀ T tch s, s ≠ 38 → tN (pyA (cuA a cd pin) (tZ a 29 0) cd sh m T tch) s = tN a s := fun T tch s hs => by
    unfold pyA pyI
    rw [tN_sI, tN_pushL]
    simp only [tN_sI, tN_sR, tN_mk, if_neg hs]
    exact nA s
  rw [eX] at hx37 hal
  rw [eY] at hal u3
  rw [eX, eY] at hPy
  rw [paA_ov, paB_ov, pst_ov] at hal
  have go96 := fun R hR' => x96_go (a := a) (A := cuA a cd pin) (p := tZ a 29 0) (cd := cd) (sh := sh) (m := m) (pin := pin) (tch := if pin = -1 then 1 else 0) (q := mAsk (tI a 36 sh 1) (tI a 36 sh 2) (tI a 36 sh 10) m) (R := R) hFC hFA hsh (S5 sh hsh).1 (by omega) hcd (C7 cd hcd).1 (by omega) (by omega) (by omega) f3 h200 (fun z => x4 pin (by omega)) (dZ cA (S := [29]) (P := []) (s := 29) (by decide) (by simp) 0) hN (by rw [nA]; omega) (by rw [nA]; omega) rfl
    (by rw [dZ cA (S := [29]) (P := []) (s := 29) (by decide) (by simp), dC cA (S := [29]) (P := []) (s := 29) (by decide) (by simp)]; exact P2) (by rw [dC cA (S := [29]) (P := []) (s := 29) (by decide) (by simp)]; omega) h200 (by rw [dIS cA (S := [36]) (P := []) (s := 36) (by decide) (by simp), dIS cA (S := [36]) (P := []) (s := 36) (by decide) (by simp), dIS cA (S := [36]) (P := []) (s := 36) (by decide) (by simp)]) hR'
  have eT : tI (cuA a cd pin) 25 0 0 = tI b 95 0 1 := by
    rw [dIS cA (S := [25]) (P := []) (s := 25) (by decide) (by simp)]
    exact tick_of hR
  rw [eT] at go96
  have hq0 : mAsk (tI a 36 sh 1) (tI a 36 sh 2) (tI a 36 sh 10) m = 0 → ¬ tI b 88 0 sh < m := fun e q => by
    rw [← (S5 sh hsh).2.2.1] at q
    unfold mAsk at e
    rw [if_pos q] at e
    exact absurd e (by decide)
  generalize mAsk (tI a 36 sh 1) (tI a 36 sh 2) (tI a 36 sh 10) m = q at go96 hq0
  generalize hT : tI b 95 0 1 = T at *
  generalize htch : (if pin = -1 then (1 : Int32) else 0) = tch at *
  generalize hst : stp (keyL (Int32.ofNat cd)) (Int32.ofNat c) m (Int32.ofNat sh) 2 = st at *
  have nS := nS0 T tch
  clear nS0
  generalize pyA (cuA a cd pin) (tZ a 29 0) cd sh m T tch = S at *
  have hB86 : ∀ j, tI (pyB (cuB b cd pin) (tZ a 29 0) cd sh m T tch) 86 0 j = tI (cuB b cd pin) 86 0 j := fun j => by
    unfold pyB
    simp (config := {decide := true}) only [tI_sI (cuB b cd pin), tI_sI (sI _ _ _ _ _), false_and, if_false]
  generalize pyB (cuB b cd pin) (tZ a 29 0) cd sh m T tch = SB at *
  obtain ⟨hRX, cX, cY, wX, wY, zX, o87, ⟨v0, v1, v2, v3, v4, v5, v6, v9⟩, nX, est, hc, ⟨w1, w2, w3, w4, w5, w6⟩, -⟩ := hPy
  rw [pst_ov] at est
  have hCX := r_C hRX
  have hDX := r_D hRX
  have hSX := r_S hRX
  have z28 : tZ (sI (sI S 38 (tZ a 29 0) 7 1) 38 (tZ a 29 0) 5 st) 28 0 = tZ a 28 0 := dZ cX (S := [28]) (P := []) (s := 28) (by decide) (by simp) 0
  have z27 : tZ (sI (sI S 38 (tZ a 29 0) 7 1) 38 (tZ a 29 0) 5 st) 27 0 = tZ a 27 0 := dZ cX (S := [27]) (P := []) (s := 27) (by decide) (by simp) 0
  have z18 : tZ (sI (sI S 38 (tZ a 29 0) 7 1) 38 (tZ a 29 0) 5 st) 18 sh = tZ a 18 sh := dZ cX (S := [18]) (P := []) (s := 18) (by decide) (by simp) sh
  have k18 : tC (sI (sI S 38 (tZ a 29 0) 7 1) 38 (tZ a 29 0) 5 st) 18 sh = tC a 18 sh := dC cX (S := [18]) (P := []) (s := 18) (by decide) (by simp) sh
  obtain ⟨-, -, -, -, CX⟩ := hCX
  obtain ⟨-, x2, -, -, x5, x6, -⟩ := CX cd (by rw [z28]; exact hcd)
  obtain ⟨y4, -, -, -, y9, y10, -⟩ := hDX.1 cd (by rw [z28]; exact hcd)
  obtain ⟨-, -, -, -, SX⟩ := hSX
  obtain ⟨-, s0, -, -, -, s4, -, s6, -⟩ := SX sh (by rw [z27]; exact hsh)
  have xS : ∀ s i f, ¬ (s = 38 ∧ (f = 7 ∨ f = 5)) → tI (sI (sI S 38 (tZ a 29 0) 7 1) 38 (tZ a 29 0) 5 st) s i f = tI S s i f := fun s i f hn => by rw [tI_sI, if_neg (fun q => hn ⟨q.1, Or.inr q.2.2⟩), tI_sI, if_neg (fun q => hn ⟨q.1, Or.inl q.2.2⟩)]
  have yS : ∀ s j, ¬ (s = 87 ∧ (j = 10 * tZ a 29 0 ∨ j = 10 * tZ a 29 0 + 5)) → tI (sI (sI SB 87 0 (10 * tZ a 29 0 + 0) 1) 87 0 (10 * tZ a 29 0 + 5) st) s 0 j = tI SB s 0 j := fun s j hn => by rw [tI_sI, if_neg (fun q => hn ⟨q.1, Or.inr q.2.2⟩), tI_sI, if_neg (fun q => hn ⟨q.1, Or.inl q.2.2⟩)]
  have h69 : ∀ z, Ex 69 [aR (some (36, sh)), aR (some (38, tZ a 29 0))] (enc 1 (sI (sI S 38 (tZ a 29 0) 7 1) 38 (tZ a 29 0) 5 st) z) = some (.inl none, enc 1 a1 z) := by
    have l18 : tZ a 18 sh < 30000 := by
      have := As_len (hAs.1 sh hsh)
      have := askL_len b (tZ a 29 0) sh
      omega
    have q18 : tZ a 18 sh ≤ tC a 18 sh ∧ tC a 18 sh < 50000 := by
      obtain ⟨⟨q1, q2, -⟩, -⟩ := hAs.1 sh hsh
      omega
    clear hal xS yS go96
    generalize sI (sI S 38 (tZ a 29 0) 7 1) 38 (tZ a 29 0) 5 st = X at *
    have n36 : sh < tN X 36 := by rw [nX, if_neg (by decide)]; omega
    have n18 : sh < tN X 18 := by rw [nX, if_neg (by decide)]; omega
    have n38 : tZ a 29 0 < tN X 38 := by rw [nX, if_pos rfl]; omega
    have n37 : cd < tN X 37 := by rw [nX, if_neg (by decide)]; omega
    have n11 : tN X 11 = tN a 11 := by rw [nX, if_neg (by decide)]
    refine x69 n36 s6 s4 n18 (by rw [z18]; exact l18) (by rw [z18, k18]; exact q18.1) (by rw [k18]; exact q18.2) n38 w1 n37 ?_
    rw [w3, x2, w5, w4, w6, n11]
    exact hx37
  rw [tR_sI, tR_sI] at w1 w2
  rw [xS 37 cd 3 (fun q => absurd q.1 (by decide))] at x5
  rw [xS 37 cd 5 (fun q => absurd q.1 (by decide)), yS 86 _ (fun q => absurd q.1 (by decide))] at x6
  rw [xS 37 cd 4 (fun q => absurd q.1 (by decide)), yS 86 _ (fun q => absurd q.1 (by decide))] at y4
  rw [xS 37 cd 9 (fun q => absurd q.1 (by decide)), yS 86 _ (fun q => absurd q.1 (by decide))] at y9
  rw [xS 37 cd 10 (fun q => absurd q.1 (by decide)), yS 86 _ (fun q => absurd q.1 (by decide))] at y10
  rw [xS 36 sh 0 (fun q => absurd q.1 (by decide))] at s0
  rw [xS 38 _ 0 (fun q => by omega)] at w3
  rw [xS 38 _ 3 (fun q => by omega)] at w4
  rw [xS 38 _ 4 (fun q => by omega)] at w5
  rw [yS 87 _ (fun q => by omega)] at v1 v2 v3 v4
  have nS38 : tZ a 29 0 < tN S 38 := by
    have := nX 38
    rw [tN_sI, tN_sI, if_pos rfl] at this
    omega
  have ep1 : stp (keyL (Int32.ofNat cd)) (Int32.ofNat c) m (Int32.ofNat sh) 1 = pst SB (tZ a 29 0) 1 := by
    unfold pst
    rw [v1, v4, v3, v2]
  have hta := fun z => pay_tailA (S := S) (a' := a1) (p := tZ a 29 0) (cd := cd) (sh := sh) (m := m) (q := q) (st := st) (st1 := pst SB (tZ a 29 0) 1) (G := q = 0 ∧ ¬ tI S 37 cd 4 ≤ tI S 37 cd 9 ∧ tI S 37 cd 10 + m ≤ tI S 37 cd 5) nS38 w1 (by rw [nS 37 (by decide)]; omega) w2 (by rw [nS 36 (by decide)]; omega) w3
    (by rw [x5, w5, w4, s0]; exact hst) (by rw [x5, w5, w4, s0]; exact ep1) h69 u1 u2 Iff.rfl z
  have hcu := cuB_I b cd pin
  have hYj : ∀ j, tI (sI (sI SB 87 0 (10 * tZ a 29 0 + 0) 1) 87 0 (10 * tZ a 29 0 + 5) st) 86 0 j = tI (cuB b cd pin) 86 0 j := fun j => by rw [yS 86 _ (fun q => absurd q.1 (by decide)), hB86]
  have hnew : ∀ (b' : TS), (∀ j, j ≠ 10 * tZ a 29 0 → j ≠ 10 * tZ a 29 0 + 5 → tI b' 87 0 j = tI (sI (sI SB 87 0 (10 * tZ a 29 0 + 0) 1) 87 0 (10 * tZ a 29 0 + 5) st) 87 0 j) → (∀ j, j < 10 * tZ a 29 0 → tI b' 87 0 j = tI b 87 0 j) ∧ (tI b' 87 0 (10 * tZ a 29 0 + 1) = Int32.ofNat cd ∧ tI b' 87 0 (10 * tZ a 29 0 + 2) = Int32.ofNat sh ∧ tI b' 87 0 (10 * tZ a 29 0 + 3) = m ∧ tI b' 87 0 (10 * tZ a 29 0 + 4) = Int32.ofNat c ∧ tI b' 87 0 (10 * tZ a 29 0 + 6) = T) := fun b' hb' => by
    refine ⟨fun j hj => by rw [hb' j (by omega) (by omega)]; exact o87 j hj, ?_, ?_, ?_, ?_, ?_⟩
    · rw [hb' _ (by omega) (by omega), yS 87 _ (fun q => by omega)]; exact v1
    · rw [hb' _ (by omega) (by omega), yS 87 _ (fun q => by omega)]; exact v2
    · rw [hb' _ (by omega) (by omega), yS 87 _ (fun q => by omega)]; exact v3
    · rw [hb' _ (by omega) (by omega), yS 87 _ (fun q => by omega)]; exact v4
    · rw [hb' _ (by omega) (by omega)]; exact v6
  have hcd86 : ∀ (b' : TS), (∀ j, j ≠ 10 * cd + 3 → j ≠ 10 * cd + 4 → tI b' 86 0 j = tI (sI (sI SB 87 0 (10 * tZ a 29 0 + 0) 1) 87 0 (10 * tZ a 29 0 + 5) st) 86 0 j) → (tI b' 86 0 (10 * cd) = Int32.ofNat c ∧ tI b' 86 0 (10 * cd + 1) = (if pin = -1 then tI b 86 0 (10 * cd + 1) else 3) ∧ tI b' 86 0 (10 * cd + 2) = (if pin = -1 then tI b 86 0 (10 * cd + 2) + 1 else 0)) ∧ (∀ j, ¬ (10 * cd ≤ j ∧ j ≤ 10 * cd + 4) → tI b' 86 0 j = tI b 86 0 j) := fun b' hb' => by
    refine ⟨⟨?_, ?_, ?_⟩, fun j hj => ?_⟩
    · rw [hb' _ (by omega) (by omega), hYj, hcu, if_pos rfl, c1]
    · rw [hb' _ (by omega) (by omega), hYj, hcu, if_neg (by omega), if_neg (by omega), if_pos rfl]
    · rw [hb' _ (by omega) (by omega), hYj, hcu, if_neg (by omega), if_pos rfl]
    · rw [hb' _ (by omega) (by omega), hYj, hcu, if_neg (by omega), if_neg (by omega), if_neg (by omega)]
  obtain ⟨k1, k2, k3, k4, k5, k6, k7, k8, k9⟩ := hal
  obtain ⟨⟨g, hpt, g0, g1, g13⟩, l2, l3, l4, l5, l6⟩ := u3
  by_cases hg : q = 0 ∧ ¬ tI S 37 cd 4 ≤ tI S 37 cd 9 ∧ tI S 37 cd 10 + m ≤ tI S 37 cd 5
  · simp only [if_pos hg] at hta
    obtain ⟨n1, n2⟩ := hnew _ k6
    obtain ⟨n3, n4⟩ := hcd86 _ k7
    exact ⟨_, _, fun z => go96 _ hta z, k1, k2, c, c1, hc, k4, n1, ⟨n2.1, n2.2.1, n2.2.2.1, n2.2.2.2.1, n2.2.2.2.2.trans hT.symm⟩, n3, n4, Or.inl ⟨k5, hq0 hg.1, k3⟩, chF_m k8 (by simp) (by simp), chF_m k9 (by simp) (by simp), fun _ => k9⟩
  · simp only [if_neg hg] at hta
    obtain ⟨n1, n2⟩ := hnew _ (fun j _ _ => l3 j)
    obtain ⟨n3, n4⟩ := hcd86 _ (fun j _ _ => l4 j)
    have s1 : tI b1 87 0 (10 * tZ a 29 0) = 1 := by rw [l3]; exact v0
    exact ⟨a1, b1, fun z => go96 _ hta z, hCs, wa1, c, c1, hc, l2, n1, ⟨n2.1, n2.2.1, n2.2.2.1, n2.2.2.2.1, n2.2.2.2.2.trans hT.symm⟩, n3, n4, Or.inr ⟨s1, g, hpt, g0, g1, g13⟩, chF_m l5 (by simp) (by simp), l6, fun e => by rw [s1] at e; exact absurd e (by decide)⟩
