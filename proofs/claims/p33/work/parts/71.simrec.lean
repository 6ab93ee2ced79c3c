/-! ===== a RECORD is heard: the class and the reference ===== -/
theorem heldBy {a b : TS} {n j j' : Nat} (hR : R0 a b) (hn : n < 1000) (h1 : tR a 3 0 n = some (4, j)) (h2 : tR b 53 0 n = some (61, j')) (hj : j < tN a 4) (hj' : j' < tN b 61) :
    ∃ t, (∀ z, Ex 31 [aR (some (4, j))] (enc 1 a z) = some (.inl none, enc 1 (freA a j t) z)) ∧ (∀ z, Ex 166 [aR (some (94, 0)), aR (some (61, j'))] (enc 2 b z) = some (.inl none, enc 2 (freB b j' t) z)) ∧
      R0 (freA a j t) (freB b j' t) ∧ chF [4] [(35, 1)] a (freA a j t) ∧ chF [44, 61] [] b (freB b j' t) ∧ Wr a (freA a j t) ∧ Wr b (freB b j' t) ∧
      (∀ n' f, n' < 1000 → hI (freB b j' t) n' f = if n' = n ∧ f = 12 then 0 else hI b n' f) ∧ (∀ n' u f, (u = 62 ∨ u = 63 ∨ u = 64) → hA (freB b j' t) n' u f = hA b n' u f) ∧
      (∀ u, u < 8 → tL (freB b j' t) 44 0 u = if hI b n 12 ≠ 0 ∧ hI b n 13 = Int32.ofNat u then tL b 44 0 u - (hI b n 12).toInt64 else tL b 44 0 u) := by
  have hK := r_K hR
  have hB := r_B hR
  obtain ⟨⟨q1, q2, q3, q4⟩, -⟩ := hK.2.2 n hn
  obtain ⟨t, ht⟩ : ∃ t, (hI b n 12 ≠ 0 → t < tZ a 26 0 ∧ tR a 4 j 4 = some (35, t) ∧ hI b n 13 = Int32.ofNat t) := by
    by_cases e : hI b n 12 = 0
    · exact ⟨0, fun z => absurd e z⟩
    · obtain ⟨t, t1, t2, t3⟩ := q4 e
      exact ⟨t, fun _ => ⟨t1, by rw [← kR_at h1]; exact t2, t3⟩⟩
  have hx : tR a 4 j 4 = none ∨ tR a 4 j 4 = some (35, t) ∧ t < tN a 35 := by
    by_cases e : hI b n 12 = 0
    · exact Or.inl (by rw [← kR_at h1]; exact q3 e)
    · obtain ⟨t1, t2, t3⟩ := ht e
      exact Or.inr ⟨t2, by rw [hB.2.2.1]; exact t1⟩
  have hy : 0 < tI b 61 j' 12 → tI b 61 j' 13 = Int32.ofNat t ∧ t < 8 := fun q => by
    have q := (z_lt q).1
    rw [← hI_at h2] at q
    obtain ⟨t1, t2, t3⟩ := ht q
    rw [← hI_at h2]
    exact ⟨t3, by have := hB.1; omega⟩
  obtain ⟨f1, f2, f3, f4, f5, f6⟩ := free_R hK hB hn h1 h2 (fun z => ⟨(ht z).1, (ht z).2.1⟩)
  refine ⟨t, fun z => x31 hj hx, fun z => y166 (r_FR hR) hj' hy, ?_, f3, f4, f5, f6, freB_x hK.2.1 hn h2 q2 (fun z => by
    obtain ⟨t1, t2, t3⟩ := ht z
    exact ⟨t3, by have := hB.1; omega⟩)⟩
  exact R0_kn hR f1 f2 f3 (chF_m f4 (by simp) (by simp)) f5 f6 (fun n' hn' => freB_v hK.2.1 hn h2 hn' (by decide)) (fun n' hn' => freB_v hK.2.1 hn h2 hn' (by decide)) (fun n' hn' => freA_v hK.1 hn h1 hn' (by decide))
/-- the reference's views stay -/
def NoCh (b b' : TS) : Prop := (∀ n f, n < 1000 → hI b' n f = hI b n f) ∧ (∀ n t f, n < 1000 → (t = 62 ∨ t = 63 ∨ t = 64) → hA b' n t f = hA b n t f) ∧
  (∀ u, u < 8 → tL b' 43 0 u = tL b 43 0 u) ∧ (∀ u, u < 8 → tL b' 44 0 u = tL b 44 0 u) ∧ (∀ u, tL b' 46 0 u = tL b 46 0 u) ∧ tI b' 94 0 12 = tI b 94 0 12 ∧ tI b' 94 0 13 = tI b 94 0 13
/-- a RECORD is turned down -/
def RejV (b b' : TS) (n : Nat) : Prop := (∀ n' f, n' < 1000 → hI b' n' f = if n' = n ∧ f = 10 then 1 else hI b n' f) ∧ (∀ n t f, n < 1000 → (t = 62 ∨ t = 63 ∨ t = 64) → hA b' n t f = hA b n t f) ∧
  (∀ u, u < 8 → tL b' 43 0 u = tL b 43 0 u) ∧ (∀ u, u < 8 → tL b' 44 0 u = tL b 44 0 u) ∧ (∀ u, tL b' 46 0 u = tL b 46 0 u) ∧ tI b' 94 0 12 = tI b 94 0 12 ∧ tI b' 94 0 13 = if hI b n 10 = 0 then tI b 94 0 13 + 1 else tI b 94 0 13
/-- a RECORD is posted -/
def PosV (b b' : TS) (n cd c sh t : Nat) (m : Int32) : Prop := t < 8 ∧ tI b 86 0 (10 * cd + 9) = Int32.ofNat t ∧
  (∀ n' f, n' < 1000 → hI b' n' f = if n' = n ∧ f = 15 then tI b 94 0 11 else if n' = n ∧ f = 16 then m else if n' = n ∧ f = 14 then Int32.ofNat sh else if n' = n ∧ f = 8 then 1 else if n' = n ∧ f = 12 then 0 else hI b n' f) ∧
  (∀ n' f, n' < 1000 → hA b' n' 64 f = if n' = n ∧ f = 2 then m else if n' = n ∧ f = 1 then Int32.ofNat c else if n' = n ∧ f = 0 then Int32.ofNat cd else hA b n' 64 f) ∧
  (∀ n' u f, n' < 1000 → (u = 62 ∨ u = 63) → hA b' n' u f = hA b n' u f) ∧
  (∀ u, u < 8 → tL b' 43 0 u = if u = t then tL b 43 0 u - m.toInt64 else tL b 43 0 u) ∧
  (∀ u, u < 8 → tL b' 44 0 u = if hI b n 12 ≠ 0 ∧ hI b n 13 = Int32.ofNat u then tL b 44 0 u - (hI b n 12).toInt64 else tL b 44 0 u) ∧
  (∀ u, tL b' 46 0 u = if u = sh then tL b 46 0 u + m.toInt64 else tL b 46 0 u) ∧ tI b' 94 0 12 = tI b 94 0 12 + 1 ∧ tI b' 94 0 13 = tI b 94 0 13
/-- whether a RECORD of a number not yet posted is right -/
def RecOk (b : TS) (n cd c sh : Nat) (m st by' : Int32) : Prop := srcP b (Int32.ofNat cd) (Int32.ofNat c) 0 1000 = 0 ∧ (if by' = 0 then st = stp (keyL (Int32.ofNat cd)) (Int32.ofNat c) m (Int32.ofNat sh) 1 else grd b n by' (Int32.ofNat cd) (Int32.ofNat c) m)
/-- what a RECORD changes -/
def RecP (b b' : TS) (n cd c sh : Nat) (m st by' : Int32) : Prop := (hI b n 8 ≠ 0 ∧ NoCh b b') ∨ (hI b n 8 = 0 ∧ ¬ RecOk b n cd c sh m st by' ∧ RejV b b' n) ∨ (hI b n 8 = 0 ∧ RecOk b n cd c sh m st by' ∧ ∃ t, PosV b b' n cd c sh t m)
theorem rejB_v {b : TS} {n j' : Nat} (hK : KsB b) (hn : n < 1000) (h2 : tR b 53 0 n = some (61, j')) (h01 : bitOk (hI b n 10) = true) : RejV b (rejB b j') n := by
  have e10 : tI b 61 j' 10 = hI b n 10 := (hI_at h2).symm
  unfold rejB
  by_cases c : hI b n 10 = 0
  · rw [if_pos (e10.trans c)]
    refine ⟨fun n' f hn' => ?_, fun n' t f _ ht => ?_, fun _ _ => rfl, fun _ _ => rfl, fun _ => rfl, ?_, ?_⟩
    · rw [hI_o (by decide), hI_sI hK hn h2 _ _ hn']
    · rw [hA_o _ (by omega), hA_o _ (by omega)]
    · simp (config := {decide := true}) only [gfI_enc, gfL_enc, gfR_enc, pfI_enc, pfL_enc, pfR_enc, Option.bind_some, cI_v, cL_v, cF_v, cD_v, cR_v, cV_v, cI_x, cL_x, cR_x, cV_x, gz_0, gz_1, acc_enc, tI_sI, tL_sI, tR_sI, tN_sI, tZ_sI, tC_sI, tc_sI, tz_sI, tI_sL, tL_sL, tR_sL, tN_sL, tZ_sL, tC_sL, tc_sL, tz_sL, tI_sR, tL_sR, tR_sR, tN_sR, tZ_sR, tC_sR, tc_sR, tz_sR, tI_sZ, tL_sZ, tR_sZ, tN_sZ, tZ_sZ, tC_sZ, tc_sZ, tz_sZ, tI_sC, tL_sC, tR_sC, tN_sC, tZ_sC, tC_sC, tc_sC, tz_sC, tI_aC, tL_aC, tR_aC, tN_aC, tZ_aC, tC_aC, tc_aC, tz_aC, tI_rmL, tL_rmL, tR_rmL, tN_rmL, tZ_rmL, tC_rmL, tc_rmL, tz_rmL, tI_mk, tL_mk, tR_mk, tN_mk, tZ_mk, tC_mk, tc_mk, tz_mk, tI_pushL, tL_pushL, tR_pushL, tN_pushL, tZ_pushL, tC_pushL, tc_pushL, tz_pushL, tI_pushB, tL_pushB, tR_pushB, tN_pushB, tZ_pushB, tC_pushB, tc_pushB, tz_pushB, tI_cpL, tL_cpL, tR_cpL, tN_cpL, tZ_cpL, tC_cpL, tc_cpL, tz_cpL, eq_self, true_and, and_true, false_and, and_false, if_true, if_false, reduceIte, ite_true, ite_false, not_true_eq_false, not_false_eq_true]
    · rw [if_pos c]
      simp (config := {decide := true}) only [gfI_enc, gfL_enc, gfR_enc, pfI_enc, pfL_enc, pfR_enc, Option.bind_some, cI_v, cL_v, cF_v, cD_v, cR_v, cV_v, cI_x, cL_x, cR_x, cV_x, gz_0, gz_1, acc_enc, tI_sI, tL_sI, tR_sI, tN_sI, tZ_sI, tC_sI, tc_sI, tz_sI, tI_sL, tL_sL, tR_sL, tN_sL, tZ_sL, tC_sL, tc_sL, tz_sL, tI_sR, tL_sR, tR_sR, tN_sR, tZ_sR, tC_sR, tc_sR, tz_sR, tI_sZ, tL_sZ, tR_sZ, tN_sZ, tZ_sZ, tC_sZ, tc_sZ, tz_sZ, tI_sC, tL_sC, tR_sC, tN_sC, tZ_sC, tC_sC, tc_sC, tz_sC, tI_aC, tL_aC, tR_aC, tN_aC, tZ_aC, tC_aC, tc_aC, tz_aC, tI_rmL, tL_rmL, tR_rmL, tN_rmL, tZ_rmL, tC_rmL, tc_rmL, tz_rmL, tI_mk, tL_mk, tR_mk, tN_mk, tZ_mk, tC_mk, tc_mk, tz_mk, tI_pushL, tL_pushL, tR_pushL, tN_pushL, tZ_pushL, tC_pushL, tc_pushL, tz_pushL, tI_pushB, tL_pushB, tR_pushB, tN_pushB, tZ_pushB, tC_pushB, tc_pushB, tz_pushB, tI_cpL, tL_cpL, tR_cpL, tN_cpL, tZ_cpL, tC_cpL, tc_cpL, tz_cpL, eq_self, true_and, and_true, false_and, and_false, if_true, if_false, reduceIte, ite_true, ite_false, not_true_eq_false, not_false_eq_true]
  · rw [if_neg (fun q => c (e10.symm.trans q))]
    refine ⟨fun n' f hn' => ?_, fun _ _ _ _ _ => rfl, fun _ _ => rfl, fun _ _ => rfl, fun _ => rfl, rfl, by rw [if_neg c]⟩
    by_cases q : n' = n ∧ f = 10
    · rw [if_pos q, q.1, q.2]
      exact bit_1 h01 c
    · rw [if_neg q]
set_option maxHeartbeats 4000000 in
theorem sim_rec {a b : TS} {n cd c sh r p : Nat} {m st by' : Int32} (hR : R0 a b) (hn : n < 1000) (hr : r < tN a 10) (m0 : tI a 10 r 0 = 3) (m1 : tI a 10 r 1 = Int32.ofNat n) (m2 : tI a 10 r 2 = Int32.ofNat cd) (m3 : tI a 10 r 3 = Int32.ofNat sh) (m4 : tI a 10 r 4 = Int32.ofNat c) (m5 : tI a 10 r 5 = m) (m6 : tI a 10 r 6 = st) (m7 : tI a 10 r 7 = by') (hb14 : bitOk (tI a 10 r 14) = true)
    (hsh : sh < tZ a 27 0) (hcd : cd < tZ a 28 0) (hc : c < 201) (hp : p < tZ a 29 0) (p1 : tI b 87 0 (10 * p + 1) = Int32.ofNat cd) (p3 : tI b 87 0 (10 * p + 3) = m) (p4 : tI b 87 0 (10 * p + 4) = Int32.ofNat c)
    (hst : (st = pst b p 1 ∧ tI b 87 0 (10 * p) = 0) ∨ st = pst b p 2) (hby : by' = 0 ∨ by' = 1 ∨ by' = 2) (hng : by' ≠ 0 → tI b 87 0 (10 * p + 2) = Int32.ofNat sh ∧ (tI b 87 0 (10 * p) = 0 ∨ tI b 87 0 (10 * p) = 2) ∧ st = tI b 87 0 (10 * p + 5)) :
    ∃ a' b', (∀ z, Ex 18 [aR (some (30, 0)), aR (some (10, r)), aR (some (36, sh))] (enc 1 a z) = some (.inl none, enc 1 a' z)) ∧ (∀ z, Ex 171 [aR (some (94, 0)), aI (Int32.ofNat sh), aI (Int32.ofNat n), aI (Int32.ofNat cd), aI (Int32.ofNat c), aI m, aI st, aI (1 + by')] (enc 2 b z) = some (.inl none, enc 2 b' z)) ∧
      R0 a' b' ∧ chF [2, 3, 4, 7] [(30, 3), (30, 4), (35, 0), (35, 1), (36, 12)] a a' ∧ chF [43, 44, 46, 53, 61, 62, 63, 64] [(94, 12), (94, 13)] b b' ∧ Wr a a' ∧ Wr b b' ∧ RecP b b' n cd c sh m st by' := by
  obtain ⟨a1, b1, j, j', x, y, hR1, x1, xj, y1, y2, vI, vR, wI, wA, ca, cb, wa, wb⟩ := look hR hn
  have hfc := r_FC hR
  have hfr := r_FR hR
  have hfc1 := r_FC hR1
  have hfr1 := r_FR hR1
  have i10 : isM 10 := ⟨by decide +kernel, by decide +kernel⟩
  have t10 : ∀ i k, tI a1 10 i k = tI a 10 i k := dIS ca (S := [10]) (P := []) (by decide) (by simp)
  have hr1 : r < tN a1 10 := Nat.lt_of_lt_of_le hr (wa.N 10)
  have z28 : tZ a1 28 0 = tZ a 28 0 := dZ ca (S := [28]) (P := []) (by decide) (by simp) 0
  have z27 : tZ a1 27 0 = tZ a 27 0 := dZ ca (S := [27]) (P := []) (by decide) (by simp) 0
  have z29 : tZ a1 29 0 = tZ a 29 0 := dZ ca (S := [29]) (P := []) (by decide) (by simp) 0
  have w87 : ∀ k, tI b1 87 0 k = tI b 87 0 k := dIS cb (S := [87]) (P := []) (by decide) (by simp) 0
  have epst : ∀ u, pst b1 p u = pst b p u := fun u => by unfold pst; rw [w87, w87, w87, w87]
  have m0' : tI a1 10 r 0 = 3 := by rw [t10]; exact m0
  have m1' : tI a1 10 r 1 = Int32.ofNat n := by rw [t10]; exact m1
  have m2' : tI a1 10 r 2 = Int32.ofNat cd := by rw [t10]; exact m2
  have m3' : tI a1 10 r 3 = Int32.ofNat sh := by rw [t10]; exact m3
  have m4' : tI a1 10 r 4 = Int32.ofNat c := by rw [t10]; exact m4
  have m5' : tI a1 10 r 5 = m := by rw [t10]; exact m5
  have m6' : tI a1 10 r 6 = st := by rw [t10]; exact m6
  have m7' : tI a1 10 r 7 = by' := by rw [t10]; exact m7
  obtain ⟨C1, C2, ⟨C3, C4, C5⟩, C6, C7⟩ := r_C hR1
  obtain ⟨D1, D2, ⟨t, D3, D4, D5⟩, D6, D7, D8, D9, D10, D11, D12⟩ := C7 cd (by omega)
  obtain ⟨S1, S2, ⟨S3, S4, S5, S6, S7, S8⟩, S9, S10⟩ := r_S hR1
  have hB1 := r_B hR1
  obtain ⟨⟨-, -, -, -⟩, -, -, -, ⟨-, q9, q10⟩⟩ := (r_K hR1).2.2 n hn
  have hcd37 : cd < tN a1 37 := by omega
  have hcd2 : cd < tN a1 2 := by omega
  have g1 : ¬ Int32.ofNat c < 0 := o_lt0 (by omega)
  have g2 : (Int32.ofNat c).toNatClampNeg = c := o_ix (by omega)
  have f16 := fun z => x16 (z := z) (k := cd) hfc1 C1 (by omega) D1 hcd37
  have f10 := fun z => x10 (z := z) hcd37 D10 hcd2 D12 g1 (by rw [g2]; exact hc)
  rw [g2] at f10
  have kTB := (r_K hR1).2.1
  have f172 := fun z => y172 (z := z) (Int32.ofNat cd) (Int32.ofNat c) hfr1 kTB
  rw [srcP_RO (r_O hR1) C1 (by omega) hc] at f172
  have f159 := fun z => y159 (z := z) hfr1 C6 C1 (show cd < tZ a1 28 0 by omega)
  have go22 : ∀ z, Ex 18 [aR (some (30, 0)), aR (some (10, r)), aR (some (36, sh))] (enc 1 a z) = cV (Ex 22 [aR (some (30, 0)), aR (some (10, r)), aR (some (4, j)), aR (some (36, sh))] (enc 1 a1 z)) (fun h7 => some (.inl none, h7)) xT := fun z => by
    refine (X_in (by decide +kernel) (fcN_30 hfc) rfl).trans ((lf_18_0 ..).trans ?_)
    simp (config := {decide := true}) only [gfI_enc, gfL_enc, gfR_enc, pfI_enc, pfL_enc, pfR_enc, Option.bind_some, cI_v, cL_v, cF_v, cD_v, cR_v, cV_v, cI_x, cL_x, cR_x, cV_x, gz_0, gz_1, acc_enc, tI_sI, tL_sI, tR_sI, tN_sI, tZ_sI, tC_sI, tc_sI, tz_sI, tI_sL, tL_sL, tR_sL, tN_sL, tZ_sL, tC_sL, tc_sL, tz_sL, tI_sR, tL_sR, tR_sR, tN_sR, tZ_sR, tC_sR, tc_sR, tz_sR, tI_sZ, tL_sZ, tR_sZ, tN_sZ, tZ_sZ, tC_sZ, tc_sZ, tz_sZ, tI_sC, tL_sC, tR_sC, tN_sC, tZ_sC, tC_sC, tc_sC, tz_sC, tI_aC, tL_aC, tR_aC, tN_aC, tZ_aC, tC_aC, tc_aC, tz_aC, tI_rmL, tL_rmL, tR_rmL, tN_rmL, tZ_rmL, tC_rmL, tc_rmL, tz_rmL, tI_mk, tL_mk, tR_mk, tN_mk, tZ_mk, tC_mk, tc_mk, tz_mk, tI_pushL, tL_pushL, tR_pushL, tN_pushL, tZ_pushL, tC_pushL, tc_pushL, tz_pushL, tI_pushB, tL_pushB, tR_pushB, tN_pushB, tZ_pushB, tC_pushB, tc_pushB, tz_pushB, tI_cpL, tL_cpL, tR_cpL, tN_cpL, tZ_cpL, tC_cpL, tc_cpL, tz_cpL, eq_self, true_and, and_true, false_and, and_false, if_true, if_false, reduceIte, ite_true, ite_false, not_true_eq_false, not_false_eq_true, gm i10 hr, m1, x, gm i10 hr1, m0', reduceCtorEq]
  have goB : ∀ z, Ex 171 [aR (some (94, 0)), aI (Int32.ofNat sh), aI (Int32.ofNat n), aI (Int32.ofNat cd), aI (Int32.ofNat c), aI m, aI st, aI (1 + by')] (enc 2 b z) = if tI b1 61 j' 8 = 0 then (if tI a1 2 cd c = 0 then Ru 171 31 [(0, aR (some (94, 0))), (1, aI (Int32.ofNat sh)), (3, aI (Int32.ofNat cd)), (4, aI (Int32.ofNat c)), (5, aI m), (6, aI st), (7, aI (1 + by')), (8, aR (some (61, j')))] [aI 1] (enc 2 b1 z) else Ru 171 31 [(0, aR (some (94, 0))), (1, aI (Int32.ofNat sh)), (3, aI (Int32.ofNat cd)), (4, aI (Int32.ofNat c)), (5, aI m), (6, aI st), (7, aI (1 + by')), (8, aR (some (61, j')))] [aI 0] (enc 2 b1 z)) else some (.inl none, enc 2 b1 z) := fun z => by
    refine (X_in (by decide +kernel) (frN_94 hfr) rfl).trans ((lf_171_0 ..).trans ?_)
    by_cases e : tI a1 2 cd c = 0 <;> simp (config := {decide := true}) only [gfI_enc, gfL_enc, gfR_enc, pfI_enc, pfL_enc, pfR_enc, Option.bind_some, cI_v, cL_v, cF_v, cD_v, cR_v, cV_v, cI_x, cL_x, cR_x, cV_x, gz_0, gz_1, acc_enc, tI_sI, tL_sI, tR_sI, tN_sI, tZ_sI, tC_sI, tc_sI, tz_sI, tI_sL, tL_sL, tR_sL, tN_sL, tZ_sL, tC_sL, tc_sL, tz_sL, tI_sR, tL_sR, tR_sR, tN_sR, tZ_sR, tC_sR, tc_sR, tz_sR, tI_sZ, tL_sZ, tR_sZ, tN_sZ, tZ_sZ, tC_sZ, tc_sZ, tz_sZ, tI_sC, tL_sC, tR_sC, tN_sC, tZ_sC, tC_sC, tc_sC, tz_sC, tI_aC, tL_aC, tR_aC, tN_aC, tZ_aC, tC_aC, tc_aC, tz_aC, tI_rmL, tL_rmL, tR_rmL, tN_rmL, tZ_rmL, tC_rmL, tc_rmL, tz_rmL, tI_mk, tL_mk, tR_mk, tN_mk, tZ_mk, tC_mk, tc_mk, tz_mk, tI_pushL, tL_pushL, tR_pushL, tN_pushL, tZ_pushL, tC_pushL, tc_pushL, tz_pushL, tI_pushB, tL_pushB, tR_pushB, tN_pushB, tZ_pushB, tC_pushB, tc_pushB, tz_pushB, tI_cpL, tL_cpL, tR_cpL, tN_cpL, tZ_cpL, tC_cpL, tc_cpL, tz_cpL, eq_self, true_and, and_true, false_and, and_false, if_true, if_false, reduceIte, ite_true, ite_false, not_true_eq_false, not_false_eq_true, y, y2, f172, e]
  have f29 := fun z => x29 (z := z) xj
  have hn2 : tI a1 2 cd c = tI a 2 cd c := dIS ca (S := [2]) (P := []) (by decide) (by simp) cd c
  have hsrc : srcP b (Int32.ofNat cd) (Int32.ofNat c) 0 1000 = 0 ↔ tI a1 2 cd c = 0 := by
    rw [srcP_RO (r_O hR) (by omega) hcd hc, hn2]
    by_cases e : tI a 2 cd c = 0
    · rw [if_pos e]; exact ⟨fun _ => e, fun _ => rfl⟩
    · rw [if_neg e]; exact ⟨fun q => absurd q (by decide), fun q => absurd q e⟩
  have hgrd : ∀ u, grd b1 n u (Int32.ofNat cd) (Int32.ofNat c) m ↔ grd b n u (Int32.ofNat cd) (Int32.ofNat c) m := fun u => by
    unfold grd
    rw [wI n 9 hn, wI n 7 hn, wI n 0 hn, wA n 63 0 hn (by omega), wA n 63 1 hn (by omega), wA n 63 2 hn (by omega), wA n 62 0 hn (by omega), wA n 62 1 hn (by omega), wA n 62 2 hn (by omega)]
  have e43 : ∀ u, tL b1 43 0 u = tL b 43 0 u := dLS cb (S := [43]) (P := []) (by decide) (by simp) 0
  have e44 : ∀ u, tL b1 44 0 u = tL b 44 0 u := dLS cb (S := [44]) (P := []) (by decide) (by simp) 0
  have e46 : ∀ u, tL b1 46 0 u = tL b 46 0 u := dLS cb (S := [46]) (P := []) (by decide) (by simp) 0
  have e94 : ∀ k, tI b1 94 0 k = tI b 94 0 k := dIS cb (S := [94]) (P := []) (by decide) (by simp) 0
  have e86 : ∀ k, tI b1 86 0 k = tI b 86 0 k := dIS cb (S := [86]) (P := []) (by decide) (by simp) 0
  by_cases hpo : hI b1 n 8 = 0
  · have e8 : tR a1 4 j 8 = none := by rw [← kR_at x1]; exact q9 hpo
    have e8' : tI b1 61 j' 8 = 0 := by rw [← hI_at y1]; exact hpo
    have Rj := rej_R hR1 hn x1 y1
    obtain ⟨j1, j2, j3, j4, j5⟩ := Rj
    have hpo0 : hI b n 8 = 0 := (wI n 8 hn).symm.trans hpo
    have hrej : RejV b (rejB b1 j') n := by
      have h10 : bitOk (hI b1 n 10) = true := by
        have := ((r_K hR1).2.2 n hn).2.1.2.2.2.1
        exact this
      obtain ⟨v1, v2, v3, v4, v5, v6, v7⟩ := rejB_v (r_K hR1).2.1 hn y1 h10
      exact ⟨fun n' f hn' => by rw [v1 n' f hn', wI n' f hn'], fun n' t f hn' ht => by rw [v2 n' t f hn' ht, wA n' t f hn' ht], fun u hu => by rw [v3 u hu, e43], fun u hu => by rw [v4 u hu, e44], fun u => by rw [v5 u, e46], by rw [v6, e94], by rw [v7, wI n 10 hn, e94]⟩
    have fin_rej : ¬ RecOk b n cd c sh m st by' → (∀ z, Ex 22 [aR (some (30, 0)), aR (some (10, r)), aR (some (4, j)), aR (some (36, sh))] (enc 1 a1 z) = some (.inl none, enc 1 (rejA a1 j) z)) → (∀ z, Ex 171 [aR (some (94, 0)), aI (Int32.ofNat sh), aI (Int32.ofNat n), aI (Int32.ofNat cd), aI (Int32.ofNat c), aI m, aI st, aI (1 + by')] (enc 2 b z) = some (.inl none, enc 2 (rejB b1 j') z)) → ∃ a' b', (∀ z, Ex 18 [aR (some (30, 0)), aR (some (10, r)), aR (some (36, sh))] (enc 1 a z) = some (.inl none, enc 1 a' z)) ∧ (∀ z, Ex 171 [aR (some (94, 0)), aI (Int32.ofNat sh), aI (Int32.ofNat n), aI (Int32.ofNat cd), aI (Int32.ofNat c), aI m, aI st, aI (1 + by')] (enc 2 b z) = some (.inl none, enc 2 b' z)) ∧
      R0 a' b' ∧ chF [2, 3, 4, 7] [(30, 3), (30, 4), (35, 0), (35, 1), (36, 12)] a a' ∧ chF [43, 44, 46, 53, 61, 62, 63, 64] [(94, 12), (94, 13)] b b' ∧ Wr a a' ∧ Wr b b' ∧ RecP b b' n cd c sh m st by' := fun h0 h1 h2 =>
      ⟨_, _, fun z => by rw [go22, h1, cV_v], h2, j1, chF_t (chF_m ca (by simp) (by simp)) (chF_m j2 (by simp) (by simp)), chF_t (chF_m cb (by simp) (by simp)) (chF_m j3 (by simp) (by simp)), wa.t j4, wb.t j5, Or.inr (Or.inl ⟨hpo0, h0, hrej⟩)⟩
    have post : RecOk b n cd c sh m st by' → (p2 : tI b 87 0 (10 * p + 2) = Int32.ofNat sh) → (tI b 87 0 (10 * p) = 0 ∨ tI b 87 0 (10 * p) = 2) → st = tI b 87 0 (10 * p + 5) → tI a1 2 cd c = 0 →
        (∀ z, Ex 22 [aR (some (30, 0)), aR (some (10, r)), aR (some (4, j)), aR (some (36, sh))] (enc 1 a1 z) = Ru 22 93 [(0, aR (some (30, 0))), (1, aR (some (10, r))), (2, aR (some (4, j))), (3, aR (some (36, sh))), (4, aR (some (37, cd))), (5, aI 1)] [aI 1] (enc 1 a1 z)) →
        (∀ z, Ex 171 [aR (some (94, 0)), aI (Int32.ofNat sh), aI (Int32.ofNat n), aI (Int32.ofNat cd), aI (Int32.ofNat c), aI m, aI st, aI (1 + by')] (enc 2 b z) = cV (Ex 173 [aR (some (94, 0)), aR (some (61, j')), aI (Int32.ofNat sh), aI (Int32.ofNat cd), aI (Int32.ofNat c), aI m] (enc 2 b1 z)) (fun h5 => some (.inl none, h5)) xT) →
        ∃ a' b', (∀ z, Ex 18 [aR (some (30, 0)), aR (some (10, r)), aR (some (36, sh))] (enc 1 a z) = some (.inl none, enc 1 a' z)) ∧ (∀ z, Ex 171 [aR (some (94, 0)), aI (Int32.ofNat sh), aI (Int32.ofNat n), aI (Int32.ofNat cd), aI (Int32.ofNat c), aI m, aI st, aI (1 + by')] (enc 2 b z) = some (.inl none, enc 2 b' z)) ∧
      R0 a' b' ∧ chF [2, 3, 4, 7] [(30, 3), (30, 4), (35, 0), (35, 1), (36, 12)] a a' ∧ chF [43, 44, 46, 53, 61, 62, 63, 64] [(94, 12), (94, 13)] b b' ∧ Wr a a' ∧ Wr b b' ∧ RecP b b' n cd c sh m st by' := by
      intro hok p2 p0 p5 hnew hA hBB
      obtain ⟨t0, u1, u2, u3, u4, u5, u6, u7, u8, u9, u10⟩ := heldBy hR1 hn x1 y1 xj y2
      have hR2 := u3
      have hfc2 := r_FC u3
      have hfr2 := r_FR u3
      have s10 : ∀ i k, tI (freA a1 j t0) 10 i k = tI a1 10 i k := dIS u4 (S := [10]) (P := []) (by decide) (by simp)
      have s2 : ∀ i k, tI (freA a1 j t0) 2 i k = tI a1 2 i k := dIS u4 (S := [2]) (P := []) (by decide) (by simp)
      have sr37 : ∀ i k, tR (freA a1 j t0) 37 i k = tR a1 37 i k := dR u4 (S := [37]) (P := []) (by decide) (by simp)
      have sr3 : ∀ i k, tR (freA a1 j t0) 3 i k = tR a1 3 i k := dR u4 (S := [3]) (P := []) (by decide) (by simp)
      have sz28 : tZ (freA a1 j t0) 28 0 = tZ a1 28 0 := dZ u4 (S := [28]) (P := []) (by decide) (by simp) 0
      have sz26 : tZ (freA a1 j t0) 26 0 = tZ a1 26 0 := dZ u4 (S := [26]) (P := []) (by decide) (by simp) 0
      have sz27 : tZ (freA a1 j t0) 27 0 = tZ a1 27 0 := dZ u4 (S := [27]) (P := []) (by decide) (by simp) 0
      have sz29 : tZ (freA a1 j t0) 29 0 = tZ a1 29 0 := dZ u4 (S := [29]) (P := []) (by decide) (by simp) 0
      have sw86 : ∀ k, tI (freB b1 j' t0) 86 0 k = tI b1 86 0 k := dIS u5 (S := [86]) (P := []) (by decide) (by simp) 0
      have sw87 : ∀ k, tI (freB b1 j' t0) 87 0 k = tI b1 87 0 k := dIS u5 (S := [87]) (P := []) (by decide) (by simp) 0
      have sr53 : ∀ k, tR (freB b1 j' t0) 53 0 k = tR b1 53 0 k := dR u5 (S := [53]) (P := []) (by decide) (by simp) 0
      have hp8 : hI (freB b1 j' t0) n 8 = 0 := by rw [freB_v (r_K hR1).2.1 hn y1 hn (by decide)]; exact hpo
      have hj2 : j < tN (freA a1 j t0) 4 := Nat.lt_of_lt_of_le xj (u6.N 4)
      have hj2' : j' < tN (freB b1 j' t0) 61 := Nat.lt_of_lt_of_le y2 (u7.N 61)
      have hr2 : r < tN (freA a1 j t0) 10 := Nat.lt_of_lt_of_le hr1 (u6.N 10)
      have hB2 := r_B u3
      have tt8 : t < 8 := by have := hB1.1; omega
      have px := fun z => x22_post (a := a1) (A := freA a1 j t0) (z := z) (j := j) (cd := cd) (t := t) (sh := sh) (c := c) (n := n) (r := r) (m := m) u1 hfc2 hj2 hr2 (by rw [s10, t10]; exact hb14) (by rw [s10]; exact m1') (by rw [s10]; exact m4') hc (by rw [s10]; exact m5') (Nat.lt_of_lt_of_le hcd37 (u6.N 37)) (Nat.lt_of_lt_of_le hcd2 (u6.N 2)) (by rw [u6.Z (by decide +kernel) (by decide +kernel) hcd2]; exact D12) (by rw [sr37]; exact D10) (by rw [sr37]; exact D4) (by rw [hB2.2.2.1, sz26]; exact D3) (Nat.lt_of_lt_of_le (by omega) (u6.N 36))
      have py := fun z => y173 (b := b1) (B := freB b1 j' t0) (z := z) (j := j') (cd := cd) (t := t) (sh := sh) (c := c) (m := m) u2 hfr1 hfr2 hj2' (r_K u3).2.1 (by omega) (by rw [sw86]; exact D5) tt8 (by omega)
      have pR := post_R (A := freA a1 j t0) (B := freB b1 j' t0) (n := n) (j := j) (j' := j') (cd := cd) (t := t) (sh := sh) (c := c) (r := r) (p := p) (m := m) u3 hn (by rw [sr3]; exact x1) (by rw [sr53]; exact y1) hp8 (by omega) hc (by rw [s2]; exact hnew) (by rw [sz26]; exact D3) (by rw [sw86]; exact D5) (by omega) hr2 (by rw [s10]; exact m2') (by rw [s10]; exact m4') (by rw [s10]; exact m5') (by omega) (by rw [sw87, w87]; exact p1) (by rw [sw87, w87]; exact p2) (by rw [sw87, w87]; exact p3) (by rw [sw87, w87]; exact p4) (by rw [s10, m6', sw87, w87]; exact p5) (by rw [sw87, w87]; exact p0)
      have hpv : PosV b (posB (freB b1 j' t0) j' cd t sh c m (tI (freB b1 j' t0) 94 0 11)) n cd c sh t m := by
        have eday : tI (freB b1 j' t0) 94 0 11 = tI b 94 0 11 := (dIS u5 (S := [94]) (P := []) (by decide) (by simp) 0 11).trans (e94 11)
        rw [eday]
        obtain ⟨v1, v2, v3, v4, v5, v6, v7, v8⟩ := posB_v (B := freB b1 j' t0) (n := n) (j' := j') (cd := cd) (t := t) (sh := sh) (c := c) (m := m) (day := tI b 94 0 11) (r_K u3).2.1 hn (by rw [sr53]; exact y1)
        refine ⟨tt8, by rw [← e86]; exact D5, fun n' f hn' => ?_, fun n' f hn' => ?_, fun n' u f hn' hu => ?_, fun u hu => ?_, fun u hu => ?_, fun u => ?_, ?_, ?_⟩
        · rw [v1 n' f hn', u8 n' f hn', wI n' f hn']
        · rw [v2 n' f hn', u9 n' 64 f (by omega), wA n' 64 f hn' (by omega)]
        · rw [v3 n' u f hu, u9 n' u f (by omega), wA n' u f hn' (by omega)]
        · rw [v4 u, show tL (freB b1 j' t0) 43 0 u = tL b 43 0 u from (dLS u5 (S := [43]) (P := []) (by decide) (by simp) 0 u).trans (e43 u)]
        · rw [v5 u, u10 u hu, wI n 12 hn, wI n 13 hn, e44]
        · rw [v6 u, show tL (freB b1 j' t0) 46 0 u = tL b 46 0 u from (dLS u5 (S := [46]) (P := []) (by decide) (by simp) 0 u).trans (e46 u)]
        · rw [v7, show tI (freB b1 j' t0) 94 0 12 = tI b 94 0 12 from (dIS u5 (S := [94]) (P := []) (by decide) (by simp) 0 12).trans (e94 12)]
        · rw [v8, show tI (freB b1 j' t0) 94 0 13 = tI b 94 0 13 from (dIS u5 (S := [94]) (P := []) (by decide) (by simp) 0 13).trans (e94 13)]
      refine ⟨_, _, fun z => by rw [go22, hA, px, cV_v], fun z => by rw [hBB, py, cV_v], pR, ?_, ?_, (wa.t u6).t (posA_wr _ _ _ _ _ _ _ _ _ _), (wb.t u7).t (posB_wr _ _ _ _ _ _ _ _), Or.inr (Or.inr ⟨hpo0, hok, t, hpv⟩)⟩
      · exact chF_t (chF_m ca (by simp) (by simp)) (chF_t (chF_m u4 (by simp) (by simp)) (chF_m (posA_ch _ _ _ _ _ _ _ _ _ _) (by simp) (by simp)))
      · exact chF_t (chF_m cb (by simp) (by simp)) (chF_t (chF_m u5 (by simp) (by simp)) (chF_m (posB_ch _ _ _ _ _ _ _ _) (by simp) (by simp)))
    have go22' : ∀ z, Ex 22 [aR (some (30, 0)), aR (some (10, r)), aR (some (4, j)), aR (some (36, sh))] (enc 1 a1 z) = _ := fun z => (X_in (by decide +kernel) (fcN_30 hfc1) rfl).trans (lf_22_0 ..)
    have bne : ¬ (1 : Int32) + 1 = 1 := by decide
    have bne2 : ¬ (1 : Int32) + 2 = 1 := by decide
    have bne3 : ¬ (1 : Int32) + 2 = 2 := by decide
    have be1 : (1 : Int32) + 0 = 1 := by decide
    have be2 : (1 : Int32) + 1 = 2 := by decide
    by_cases hnew : tI a1 2 cd c = 0
    · have mz : (0 : Int32) - 1 = -1 := by decide
      rcases hby with hb0 | hb12
      · -- by the card
        subst hb0
        by_cases hs : st = stp (keyL (Int32.ofNat cd)) (Int32.ofNat c) m (Int32.ofNat sh) 1
        · -- due
          obtain ⟨p2, p0, p5⟩ : tI b 87 0 (10 * p + 2) = Int32.ofNat sh ∧ (tI b 87 0 (10 * p) = 0 ∨ tI b 87 0 (10 * p) = 2) ∧ st = tI b 87 0 (10 * p + 5) := by
            obtain ⟨P1, -, -, -, P5, -⟩ := r_P hR
            obtain ⟨-, -, -, ⟨sp, sp1, -, sp2⟩, -⟩ := P5 p hp
            have sp4 : sp < 4 := by have := (r_S hR).1; omega
            have eb : ∀ u, pst b p u = stp (keyL (Int32.ofNat cd)) (Int32.ofNat c) m (Int32.ofNat sp) u := fun u => by unfold pst; rw [p1, p3, p4, sp2]
            rcases hst with ⟨h1, h2⟩ | h1
            · rw [h1, eb] at hs
              obtain ⟨e1, -⟩ := stp_inj (t := 1) (t' := 1) sp4 (show sh < 4 by omega) (by decide) (by decide) hs
              refine ⟨by rw [sp2, e1], Or.inl h2, ?_⟩
              obtain ⟨Q1, -⟩ := r_Q hR
              obtain ⟨-, -, -, -, -, -, nn, nn1, nn2, -, -, nn3⟩ := Q1 p hp
              rw [h2] at nn2
              have : nn = 0 := o_inj (by omega) (by omega) nn2.symm
              subst this
              rw [nn3, if_pos rfl]
              exact h1
            · rw [h1, eb] at hs
              obtain ⟨-, e2⟩ := stp_inj (t := 2) (t' := 1) sp4 (show sh < 4 by omega) (by decide) (by decide) hs
              exact absurd e2 (by decide)
          refine post ⟨hsrc.mpr hnew, by rw [if_pos rfl]; exact hs⟩ p2 p0 p5 hnew (fun z => ?_) (fun z => ?_)
          · rw [go22']
            simp (config := {decide := true}) only [gfI_enc, gfL_enc, gfR_enc, pfI_enc, pfL_enc, pfR_enc, Option.bind_some, cI_v, cL_v, cF_v, cD_v, cR_v, cV_v, cI_x, cL_x, cR_x, cV_x, gz_0, gz_1, acc_enc, tI_sI, tL_sI, tR_sI, tN_sI, tZ_sI, tC_sI, tc_sI, tz_sI, tI_sL, tL_sL, tR_sL, tN_sL, tZ_sL, tC_sL, tc_sL, tz_sL, tI_sR, tL_sR, tR_sR, tN_sR, tZ_sR, tC_sR, tc_sR, tz_sR, tI_sZ, tL_sZ, tR_sZ, tN_sZ, tZ_sZ, tC_sZ, tc_sZ, tz_sZ, tI_sC, tL_sC, tR_sC, tN_sC, tZ_sC, tC_sC, tc_sC, tz_sC, tI_aC, tL_aC, tR_aC, tN_aC, tZ_aC, tC_aC, tc_aC, tz_aC, tI_rmL, tL_rmL, tR_rmL, tN_rmL, tZ_rmL, tC_rmL, tc_rmL, tz_rmL, tI_mk, tL_mk, tR_mk, tN_mk, tZ_mk, tC_mk, tc_mk, tz_mk, tI_pushL, tL_pushL, tR_pushL, tN_pushL, tZ_pushL, tC_pushL, tc_pushL, tz_pushL, tI_pushB, tL_pushB, tR_pushB, tN_pushB, tZ_pushB, tC_pushB, tc_pushB, tz_pushB, tI_cpL, tL_cpL, tR_cpL, tN_cpL, tZ_cpL, tC_cpL, tc_cpL, tz_cpL, eq_self, true_and, and_true, false_and, and_false, if_true, if_false, reduceIte, ite_true, ite_false, not_true_eq_false, not_false_eq_true, f29, e8, gm i10 hr1, m2', m3', m4', m5', m6', m7', f16, f10, hnew, mz, x2 _ _ _ _ hcd37, D7, ← hs, reduceCtorEq]
          · rw [goB, if_pos e8', if_pos hnew, lf_171_31]
            simp (config := {decide := true}) only [gfI_enc, gfL_enc, gfR_enc, pfI_enc, pfL_enc, pfR_enc, Option.bind_some, cI_v, cL_v, cF_v, cD_v, cR_v, cV_v, cI_x, cL_x, cR_x, cV_x, gz_0, gz_1, acc_enc, tI_sI, tL_sI, tR_sI, tN_sI, tZ_sI, tC_sI, tc_sI, tz_sI, tI_sL, tL_sL, tR_sL, tN_sL, tZ_sL, tC_sL, tc_sL, tz_sL, tI_sR, tL_sR, tR_sR, tN_sR, tZ_sR, tC_sR, tc_sR, tz_sR, tI_sZ, tL_sZ, tR_sZ, tN_sZ, tZ_sZ, tC_sZ, tc_sZ, tz_sZ, tI_sC, tL_sC, tR_sC, tN_sC, tZ_sC, tC_sC, tc_sC, tz_sC, tI_aC, tL_aC, tR_aC, tN_aC, tZ_aC, tC_aC, tc_aC, tz_aC, tI_rmL, tL_rmL, tR_rmL, tN_rmL, tZ_rmL, tC_rmL, tc_rmL, tz_rmL, tI_mk, tL_mk, tR_mk, tN_mk, tZ_mk, tC_mk, tc_mk, tz_mk, tI_pushL, tL_pushL, tR_pushL, tN_pushL, tZ_pushL, tC_pushL, tc_pushL, tz_pushL, tI_pushB, tL_pushB, tR_pushB, tN_pushB, tZ_pushB, tC_pushB, tc_pushB, tz_pushB, tI_cpL, tL_cpL, tR_cpL, tN_cpL, tZ_cpL, tC_cpL, tc_cpL, tz_cpL, eq_self, true_and, and_true, false_and, and_false, if_true, if_false, reduceIte, ite_true, ite_false, not_true_eq_false, not_false_eq_true, be1, f159, y160 _ _ _ _ _ _ hfr1, ← hs]
            rw [lf_171_73, lf_171_176]
            simp (config := {decide := true}) only [gfI_enc, gfL_enc, gfR_enc, pfI_enc, pfL_enc, pfR_enc, Option.bind_some, cI_v, cL_v, cF_v, cD_v, cR_v, cV_v, cI_x, cL_x, cR_x, cV_x, gz_0, gz_1, acc_enc, tI_sI, tL_sI, tR_sI, tN_sI, tZ_sI, tC_sI, tc_sI, tz_sI, tI_sL, tL_sL, tR_sL, tN_sL, tZ_sL, tC_sL, tc_sL, tz_sL, tI_sR, tL_sR, tR_sR, tN_sR, tZ_sR, tC_sR, tc_sR, tz_sR, tI_sZ, tL_sZ, tR_sZ, tN_sZ, tZ_sZ, tC_sZ, tc_sZ, tz_sZ, tI_sC, tL_sC, tR_sC, tN_sC, tZ_sC, tC_sC, tc_sC, tz_sC, tI_aC, tL_aC, tR_aC, tN_aC, tZ_aC, tC_aC, tc_aC, tz_aC, tI_rmL, tL_rmL, tR_rmL, tN_rmL, tZ_rmL, tC_rmL, tc_rmL, tz_rmL, tI_mk, tL_mk, tR_mk, tN_mk, tZ_mk, tC_mk, tc_mk, tz_mk, tI_pushL, tL_pushL, tR_pushL, tN_pushL, tZ_pushL, tC_pushL, tc_pushL, tz_pushL, tI_pushB, tL_pushB, tR_pushB, tN_pushB, tZ_pushB, tC_pushB, tc_pushB, tz_pushB, tI_cpL, tL_cpL, tR_cpL, tN_cpL, tZ_cpL, tC_cpL, tc_cpL, tz_cpL, eq_self, true_and, and_true, false_and, and_false, if_true, if_false, reduceIte, ite_true, ite_false, not_true_eq_false, not_false_eq_true]
        · refine fin_rej (fun q => hs (by have := q.2; rwa [if_pos rfl] at this)) (fun z => ?_) (fun z => ?_)
          · rw [go22']
            simp (config := {decide := true}) only [gfI_enc, gfL_enc, gfR_enc, pfI_enc, pfL_enc, pfR_enc, Option.bind_some, cI_v, cL_v, cF_v, cD_v, cR_v, cV_v, cI_x, cL_x, cR_x, cV_x, gz_0, gz_1, acc_enc, tI_sI, tL_sI, tR_sI, tN_sI, tZ_sI, tC_sI, tc_sI, tz_sI, tI_sL, tL_sL, tR_sL, tN_sL, tZ_sL, tC_sL, tc_sL, tz_sL, tI_sR, tL_sR, tR_sR, tN_sR, tZ_sR, tC_sR, tc_sR, tz_sR, tI_sZ, tL_sZ, tR_sZ, tN_sZ, tZ_sZ, tC_sZ, tc_sZ, tz_sZ, tI_sC, tL_sC, tR_sC, tN_sC, tZ_sC, tC_sC, tc_sC, tz_sC, tI_aC, tL_aC, tR_aC, tN_aC, tZ_aC, tC_aC, tc_aC, tz_aC, tI_rmL, tL_rmL, tR_rmL, tN_rmL, tZ_rmL, tC_rmL, tc_rmL, tz_rmL, tI_mk, tL_mk, tR_mk, tN_mk, tZ_mk, tC_mk, tc_mk, tz_mk, tI_pushL, tL_pushL, tR_pushL, tN_pushL, tZ_pushL, tC_pushL, tc_pushL, tz_pushL, tI_pushB, tL_pushB, tR_pushB, tN_pushB, tZ_pushB, tC_pushB, tc_pushB, tz_pushB, tI_cpL, tL_cpL, tR_cpL, tN_cpL, tZ_cpL, tC_cpL, tc_cpL, tz_cpL, eq_self, true_and, and_true, false_and, and_false, if_true, if_false, reduceIte, ite_true, ite_false, not_true_eq_false, not_false_eq_true, f29, e8, gm i10 hr1, m2', m3', m4', m5', m6', m7', f16, f10, hnew, mz, x2 _ _ _ _ hcd37, D7, hs, reduceCtorEq]
            rw [x22_rej _ _ hfc1 xj (Or.inr ⟨by decide, rfl⟩)]
          · have hs' : ¬ stp (keyL (Int32.ofNat cd)) (Int32.ofNat c) m (Int32.ofNat sh) 1 = st := fun q => hs q.symm
            rw [goB, if_pos e8', if_pos hnew, lf_171_31]
            simp (config := {decide := true}) only [gfI_enc, gfL_enc, gfR_enc, pfI_enc, pfL_enc, pfR_enc, Option.bind_some, cI_v, cL_v, cF_v, cD_v, cR_v, cV_v, cI_x, cL_x, cR_x, cV_x, gz_0, gz_1, acc_enc, tI_sI, tL_sI, tR_sI, tN_sI, tZ_sI, tC_sI, tc_sI, tz_sI, tI_sL, tL_sL, tR_sL, tN_sL, tZ_sL, tC_sL, tc_sL, tz_sL, tI_sR, tL_sR, tR_sR, tN_sR, tZ_sR, tC_sR, tc_sR, tz_sR, tI_sZ, tL_sZ, tR_sZ, tN_sZ, tZ_sZ, tC_sZ, tc_sZ, tz_sZ, tI_sC, tL_sC, tR_sC, tN_sC, tZ_sC, tC_sC, tc_sC, tz_sC, tI_aC, tL_aC, tR_aC, tN_aC, tZ_aC, tC_aC, tc_aC, tz_aC, tI_rmL, tL_rmL, tR_rmL, tN_rmL, tZ_rmL, tC_rmL, tc_rmL, tz_rmL, tI_mk, tL_mk, tR_mk, tN_mk, tZ_mk, tC_mk, tc_mk, tz_mk, tI_pushL, tL_pushL, tR_pushL, tN_pushL, tZ_pushL, tC_pushL, tc_pushL, tz_pushL, tI_pushB, tL_pushB, tR_pushB, tN_pushB, tZ_pushB, tC_pushB, tc_pushB, tz_pushB, tI_cpL, tL_cpL, tR_cpL, tN_cpL, tZ_cpL, tC_cpL, tc_cpL, tz_cpL, eq_self, true_and, and_true, false_and, and_false, if_true, if_false, reduceIte, ite_true, ite_false, not_true_eq_false, not_false_eq_true, be1, f159, y160 _ _ _ _ _ _ hfr1, hs']
            rw [lf_171_72, lf_171_73, y176 _ _ _ _ hfr1 y2]
      · have hb0 : ¬ by' = 0 := fun q => by rw [q] at hb12; rcases hb12 with z | z <;> exact absurd z (by decide)
        have x33' := x33 ((r_K hR1).2.2 n hn) x1 xj i10 hr1
        rw [m7', m2', m4', m5'] at x33'
        obtain ⟨K1, K2, K3, K4, -⟩ := kTB
        obtain ⟨B5, B6, B7, B8, B9, B10⟩ := K4 j' y2
        have n62 : j' < tN b1 62 := by rw [K3.1]; exact y2
        have n63 : j' < tN b1 63 := by rw [K3.2.1]; exact y2
        have o62 : isO 2 1000 62 := ⟨by decide +kernel, by decide +kernel⟩
        have o63 : isO 2 1000 63 := ⟨by decide +kernel, by decide +kernel⟩
        have f62 := fun z => y187 (z := z) (Int32.ofNat cd) (Int32.ofNat c) m o62 n62 B8
        have f63 := fun z => y187 (z := z) (Int32.ofNat cd) (Int32.ofNat c) m o63 n63 B9
        by_cases hg : grd b1 n by' (Int32.ofNat cd) (Int32.ofNat c) m
        · obtain ⟨p2, p0, p5⟩ := hng hb0
          have hg' := x33'.1 hg
          refine post ⟨hsrc.mpr hnew, by rw [if_neg hb0]; exact (hgrd _).mp hg⟩ p2 p0 p5 hnew (fun z => ?_) (fun z => ?_)
          · rw [go22']
            simp (config := {decide := true}) only [gfI_enc, gfL_enc, gfR_enc, pfI_enc, pfL_enc, pfR_enc, Option.bind_some, cI_v, cL_v, cF_v, cD_v, cR_v, cV_v, cI_x, cL_x, cR_x, cV_x, gz_0, gz_1, acc_enc, tI_sI, tL_sI, tR_sI, tN_sI, tZ_sI, tC_sI, tc_sI, tz_sI, tI_sL, tL_sL, tR_sL, tN_sL, tZ_sL, tC_sL, tc_sL, tz_sL, tI_sR, tL_sR, tR_sR, tN_sR, tZ_sR, tC_sR, tc_sR, tz_sR, tI_sZ, tL_sZ, tR_sZ, tN_sZ, tZ_sZ, tC_sZ, tc_sZ, tz_sZ, tI_sC, tL_sC, tR_sC, tN_sC, tZ_sC, tC_sC, tc_sC, tz_sC, tI_aC, tL_aC, tR_aC, tN_aC, tZ_aC, tC_aC, tc_aC, tz_aC, tI_rmL, tL_rmL, tR_rmL, tN_rmL, tZ_rmL, tC_rmL, tc_rmL, tz_rmL, tI_mk, tL_mk, tR_mk, tN_mk, tZ_mk, tC_mk, tc_mk, tz_mk, tI_pushL, tL_pushL, tR_pushL, tN_pushL, tZ_pushL, tC_pushL, tc_pushL, tz_pushL, tI_pushB, tL_pushB, tR_pushB, tN_pushB, tZ_pushB, tC_pushB, tc_pushB, tz_pushB, tI_cpL, tL_cpL, tR_cpL, tN_cpL, tZ_cpL, tC_cpL, tc_cpL, tz_cpL, eq_self, true_and, and_true, false_and, and_false, if_true, if_false, reduceIte, ite_true, ite_false, not_true_eq_false, not_false_eq_true, f29, e8, gm i10 hr1, m2', m4', m7', f16, f10, hnew, mz, hb0, hg', reduceCtorEq]
          · rw [goB, if_pos e8', if_pos hnew, lf_171_31]
            obtain ⟨g9, gg⟩ := hg
            rw [hI_at y1] at g9
            rcases hb12 with e | e
            · subst e
              rw [if_neg (by decide), hI_at y1, hA_at y1, hA_at y1, hA_at y1] at gg
              obtain ⟨a1', a2', a3', a4'⟩ := gg
              simp (config := {decide := true}) only [gfI_enc, gfL_enc, gfR_enc, pfI_enc, pfL_enc, pfR_enc, Option.bind_some, cI_v, cL_v, cF_v, cD_v, cR_v, cV_v, cI_x, cL_x, cR_x, cV_x, gz_0, gz_1, acc_enc, tI_sI, tL_sI, tR_sI, tN_sI, tZ_sI, tC_sI, tc_sI, tz_sI, tI_sL, tL_sL, tR_sL, tN_sL, tZ_sL, tC_sL, tc_sL, tz_sL, tI_sR, tL_sR, tR_sR, tN_sR, tZ_sR, tC_sR, tc_sR, tz_sR, tI_sZ, tL_sZ, tR_sZ, tN_sZ, tZ_sZ, tC_sZ, tc_sZ, tz_sZ, tI_sC, tL_sC, tR_sC, tN_sC, tZ_sC, tC_sC, tc_sC, tz_sC, tI_aC, tL_aC, tR_aC, tN_aC, tZ_aC, tC_aC, tc_aC, tz_aC, tI_rmL, tL_rmL, tR_rmL, tN_rmL, tZ_rmL, tC_rmL, tc_rmL, tz_rmL, tI_mk, tL_mk, tR_mk, tN_mk, tZ_mk, tC_mk, tc_mk, tz_mk, tI_pushL, tL_pushL, tR_pushL, tN_pushL, tZ_pushL, tC_pushL, tc_pushL, tz_pushL, tI_pushB, tL_pushB, tR_pushB, tN_pushB, tZ_pushB, tC_pushB, tc_pushB, tz_pushB, tI_cpL, tL_cpL, tR_cpL, tN_cpL, tZ_cpL, tC_cpL, tc_cpL, tz_cpL, eq_self, true_and, and_true, false_and, and_false, if_true, if_false, reduceIte, ite_true, ite_false, not_true_eq_false, not_false_eq_true, be2, y2, a1', g9, B5, f62, a2', a3', a4']
              rw [lf_171_127, lf_171_176]
              simp (config := {decide := true}) only [gfI_enc, gfL_enc, gfR_enc, pfI_enc, pfL_enc, pfR_enc, Option.bind_some, cI_v, cL_v, cF_v, cD_v, cR_v, cV_v, cI_x, cL_x, cR_x, cV_x, gz_0, gz_1, acc_enc, tI_sI, tL_sI, tR_sI, tN_sI, tZ_sI, tC_sI, tc_sI, tz_sI, tI_sL, tL_sL, tR_sL, tN_sL, tZ_sL, tC_sL, tc_sL, tz_sL, tI_sR, tL_sR, tR_sR, tN_sR, tZ_sR, tC_sR, tc_sR, tz_sR, tI_sZ, tL_sZ, tR_sZ, tN_sZ, tZ_sZ, tC_sZ, tc_sZ, tz_sZ, tI_sC, tL_sC, tR_sC, tN_sC, tZ_sC, tC_sC, tc_sC, tz_sC, tI_aC, tL_aC, tR_aC, tN_aC, tZ_aC, tC_aC, tc_aC, tz_aC, tI_rmL, tL_rmL, tR_rmL, tN_rmL, tZ_rmL, tC_rmL, tc_rmL, tz_rmL, tI_mk, tL_mk, tR_mk, tN_mk, tZ_mk, tC_mk, tc_mk, tz_mk, tI_pushL, tL_pushL, tR_pushL, tN_pushL, tZ_pushL, tC_pushL, tc_pushL, tz_pushL, tI_pushB, tL_pushB, tR_pushB, tN_pushB, tZ_pushB, tC_pushB, tc_pushB, tz_pushB, tI_cpL, tL_cpL, tR_cpL, tN_cpL, tZ_cpL, tC_cpL, tc_cpL, tz_cpL, eq_self, true_and, and_true, false_and, and_false, if_true, if_false, reduceIte, ite_true, ite_false, not_true_eq_false, not_false_eq_true]
            · subst e
              rw [if_pos rfl, hI_at y1, hA_at y1, hA_at y1, hA_at y1] at gg
              obtain ⟨a1', a2', a3', a4'⟩ := gg
              simp (config := {decide := true}) only [gfI_enc, gfL_enc, gfR_enc, pfI_enc, pfL_enc, pfR_enc, Option.bind_some, cI_v, cL_v, cF_v, cD_v, cR_v, cV_v, cI_x, cL_x, cR_x, cV_x, gz_0, gz_1, acc_enc, tI_sI, tL_sI, tR_sI, tN_sI, tZ_sI, tC_sI, tc_sI, tz_sI, tI_sL, tL_sL, tR_sL, tN_sL, tZ_sL, tC_sL, tc_sL, tz_sL, tI_sR, tL_sR, tR_sR, tN_sR, tZ_sR, tC_sR, tc_sR, tz_sR, tI_sZ, tL_sZ, tR_sZ, tN_sZ, tZ_sZ, tC_sZ, tc_sZ, tz_sZ, tI_sC, tL_sC, tR_sC, tN_sC, tZ_sC, tC_sC, tc_sC, tz_sC, tI_aC, tL_aC, tR_aC, tN_aC, tZ_aC, tC_aC, tc_aC, tz_aC, tI_rmL, tL_rmL, tR_rmL, tN_rmL, tZ_rmL, tC_rmL, tc_rmL, tz_rmL, tI_mk, tL_mk, tR_mk, tN_mk, tZ_mk, tC_mk, tc_mk, tz_mk, tI_pushL, tL_pushL, tR_pushL, tN_pushL, tZ_pushL, tC_pushL, tc_pushL, tz_pushL, tI_pushB, tL_pushB, tR_pushB, tN_pushB, tZ_pushB, tC_pushB, tc_pushB, tz_pushB, tI_cpL, tL_cpL, tR_cpL, tN_cpL, tZ_cpL, tC_cpL, tc_cpL, tz_cpL, eq_self, true_and, and_true, false_and, and_false, if_true, if_false, reduceIte, ite_true, ite_false, not_true_eq_false, not_false_eq_true, bne2, bne3, y2, a1', g9, B6, f63, a2', a3', a4']
              rw [lf_171_174, lf_171_176]
              simp (config := {decide := true}) only [gfI_enc, gfL_enc, gfR_enc, pfI_enc, pfL_enc, pfR_enc, Option.bind_some, cI_v, cL_v, cF_v, cD_v, cR_v, cV_v, cI_x, cL_x, cR_x, cV_x, gz_0, gz_1, acc_enc, tI_sI, tL_sI, tR_sI, tN_sI, tZ_sI, tC_sI, tc_sI, tz_sI, tI_sL, tL_sL, tR_sL, tN_sL, tZ_sL, tC_sL, tc_sL, tz_sL, tI_sR, tL_sR, tR_sR, tN_sR, tZ_sR, tC_sR, tc_sR, tz_sR, tI_sZ, tL_sZ, tR_sZ, tN_sZ, tZ_sZ, tC_sZ, tc_sZ, tz_sZ, tI_sC, tL_sC, tR_sC, tN_sC, tZ_sC, tC_sC, tc_sC, tz_sC, tI_aC, tL_aC, tR_aC, tN_aC, tZ_aC, tC_aC, tc_aC, tz_aC, tI_rmL, tL_rmL, tR_rmL, tN_rmL, tZ_rmL, tC_rmL, tc_rmL, tz_rmL, tI_mk, tL_mk, tR_mk, tN_mk, tZ_mk, tC_mk, tc_mk, tz_mk, tI_pushL, tL_pushL, tR_pushL, tN_pushL, tZ_pushL, tC_pushL, tc_pushL, tz_pushL, tI_pushB, tL_pushB, tR_pushB, tN_pushB, tZ_pushB, tC_pushB, tc_pushB, tz_pushB, tI_cpL, tL_cpL, tR_cpL, tN_cpL, tZ_cpL, tC_cpL, tc_cpL, tz_cpL, eq_self, true_and, and_true, false_and, and_false, if_true, if_false, reduceIte, ite_true, ite_false, not_true_eq_false, not_false_eq_true]
        · have hg' := x33'.2 hg
          refine fin_rej (fun q => hg ((hgrd _).mpr (by have := q.2; rwa [if_neg hb0] at this))) (fun z => ?_) (fun z => ?_)
          · rw [go22']
            simp (config := {decide := true}) only [gfI_enc, gfL_enc, gfR_enc, pfI_enc, pfL_enc, pfR_enc, Option.bind_some, cI_v, cL_v, cF_v, cD_v, cR_v, cV_v, cI_x, cL_x, cR_x, cV_x, gz_0, gz_1, acc_enc, tI_sI, tL_sI, tR_sI, tN_sI, tZ_sI, tC_sI, tc_sI, tz_sI, tI_sL, tL_sL, tR_sL, tN_sL, tZ_sL, tC_sL, tc_sL, tz_sL, tI_sR, tL_sR, tR_sR, tN_sR, tZ_sR, tC_sR, tc_sR, tz_sR, tI_sZ, tL_sZ, tR_sZ, tN_sZ, tZ_sZ, tC_sZ, tc_sZ, tz_sZ, tI_sC, tL_sC, tR_sC, tN_sC, tZ_sC, tC_sC, tc_sC, tz_sC, tI_aC, tL_aC, tR_aC, tN_aC, tZ_aC, tC_aC, tc_aC, tz_aC, tI_rmL, tL_rmL, tR_rmL, tN_rmL, tZ_rmL, tC_rmL, tc_rmL, tz_rmL, tI_mk, tL_mk, tR_mk, tN_mk, tZ_mk, tC_mk, tc_mk, tz_mk, tI_pushL, tL_pushL, tR_pushL, tN_pushL, tZ_pushL, tC_pushL, tc_pushL, tz_pushL, tI_pushB, tL_pushB, tR_pushB, tN_pushB, tZ_pushB, tC_pushB, tc_pushB, tz_pushB, tI_cpL, tL_cpL, tR_cpL, tN_cpL, tZ_cpL, tC_cpL, tc_cpL, tz_cpL, eq_self, true_and, and_true, false_and, and_false, if_true, if_false, reduceIte, ite_true, ite_false, not_true_eq_false, not_false_eq_true, f29, e8, gm i10 hr1, m2', m4', m7', f16, f10, hnew, mz, hb0, hg', reduceCtorEq]
            rw [x22_rej _ _ hfc1 xj (Or.inr ⟨by decide, rfl⟩)]
          · rw [goB, if_pos e8', if_pos hnew, lf_171_31]
            unfold grd at hg
            rcases hb12 with e | e
            · subst e
              rw [if_neg (by decide), hI_at y1, hI_at y1, hA_at y1, hA_at y1, hA_at y1] at hg
              by_cases d0 : tI b1 61 j' 0 = 1
              · by_cases d1 : tI b1 61 j' 9 = 0
                · have d2 : ¬ (tI b1 62 j' 0 = Int32.ofNat cd ∧ tI b1 62 j' 1 = Int32.ofNat c ∧ tI b1 62 j' 2 = m) := fun q => hg ⟨d1, d0, q⟩
                  simp (config := {decide := true}) only [gfI_enc, gfL_enc, gfR_enc, pfI_enc, pfL_enc, pfR_enc, Option.bind_some, cI_v, cL_v, cF_v, cD_v, cR_v, cV_v, cI_x, cL_x, cR_x, cV_x, gz_0, gz_1, acc_enc, tI_sI, tL_sI, tR_sI, tN_sI, tZ_sI, tC_sI, tc_sI, tz_sI, tI_sL, tL_sL, tR_sL, tN_sL, tZ_sL, tC_sL, tc_sL, tz_sL, tI_sR, tL_sR, tR_sR, tN_sR, tZ_sR, tC_sR, tc_sR, tz_sR, tI_sZ, tL_sZ, tR_sZ, tN_sZ, tZ_sZ, tC_sZ, tc_sZ, tz_sZ, tI_sC, tL_sC, tR_sC, tN_sC, tZ_sC, tC_sC, tc_sC, tz_sC, tI_aC, tL_aC, tR_aC, tN_aC, tZ_aC, tC_aC, tc_aC, tz_aC, tI_rmL, tL_rmL, tR_rmL, tN_rmL, tZ_rmL, tC_rmL, tc_rmL, tz_rmL, tI_mk, tL_mk, tR_mk, tN_mk, tZ_mk, tC_mk, tc_mk, tz_mk, tI_pushL, tL_pushL, tR_pushL, tN_pushL, tZ_pushL, tC_pushL, tc_pushL, tz_pushL, tI_pushB, tL_pushB, tR_pushB, tN_pushB, tZ_pushB, tC_pushB, tc_pushB, tz_pushB, tI_cpL, tL_cpL, tR_cpL, tN_cpL, tZ_cpL, tC_cpL, tc_cpL, tz_cpL, eq_self, true_and, and_true, false_and, and_false, if_true, if_false, reduceIte, ite_true, ite_false, not_true_eq_false, not_false_eq_true, be2, y2, d0, d1, B5, f62, d2]
                  rw [lf_171_126, lf_171_127, y176 _ _ _ _ hfr1 y2]
                · simp (config := {decide := true}) only [gfI_enc, gfL_enc, gfR_enc, pfI_enc, pfL_enc, pfR_enc, Option.bind_some, cI_v, cL_v, cF_v, cD_v, cR_v, cV_v, cI_x, cL_x, cR_x, cV_x, gz_0, gz_1, acc_enc, tI_sI, tL_sI, tR_sI, tN_sI, tZ_sI, tC_sI, tc_sI, tz_sI, tI_sL, tL_sL, tR_sL, tN_sL, tZ_sL, tC_sL, tc_sL, tz_sL, tI_sR, tL_sR, tR_sR, tN_sR, tZ_sR, tC_sR, tc_sR, tz_sR, tI_sZ, tL_sZ, tR_sZ, tN_sZ, tZ_sZ, tC_sZ, tc_sZ, tz_sZ, tI_sC, tL_sC, tR_sC, tN_sC, tZ_sC, tC_sC, tc_sC, tz_sC, tI_aC, tL_aC, tR_aC, tN_aC, tZ_aC, tC_aC, tc_aC, tz_aC, tI_rmL, tL_rmL, tR_rmL, tN_rmL, tZ_rmL, tC_rmL, tc_rmL, tz_rmL, tI_mk, tL_mk, tR_mk, tN_mk, tZ_mk, tC_mk, tc_mk, tz_mk, tI_pushL, tL_pushL, tR_pushL, tN_pushL, tZ_pushL, tC_pushL, tc_pushL, tz_pushL, tI_pushB, tL_pushB, tR_pushB, tN_pushB, tZ_pushB, tC_pushB, tc_pushB, tz_pushB, tI_cpL, tL_cpL, tR_cpL, tN_cpL, tZ_cpL, tC_cpL, tc_cpL, tz_cpL, eq_self, true_and, and_true, false_and, and_false, if_true, if_false, reduceIte, ite_true, ite_false, not_true_eq_false, not_false_eq_true, be2, y2, d0, d1]
                  rw [lf_171_126, lf_171_127, y176 _ _ _ _ hfr1 y2]
              · simp (config := {decide := true}) only [gfI_enc, gfL_enc, gfR_enc, pfI_enc, pfL_enc, pfR_enc, Option.bind_some, cI_v, cL_v, cF_v, cD_v, cR_v, cV_v, cI_x, cL_x, cR_x, cV_x, gz_0, gz_1, acc_enc, tI_sI, tL_sI, tR_sI, tN_sI, tZ_sI, tC_sI, tc_sI, tz_sI, tI_sL, tL_sL, tR_sL, tN_sL, tZ_sL, tC_sL, tc_sL, tz_sL, tI_sR, tL_sR, tR_sR, tN_sR, tZ_sR, tC_sR, tc_sR, tz_sR, tI_sZ, tL_sZ, tR_sZ, tN_sZ, tZ_sZ, tC_sZ, tc_sZ, tz_sZ, tI_sC, tL_sC, tR_sC, tN_sC, tZ_sC, tC_sC, tc_sC, tz_sC, tI_aC, tL_aC, tR_aC, tN_aC, tZ_aC, tC_aC, tc_aC, tz_aC, tI_rmL, tL_rmL, tR_rmL, tN_rmL, tZ_rmL, tC_rmL, tc_rmL, tz_rmL, tI_mk, tL_mk, tR_mk, tN_mk, tZ_mk, tC_mk, tc_mk, tz_mk, tI_pushL, tL_pushL, tR_pushL, tN_pushL, tZ_pushL, tC_pushL, tc_pushL, tz_pushL, tI_pushB, tL_pushB, tR_pushB, tN_pushB, tZ_pushB, tC_pushB, tc_pushB, tz_pushB, tI_cpL, tL_cpL, tR_cpL, tN_cpL, tZ_cpL, tC_cpL, tc_cpL, tz_cpL, eq_self, true_and, and_true, false_and, and_false, if_true, if_false, reduceIte, ite_true, ite_false, not_true_eq_false, not_false_eq_true, be2, y2, d0]
                rw [lf_171_126, lf_171_127, y176 _ _ _ _ hfr1 y2]
            · subst e
              rw [if_pos rfl, hI_at y1, hI_at y1, hA_at y1, hA_at y1, hA_at y1] at hg
              by_cases d0 : tI b1 61 j' 7 = 0
              · simp (config := {decide := true}) only [gfI_enc, gfL_enc, gfR_enc, pfI_enc, pfL_enc, pfR_enc, Option.bind_some, cI_v, cL_v, cF_v, cD_v, cR_v, cV_v, cI_x, cL_x, cR_x, cV_x, gz_0, gz_1, acc_enc, tI_sI, tL_sI, tR_sI, tN_sI, tZ_sI, tC_sI, tc_sI, tz_sI, tI_sL, tL_sL, tR_sL, tN_sL, tZ_sL, tC_sL, tc_sL, tz_sL, tI_sR, tL_sR, tR_sR, tN_sR, tZ_sR, tC_sR, tc_sR, tz_sR, tI_sZ, tL_sZ, tR_sZ, tN_sZ, tZ_sZ, tC_sZ, tc_sZ, tz_sZ, tI_sC, tL_sC, tR_sC, tN_sC, tZ_sC, tC_sC, tc_sC, tz_sC, tI_aC, tL_aC, tR_aC, tN_aC, tZ_aC, tC_aC, tc_aC, tz_aC, tI_rmL, tL_rmL, tR_rmL, tN_rmL, tZ_rmL, tC_rmL, tc_rmL, tz_rmL, tI_mk, tL_mk, tR_mk, tN_mk, tZ_mk, tC_mk, tc_mk, tz_mk, tI_pushL, tL_pushL, tR_pushL, tN_pushL, tZ_pushL, tC_pushL, tc_pushL, tz_pushL, tI_pushB, tL_pushB, tR_pushB, tN_pushB, tZ_pushB, tC_pushB, tc_pushB, tz_pushB, tI_cpL, tL_cpL, tR_cpL, tN_cpL, tZ_cpL, tC_cpL, tc_cpL, tz_cpL, eq_self, true_and, and_true, false_and, and_false, if_true, if_false, reduceIte, ite_true, ite_false, not_true_eq_false, not_false_eq_true, bne2, bne3, y2, d0]
                rw [lf_171_173, lf_171_174, y176 _ _ _ _ hfr1 y2]
              · by_cases d1 : tI b1 61 j' 9 = 0
                · have d2 : ¬ (tI b1 63 j' 0 = Int32.ofNat cd ∧ tI b1 63 j' 1 = Int32.ofNat c ∧ tI b1 63 j' 2 = m) := fun q => hg ⟨d1, d0, q⟩
                  simp (config := {decide := true}) only [gfI_enc, gfL_enc, gfR_enc, pfI_enc, pfL_enc, pfR_enc, Option.bind_some, cI_v, cL_v, cF_v, cD_v, cR_v, cV_v, cI_x, cL_x, cR_x, cV_x, gz_0, gz_1, acc_enc, tI_sI, tL_sI, tR_sI, tN_sI, tZ_sI, tC_sI, tc_sI, tz_sI, tI_sL, tL_sL, tR_sL, tN_sL, tZ_sL, tC_sL, tc_sL, tz_sL, tI_sR, tL_sR, tR_sR, tN_sR, tZ_sR, tC_sR, tc_sR, tz_sR, tI_sZ, tL_sZ, tR_sZ, tN_sZ, tZ_sZ, tC_sZ, tc_sZ, tz_sZ, tI_sC, tL_sC, tR_sC, tN_sC, tZ_sC, tC_sC, tc_sC, tz_sC, tI_aC, tL_aC, tR_aC, tN_aC, tZ_aC, tC_aC, tc_aC, tz_aC, tI_rmL, tL_rmL, tR_rmL, tN_rmL, tZ_rmL, tC_rmL, tc_rmL, tz_rmL, tI_mk, tL_mk, tR_mk, tN_mk, tZ_mk, tC_mk, tc_mk, tz_mk, tI_pushL, tL_pushL, tR_pushL, tN_pushL, tZ_pushL, tC_pushL, tc_pushL, tz_pushL, tI_pushB, tL_pushB, tR_pushB, tN_pushB, tZ_pushB, tC_pushB, tc_pushB, tz_pushB, tI_cpL, tL_cpL, tR_cpL, tN_cpL, tZ_cpL, tC_cpL, tc_cpL, tz_cpL, eq_self, true_and, and_true, false_and, and_false, if_true, if_false, reduceIte, ite_true, ite_false, not_true_eq_false, not_false_eq_true, bne2, bne3, y2, d0, d1, B6, f63, d2]
                  rw [lf_171_173, lf_171_174, y176 _ _ _ _ hfr1 y2]
                · simp (config := {decide := true}) only [gfI_enc, gfL_enc, gfR_enc, pfI_enc, pfL_enc, pfR_enc, Option.bind_some, cI_v, cL_v, cF_v, cD_v, cR_v, cV_v, cI_x, cL_x, cR_x, cV_x, gz_0, gz_1, acc_enc, tI_sI, tL_sI, tR_sI, tN_sI, tZ_sI, tC_sI, tc_sI, tz_sI, tI_sL, tL_sL, tR_sL, tN_sL, tZ_sL, tC_sL, tc_sL, tz_sL, tI_sR, tL_sR, tR_sR, tN_sR, tZ_sR, tC_sR, tc_sR, tz_sR, tI_sZ, tL_sZ, tR_sZ, tN_sZ, tZ_sZ, tC_sZ, tc_sZ, tz_sZ, tI_sC, tL_sC, tR_sC, tN_sC, tZ_sC, tC_sC, tc_sC, tz_sC, tI_aC, tL_aC, tR_aC, tN_aC, tZ_aC, tC_aC, tc_aC, tz_aC, tI_rmL, tL_rmL, tR_rmL, tN_rmL, tZ_rmL, tC_rmL, tc_rmL, tz_rmL, tI_mk, tL_mk, tR_mk, tN_mk, tZ_mk, tC_mk, tc_mk, tz_mk, tI_pushL, tL_pushL, tR_pushL, tN_pushL, tZ_pushL, tC_pushL, tc_pushL, tz_pushL, tI_pushB, tL_pushB, tR_pushB, tN_pushB, tZ_pushB, tC_pushB, tc_pushB, tz_pushB, tI_cpL, tL_cpL, tR_cpL, tN_cpL, tZ_cpL, tC_cpL, tc_cpL, tz_cpL, eq_self, true_and, and_true, false_and, and_false, if_true, if_false, reduceIte, ite_true, ite_false, not_true_eq_false, not_false_eq_true, bne2, bne3, y2, d0, d1]
                  rw [lf_171_173, lf_171_174, y176 _ _ _ _ hfr1 y2]
    · have mz : ¬ tI a1 2 cd c - 1 = -1 := fun q => hnew (by
        have := congrArg (fun x : Int32 => x + 1) q
        simpa using this)
      refine fin_rej (fun q => hnew (hsrc.mp q.1)) (fun z => ?_) (fun z => ?_)
      · rw [go22']
        rcases hby with hb0 | hb12
        · subst hb0
          simp (config := {decide := true}) only [gfI_enc, gfL_enc, gfR_enc, pfI_enc, pfL_enc, pfR_enc, Option.bind_some, cI_v, cL_v, cF_v, cD_v, cR_v, cV_v, cI_x, cL_x, cR_x, cV_x, gz_0, gz_1, acc_enc, tI_sI, tL_sI, tR_sI, tN_sI, tZ_sI, tC_sI, tc_sI, tz_sI, tI_sL, tL_sL, tR_sL, tN_sL, tZ_sL, tC_sL, tc_sL, tz_sL, tI_sR, tL_sR, tR_sR, tN_sR, tZ_sR, tC_sR, tc_sR, tz_sR, tI_sZ, tL_sZ, tR_sZ, tN_sZ, tZ_sZ, tC_sZ, tc_sZ, tz_sZ, tI_sC, tL_sC, tR_sC, tN_sC, tZ_sC, tC_sC, tc_sC, tz_sC, tI_aC, tL_aC, tR_aC, tN_aC, tZ_aC, tC_aC, tc_aC, tz_aC, tI_rmL, tL_rmL, tR_rmL, tN_rmL, tZ_rmL, tC_rmL, tc_rmL, tz_rmL, tI_mk, tL_mk, tR_mk, tN_mk, tZ_mk, tC_mk, tc_mk, tz_mk, tI_pushL, tL_pushL, tR_pushL, tN_pushL, tZ_pushL, tC_pushL, tc_pushL, tz_pushL, tI_pushB, tL_pushB, tR_pushB, tN_pushB, tZ_pushB, tC_pushB, tc_pushB, tz_pushB, tI_cpL, tL_cpL, tR_cpL, tN_cpL, tZ_cpL, tC_cpL, tc_cpL, tz_cpL, eq_self, true_and, and_true, false_and, and_false, if_true, if_false, reduceIte, ite_true, ite_false, not_true_eq_false, not_false_eq_true, f29, e8, gm i10 hr1, m2', m4', m7', f16, f10, mz, reduceCtorEq]
          rw [x22_rej _ _ hfc1 xj (Or.inl rfl)]
        · have hb0 : ¬ by' = 0 := fun q => by rw [q] at hb12; rcases hb12 with z | z <;> exact absurd z (by decide)
          have x33' := x33 ((r_K hR1).2.2 n hn) x1 xj i10 hr1
          by_cases hg : grd b1 n (tI a1 10 r 7) (tI a1 10 r 2) (tI a1 10 r 4) (tI a1 10 r 5)
          · have hg' := x33'.1 hg
            simp (config := {decide := true}) only [gfI_enc, gfL_enc, gfR_enc, pfI_enc, pfL_enc, pfR_enc, Option.bind_some, cI_v, cL_v, cF_v, cD_v, cR_v, cV_v, cI_x, cL_x, cR_x, cV_x, gz_0, gz_1, acc_enc, tI_sI, tL_sI, tR_sI, tN_sI, tZ_sI, tC_sI, tc_sI, tz_sI, tI_sL, tL_sL, tR_sL, tN_sL, tZ_sL, tC_sL, tc_sL, tz_sL, tI_sR, tL_sR, tR_sR, tN_sR, tZ_sR, tC_sR, tc_sR, tz_sR, tI_sZ, tL_sZ, tR_sZ, tN_sZ, tZ_sZ, tC_sZ, tc_sZ, tz_sZ, tI_sC, tL_sC, tR_sC, tN_sC, tZ_sC, tC_sC, tc_sC, tz_sC, tI_aC, tL_aC, tR_aC, tN_aC, tZ_aC, tC_aC, tc_aC, tz_aC, tI_rmL, tL_rmL, tR_rmL, tN_rmL, tZ_rmL, tC_rmL, tc_rmL, tz_rmL, tI_mk, tL_mk, tR_mk, tN_mk, tZ_mk, tC_mk, tc_mk, tz_mk, tI_pushL, tL_pushL, tR_pushL, tN_pushL, tZ_pushL, tC_pushL, tc_pushL, tz_pushL, tI_pushB, tL_pushB, tR_pushB, tN_pushB, tZ_pushB, tC_pushB, tc_pushB, tz_pushB, tI_cpL, tL_cpL, tR_cpL, tN_cpL, tZ_cpL, tC_cpL, tc_cpL, tz_cpL, eq_self, true_and, and_true, false_and, and_false, if_true, if_false, reduceIte, ite_true, ite_false, not_true_eq_false, not_false_eq_true, f29, e8, gm i10 hr1, m2', m4', m7', f16, f10, mz, hb0, hg', reduceCtorEq]
            rw [x22_rej _ _ hfc1 xj (Or.inl rfl)]
          · have hg' := x33'.2 hg
            simp (config := {decide := true}) only [gfI_enc, gfL_enc, gfR_enc, pfI_enc, pfL_enc, pfR_enc, Option.bind_some, cI_v, cL_v, cF_v, cD_v, cR_v, cV_v, cI_x, cL_x, cR_x, cV_x, gz_0, gz_1, acc_enc, tI_sI, tL_sI, tR_sI, tN_sI, tZ_sI, tC_sI, tc_sI, tz_sI, tI_sL, tL_sL, tR_sL, tN_sL, tZ_sL, tC_sL, tc_sL, tz_sL, tI_sR, tL_sR, tR_sR, tN_sR, tZ_sR, tC_sR, tc_sR, tz_sR, tI_sZ, tL_sZ, tR_sZ, tN_sZ, tZ_sZ, tC_sZ, tc_sZ, tz_sZ, tI_sC, tL_sC, tR_sC, tN_sC, tZ_sC, tC_sC, tc_sC, tz_sC, tI_aC, tL_aC, tR_aC, tN_aC, tZ_aC, tC_aC, tc_aC, tz_aC, tI_rmL, tL_rmL, tR_rmL, tN_rmL, tZ_rmL, tC_rmL, tc_rmL, tz_rmL, tI_mk, tL_mk, tR_mk, tN_mk, tZ_mk, tC_mk, tc_mk, tz_mk, tI_pushL, tL_pushL, tR_pushL, tN_pushL, tZ_pushL, tC_pushL, tc_pushL, tz_pushL, tI_pushB, tL_pushB, tR_pushB, tN_pushB, tZ_pushB, tC_pushB, tc_pushB, tz_pushB, tI_cpL, tL_cpL, tR_cpL, tN_cpL, tZ_cpL, tC_cpL, tc_cpL, tz_cpL, eq_self, true_and, and_true, false_and, and_false, if_true, if_false, reduceIte, ite_true, ite_false, not_true_eq_false, not_false_eq_true, f29, e8, gm i10 hr1, m2', m4', m7', f16, f10, mz, hb0, hg', reduceCtorEq]
            rw [x22_rej _ _ hfc1 xj (Or.inl rfl)]
      · rw [goB, if_pos e8', if_neg hnew, lf_171_31]
        rcases hby with e | e | e
        · subst e
          simp (config := {decide := true}) only [gfI_enc, gfL_enc, gfR_enc, pfI_enc, pfL_enc, pfR_enc, Option.bind_some, cI_v, cL_v, cF_v, cD_v, cR_v, cV_v, cI_x, cL_x, cR_x, cV_x, gz_0, gz_1, acc_enc, tI_sI, tL_sI, tR_sI, tN_sI, tZ_sI, tC_sI, tc_sI, tz_sI, tI_sL, tL_sL, tR_sL, tN_sL, tZ_sL, tC_sL, tc_sL, tz_sL, tI_sR, tL_sR, tR_sR, tN_sR, tZ_sR, tC_sR, tc_sR, tz_sR, tI_sZ, tL_sZ, tR_sZ, tN_sZ, tZ_sZ, tC_sZ, tc_sZ, tz_sZ, tI_sC, tL_sC, tR_sC, tN_sC, tZ_sC, tC_sC, tc_sC, tz_sC, tI_aC, tL_aC, tR_aC, tN_aC, tZ_aC, tC_aC, tc_aC, tz_aC, tI_rmL, tL_rmL, tR_rmL, tN_rmL, tZ_rmL, tC_rmL, tc_rmL, tz_rmL, tI_mk, tL_mk, tR_mk, tN_mk, tZ_mk, tC_mk, tc_mk, tz_mk, tI_pushL, tL_pushL, tR_pushL, tN_pushL, tZ_pushL, tC_pushL, tc_pushL, tz_pushL, tI_pushB, tL_pushB, tR_pushB, tN_pushB, tZ_pushB, tC_pushB, tc_pushB, tz_pushB, tI_cpL, tL_cpL, tR_cpL, tN_cpL, tZ_cpL, tC_cpL, tc_cpL, tz_cpL, eq_self, true_and, and_true, false_and, and_false, if_true, if_false, reduceIte, ite_true, ite_false, not_true_eq_false, not_false_eq_true, be1]
          rw [lf_171_72, lf_171_73, y176 _ _ _ _ hfr1 y2]
        · subst e
          simp (config := {decide := true}) only [gfI_enc, gfL_enc, gfR_enc, pfI_enc, pfL_enc, pfR_enc, Option.bind_some, cI_v, cL_v, cF_v, cD_v, cR_v, cV_v, cI_x, cL_x, cR_x, cV_x, gz_0, gz_1, acc_enc, tI_sI, tL_sI, tR_sI, tN_sI, tZ_sI, tC_sI, tc_sI, tz_sI, tI_sL, tL_sL, tR_sL, tN_sL, tZ_sL, tC_sL, tc_sL, tz_sL, tI_sR, tL_sR, tR_sR, tN_sR, tZ_sR, tC_sR, tc_sR, tz_sR, tI_sZ, tL_sZ, tR_sZ, tN_sZ, tZ_sZ, tC_sZ, tc_sZ, tz_sZ, tI_sC, tL_sC, tR_sC, tN_sC, tZ_sC, tC_sC, tc_sC, tz_sC, tI_aC, tL_aC, tR_aC, tN_aC, tZ_aC, tC_aC, tc_aC, tz_aC, tI_rmL, tL_rmL, tR_rmL, tN_rmL, tZ_rmL, tC_rmL, tc_rmL, tz_rmL, tI_mk, tL_mk, tR_mk, tN_mk, tZ_mk, tC_mk, tc_mk, tz_mk, tI_pushL, tL_pushL, tR_pushL, tN_pushL, tZ_pushL, tC_pushL, tc_pushL, tz_pushL, tI_pushB, tL_pushB, tR_pushB, tN_pushB, tZ_pushB, tC_pushB, tc_pushB, tz_pushB, tI_cpL, tL_cpL, tR_cpL, tN_cpL, tZ_cpL, tC_cpL, tc_cpL, tz_cpL, eq_self, true_and, and_true, false_and, and_false, if_true, if_false, reduceIte, ite_true, ite_false, not_true_eq_false, not_false_eq_true, be2]
          rw [lf_171_126, lf_171_127, y176 _ _ _ _ hfr1 y2]
        · subst e
          simp (config := {decide := true}) only [gfI_enc, gfL_enc, gfR_enc, pfI_enc, pfL_enc, pfR_enc, Option.bind_some, cI_v, cL_v, cF_v, cD_v, cR_v, cV_v, cI_x, cL_x, cR_x, cV_x, gz_0, gz_1, acc_enc, tI_sI, tL_sI, tR_sI, tN_sI, tZ_sI, tC_sI, tc_sI, tz_sI, tI_sL, tL_sL, tR_sL, tN_sL, tZ_sL, tC_sL, tc_sL, tz_sL, tI_sR, tL_sR, tR_sR, tN_sR, tZ_sR, tC_sR, tc_sR, tz_sR, tI_sZ, tL_sZ, tR_sZ, tN_sZ, tZ_sZ, tC_sZ, tc_sZ, tz_sZ, tI_sC, tL_sC, tR_sC, tN_sC, tZ_sC, tC_sC, tc_sC, tz_sC, tI_aC, tL_aC, tR_aC, tN_aC, tZ_aC, tC_aC, tc_aC, tz_aC, tI_rmL, tL_rmL, tR_rmL, tN_rmL, tZ_rmL, tC_rmL, tc_rmL, tz_rmL, tI_mk, tL_mk, tR_mk, tN_mk, tZ_mk, tC_mk, tc_mk, tz_mk, tI_pushL, tL_pushL, tR_pushL, tN_pushL, tZ_pushL, tC_pushL, tc_pushL, tz_pushL, tI_pushB, tL_pushB, tR_pushB, tN_pushB, tZ_pushB, tC_pushB, tc_pushB, tz_pushB, tI_cpL, tL_cpL, tR_cpL, tN_cpL, tZ_cpL, tC_cpL, tc_cpL, tz_cpL, eq_self, true_and, and_true, false_and, and_false, if_true, if_false, reduceIte, ite_true, ite_false, not_true_eq_false, not_false_eq_true, bne2, bne3]
          rw [lf_171_173, lf_171_174, y176 _ _ _ _ hfr1 y2]
  · obtain ⟨i, -, -, -, -, -, -, -, i5, -⟩ := q10 hpo
    have e8 : ¬ tR a1 4 j 8 = none := by rw [← kR_at x1, i5]; exact fun q => nomatch q
    have e8' : ¬ tI b1 61 j' 8 = 0 := by rw [← hI_at y1]; exact hpo
    refine ⟨a1, b1, fun z => ?_, fun z => ?_, hR1, chF_m ca (by simp) (by simp), chF_m cb (by simp) (by simp), wa, wb, Or.inl ⟨fun q => hpo ((wI n 8 hn).trans q), wI, wA, fun u _ => e43 u, fun u _ => e44 u, e46, e94 12, e94 13⟩⟩
    · rw [go22]
      have go : Ex 22 [aR (some (30, 0)), aR (some (10, r)), aR (some (4, j)), aR (some (36, sh))] (enc 1 a1 z) = _ := (X_in (by decide +kernel) (fcN_30 hfc1) rfl).trans (lf_22_0 ..)
      rw [go]
      simp (config := {decide := true}) only [gfI_enc, gfL_enc, gfR_enc, pfI_enc, pfL_enc, pfR_enc, Option.bind_some, cI_v, cL_v, cF_v, cD_v, cR_v, cV_v, cI_x, cL_x, cR_x, cV_x, gz_0, gz_1, acc_enc, tI_sI, tL_sI, tR_sI, tN_sI, tZ_sI, tC_sI, tc_sI, tz_sI, tI_sL, tL_sL, tR_sL, tN_sL, tZ_sL, tC_sL, tc_sL, tz_sL, tI_sR, tL_sR, tR_sR, tN_sR, tZ_sR, tC_sR, tc_sR, tz_sR, tI_sZ, tL_sZ, tR_sZ, tN_sZ, tZ_sZ, tC_sZ, tc_sZ, tz_sZ, tI_sC, tL_sC, tR_sC, tN_sC, tZ_sC, tC_sC, tc_sC, tz_sC, tI_aC, tL_aC, tR_aC, tN_aC, tZ_aC, tC_aC, tc_aC, tz_aC, tI_rmL, tL_rmL, tR_rmL, tN_rmL, tZ_rmL, tC_rmL, tc_rmL, tz_rmL, tI_mk, tL_mk, tR_mk, tN_mk, tZ_mk, tC_mk, tc_mk, tz_mk, tI_pushL, tL_pushL, tR_pushL, tN_pushL, tZ_pushL, tC_pushL, tc_pushL, tz_pushL, tI_pushB, tL_pushB, tR_pushB, tN_pushB, tZ_pushB, tC_pushB, tc_pushB, tz_pushB, tI_cpL, tL_cpL, tR_cpL, tN_cpL, tZ_cpL, tC_cpL, tc_cpL, tz_cpL, eq_self, true_and, and_true, false_and, and_false, if_true, if_false, reduceIte, ite_true, ite_false, not_true_eq_false, not_false_eq_true, f29, e8]
    · rw [goB, if_neg e8']
