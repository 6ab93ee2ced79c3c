/-! ===== the law's end ===== -/
def AllS (a b : TS) (j : Nat) : Prop := ∀ p s, p < tZ a 29 0 → s < j → tI b 87 0 (10 * p + 2) = Int32.ofNat s → (tI b 87 0 (10 * p) = 0 ∨ tI b 87 0 (10 * p) = 2) → tI b 70 0 p ≠ 0
def NoAsk (a b : TS) : Prop := ∀ p, p < tZ a 29 0 → tI b 87 0 (10 * p) ≠ 1
theorem send_70 {a a' b b' : TS} (hS : StpE EvS a b a' b') : ∀ p, tI b 70 0 p ≠ 0 → tI b' 70 0 p ≠ 0 := by
  intro p h
  refine hS (fun x y => tI y 70 0 p ≠ 0) (fun x y x' y' e h => ?_) h
  obtain ⟨sh, r, o, q, g, -, -, -, -, -, h70, -⟩ := e
  rw [h70]
  split
  · decide
  · exact h
theorem pos_ofn {k : Nat} (h0 : 0 < k) (h : k < 2 ^ 31) : ¬ Int32.ofNat k ≤ 0 := by
  intro q
  rw [Int32.le_iff_toInt_le, Int32.toInt_ofNat_of_lt h] at q
  have : (0 : Int32).toInt = 0 := rfl
  omega
set_option maxHeartbeats 1000000 in
theorem co_36 {a0 : TS} {w : Hp} {u T L n X dd : Nat} {t : List Int32} (hwt : WT w n t) (hX : X + 10 = T) : ∀ d j a b, j + d = tZ a 27 0 → IL a0 a b u T L t → TJb a b X T dd → AllS a b j → NoAsk a b →
    ∃ a' b', Ru 331 36 [(0, aR (some (96, 0))), (2, aR (some (101, 0))), (3, aI 1), (4, aI (Int32.ofNat j))] [] (enc 1 a w) = Ru 331 36 [(0, aR (some (96, 0))), (2, aR (some (101, 0))), (3, aI 1), (4, aI (Int32.ofNat (tZ a 27 0)))] [] (enc 1 a' w) ∧
      IL a0 a' b' u T L t ∧ TJb a' b' X T dd ∧ AllS a' b' (tZ a 27 0) ∧ NoAsk a' b' ∧ tZ a' 27 0 = tZ a 27 0 ∧ tZ a' 29 0 = tZ a 29 0 ∧ tI b' 95 0 6 = tI b 95 0 6
  | 0, j, a, b, e, hI, hJ, hA, hN => ⟨a, b, by rw [show j = tZ a 27 0 by omega], hI, hJ, by rw [show tZ a 27 0 = j by omega]; exact hA, hN, rfl, rfl, rfl⟩
  | d + 1, j, a, b, e, hI, hJ, hA, hN => by
    have hI' := hI
    obtain ⟨put, D, k, ⟨h1, h2, h3, h4⟩, hC, -, -, -, -, -, -, hTL, -, -⟩ := hI'
    have q1 := hTL.1.2.1
    have sS := hTL.2.1.2.1
    have g1 := tb_get (a := a) (i := 1) (x := 1) hwt rfl (by omega)
    rw [q1] at g1
    obtain ⟨m, a1, b1, hx, hm, hC1, hw1, hS, h87, hall, -⟩ := oc_sends hC (show j < tZ a 27 0 by omega)
    have hI1 := IL_sends hI hC1 hw1 hS
    have hJ1 := TJb_Ss (by omega) hS hJ
    obtain ⟨ca, cb⟩ := Fr_Ss hS
    have z27 : tZ a1 27 0 = tZ a 27 0 := dZ ca (S := [27]) (P := []) (s := 27) (by decide) (by simp) 0
    have z29 : tZ a1 29 0 = tZ a 29 0 := dZ ca (S := [29]) (P := []) (s := 29) (by decide) (by simp) 0
    have e6 : tI b1 95 0 6 = tI b 95 0 6 := dI cb (S := []) (P := [(95, 6)]) (s := 95) (k := 6) (by decide) (by simp) 0
    have hA1 : AllS a1 b1 (j + 1) := by
      intro p s hp hs hps hst
      rw [z29] at hp
      rw [h87] at hps hst
      by_cases es : s = j
      · subst es
        exact hall p hp hps hst
      · exact send_70 hS p (hA p s hp (by omega) hps hst)
    have hN1 : NoAsk a1 b1 := fun p hp => by rw [h87]; exact hN p (by omega)
    obtain ⟨a', b', r1, r2, r3, r4, r5, r6, r7, r8⟩ := co_36 hwt hX d (j + 1) a1 b1 (by omega) hI1 hJ1 hA1 hN1
    have hP := (r_P' hC.1.1).1
    refine ⟨a', b', ?_, r2, r3, by rw [← z27]; exact r4, r5, r6.trans z27, r7.trans z29, r8.trans e6⟩
    rw [lf_331_36, g1, Option.bind_some, if_neg (fun q => by have := (le_ofn (by omega) (by omega)).mp q; omega), if_neg (by decide), dn_5 hx, cI_v, if_neg (o_lt0 (by omega)), o_s, r1, z27]
/-- what the end is like -/
def EndL (a b : TS) : Prop := ∀ s, s < tZ a 27 0 → tZ a 19 s = 0 ∧ vQ b (2 * s) = [] ∧ vQ b (2 * s + 1) = []
theorem end_p {a b : TS} {D : Nat} {put : Nat → Int64} (hR : R0 a b) (hM : MonI a b D put) (hL : LIb a b) (hE : EndL a b) (hN : NoAsk a b) (hA : AllS a b (tZ a 27 0)) :
    (∀ p, p < tZ a 29 0 → (hI b p 8 ≠ 0 ↔ okG b p = true)) ∧ ∀ n, n < 1000 → hI b n 12 = 0 := by
  have hnk : ∀ s p, ¬ kpR (oKp a b) s p := by
    intro s p ⟨g, ⟨s', s1, s2⟩, _⟩
    unfold KM kL at s2
    rw [(hE s' s1).1] at s2
    exact List.not_mem_nil s2
  have np := LI_np hL
  have good : ∀ p, p < tZ a 29 0 → (tI b 87 0 (10 * p) = 0 ∨ tI b 87 0 (10 * p) = 2) → hI b p 8 ≠ 0 := by
    intro p hp h
    obtain ⟨-, -, -, ⟨s, s1, -, s3⟩, -⟩ := (r_P' hR).2.2.2.2.1 p hp
    have h70 := hA p s hp s1 s3 h
    rcases (LI_snt hL p hp h70).2 with q | q
    · exact q
    · exact absurd q (hnk 2 p)
  refine ⟨fun p hp => ⟨fun h => ?_, fun h => good p hp (of_decide_eq_true h)⟩, fun n hn => Decidable.byContradiction (fun h12 => ?_)⟩
  · exact decide_eq_true (LI_pst hL p (by omega) h).2.1
  · obtain ⟨m8, m9, m29, -⟩ := hM.1 n hn h12
    have hQ : RQ a b := hR.2.2.2.2.2.2.2.2.2.2.2.1
    obtain ⟨-, -, -, -, -, -, k, k5, q1, -⟩ := hQ.1 n m29
    have : k = 0 ∨ k = 1 ∨ k = 2 ∨ k = 3 ∨ k = 4 := by omega
    rcases this with e | e | e | e | e <;> subst e
    · exact good n m29 (Or.inl q1) m8
    · exact hN n m29 q1
    · exact good n m29 (Or.inr q1) m8
    · obtain ⟨j1, j2, -⟩ := LI_j1 hL n m29 (Or.inl q1)
      rcases LI_hld hL n hn h12 with z | z
      · exact j1 z
      · exact z j2
    · rcases LI_s4 hL n m29 q1 with z | z
      · exact z m9
      · exact hnk 1 n z
theorem q129e {a b : TS} {w : Hp} {C s : Nat} (h : Core a b C) (hs : s < tZ a 27 0) (hE : EndL a b) : (∃ v, Ex 129 [aR (some (96, 0)), aI (Int32.ofNat s), aI 3] (enc 1 a w) = some (.inl (some (aL v)), enc 1 a w) ∧ v = 0) ∧ (∃ v, Ex 129 [aR (some (96, 0)), aI (Int32.ofNat s), aI 4] (enc 1 a w) = some (.inl (some (aL v)), enc 1 a w) ∧ v = 0) ∧ (∃ v, Ex 129 [aR (some (96, 0)), aI (Int32.ofNat s), aI 5] (enc 1 a w) = some (.inl (some (aL v)), enc 1 a w) ∧ v = 0) := by
  obtain ⟨e1, e2, e3⟩ := hE s hs
  refine ⟨⟨_, x129 (m := 3) h hs (by simp), ?_⟩, ⟨_, x129 (m := 4) h hs (by simp), ?_⟩, ⟨_, x129 (m := 5) h hs (by simp), ?_⟩⟩
  · show (Int32.ofNat (tZ a 19 s)).toInt64 = 0
    rw [e1]; rfl
  · show (Int32.ofNat (vQ b (2 * s)).length).toInt64 = 0
    rw [e2]; rfl
  · show (Int32.ofNat (vQ b (2 * s + 1)).length).toInt64 = 0
    rw [e3]; rfl
theorem co_116 {a b : TS} {w : Hp} {C n : Nat} {t : List Int32} (h : Core a b C) (hwt : WT w n t) (h1 : t.getD 1 0 = Int32.ofNat (tZ a 27 0)) (h4 : tZ a 27 0 ≤ 4) (hE : EndL a b) : ∀ d j, j + d = tZ a 27 0 →
    Ru 331 116 [(0, aR (some (96, 0))), (2, aR (some (101, 0))), (3, aI 1), (4, aI (Int32.ofNat j))] [] (enc 1 a w) = Ru 331 179 [(0, aR (some (96, 0))), (2, aR (some (101, 0))), (3, aI 1), (4, aI 0)] [] (enc 1 a w)
  | 0, j, e => by
    have g1 := tb_get (a := a) (i := 1) (x := 1) hwt rfl (by omega)
    rw [h1] at g1
    rw [lf_331_116, g1, Option.bind_some, if_pos (by rw [show j = tZ a 27 0 by omega]; exact Int32.le_refl _)]
  | d + 1, j, e => by
    have g1 := tb_get (a := a) (i := 1) (x := 1) hwt rfl (by omega)
    rw [h1] at g1
    obtain ⟨⟨v3, f3, e3⟩, ⟨v4, f4, e4⟩, v5, f5, e5⟩ := q129e (w := w) h (show j < tZ a 27 0 by omega) hE
    rw [lf_331_116, g1, Option.bind_some, if_neg (fun q => by have := (le_ofn (by omega) (by omega)).mp q; omega), if_neg (by decide), f3, cL_v, if_pos (lgc_eq e3), f4, cL_v, if_pos (lgc_eq e4), f5, cL_v, if_pos (lgc_eq e5), o_s]
    exact co_116 h hwt h1 h4 hE d (j + 1) (by omega)
theorem co_179 {a b : TS} {w : Hp} {C n : Nat} {t : List Int32} (h : Core a b C) (hwt : WT w n t) (h3 : t.getD 3 0 = Int32.ofNat (tZ a 29 0)) (hnP : tZ a 29 0 ≤ 200) (hN : NoAsk a b) (h4 : t.getD 4 0 = 0 ∨ t.getD 4 0 = 1) (hP : t.getD 4 0 = 0 → (∀ p, p < tZ a 29 0 → (hI b p 8 ≠ 0 ↔ okG b p = true)) ∧ ∀ n, n < 1000 → hI b n 12 = 0) : ∀ d j, j + d = tZ a 29 0 →
    Ru 331 179 [(0, aR (some (96, 0))), (2, aR (some (101, 0))), (3, aI 1), (4, aI (Int32.ofNat j))] [] (enc 1 a w) = Ru 331 282 [(0, aR (some (96, 0))), (2, aR (some (101, 0))), (3, aI 1), (4, aI 0)] [] (enc 1 a w)
  | 0, j, e => by
    have g3 := tb_get (a := a) (i := 3) (x := 3) hwt rfl (by omega)
    rw [h3] at g3
    rw [lf_331_179, g3, Option.bind_some, if_pos (by rw [show j = tZ a 29 0 by omega]; exact Int32.le_refl _)]
  | d + 1, j, e => by
    have hp : j < tZ a 29 0 := by omega
    have g3 := tb_get (a := a) (i := 3) (x := 3) hwt rfl (by omega)
    rw [h3] at g3
    have g4 := tb_get (a := a) (i := 4) (x := 4) hwt rfl (by omega)
    have g26 := x326 (w := w) h hp
    have p0 := qp (w := w) (k := 0) (x := 0) h hp (by omega) rfl rfl
    rw [Nat.add_zero] at p0
    have k1 : Ex 321 [aR (some (96, 0)), aI 17, aI (Int32.ofNat j), aI 1, aI 0, aI 0] (enc 1 a w) = some (.inl (some (aI (hI b j 12))), enc 1 a w) := qk (k := 1) h (by omega) (by omega) rfl rfl
    have k2 : Ex 321 [aR (some (96, 0)), aI 17, aI (Int32.ofNat j), aI 2, aI 0, aI 0] (enc 1 a w) = some (.inl (some (aI (hI b j 8))), enc 1 a w) := qk (k := 2) h (by omega) (by omega) rfl rfl
    rw [lf_331_179, g3, Option.bind_some, if_neg (fun q => by have := (le_ofn (by omega) (by omega)).mp q; omega), if_neg (by decide), g26, cI_v, p0, cI_v, if_neg (hN j hp), g4, Option.bind_some]
    rw [← co_179 h hwt h3 hnP hN h4 hP d (j + 1) (by omega)]
    rcases h4 with e4 | e4
    · obtain ⟨z1, z2⟩ := hP e4
      have h12 := z2 j (by omega)
      rw [if_neg (by rw [e4]; decide), k2, cI_v]
      obtain ⟨b8, -⟩ := kn8 h.1.1 (show j < 1000 by omega)
      rcases b8 with e8 | e8
      · have eg : ¬ okG b j = true := fun q => ((z1 j hp).mpr q) e8
        rw [if_neg (by rw [e8]; decide), if_neg eg, if_pos rfl, g4, Option.bind_some, if_neg (by rw [e4]; decide), k1, cI_v, if_pos h12, o_s]
      · have eg : okG b j = true := (z1 j hp).mp (by rw [e8]; decide)
        rw [if_pos e8, if_pos eg, if_pos rfl, g4, Option.bind_some, if_neg (by rw [e4]; decide), k1, cI_v, if_pos h12, o_s]
    · rw [if_pos e4, Option.bind_some, if_pos e4, o_s]
/-- what is left of an account, as the law counts -/
def ctW (b : TS) (t k : Nat) : Int64 := if pac b k = Int32.ofNat t then (hI b k 16).toInt64 else 0
theorem co_313 {a b : TS} {w : Hp} {C n j : Nat} {t : List Int32} (h : Core a b C) (hwt : WT w n t) (h3 : t.getD 3 0 = Int32.ofNat (tZ a 29 0)) (hnP : tZ a 29 0 ≤ 200) (hj : j < 8) (h5 : tZ a 28 0 ≤ 5)
    (h20 : ∀ k, k < tZ a 28 0 → t.getD (20 + k) 0 = tI b 86 0 (10 * k + 9)) : ∀ d p v, p + d = tZ a 29 0 →
    Ru 331 313 [(0, aR (some (96, 0))), (2, aR (some (101, 0))), (4, aI (Int32.ofNat j)), (5, aL (v - S64 (ctW b j) p)), (7, aI (Int32.ofNat p))] [] (enc 1 a w) =
    Ru 331 313 [(0, aR (some (96, 0))), (2, aR (some (101, 0))), (4, aI (Int32.ofNat j)), (5, aL (v - S64 (ctW b j) (tZ a 29 0))), (7, aI (Int32.ofNat (tZ a 29 0)))] [] (enc 1 a w)
  | 0, p, v, e => by rw [show p = tZ a 29 0 by omega]
  | d + 1, p, v, e => by
    have g3 := tb_get (a := a) (i := 3) (x := 3) hwt rfl (by omega)
    rw [h3] at g3
    obtain ⟨k, k1, k2, k3⟩ := pay_card h.1.1 (show p < tZ a 29 0 by omega)
    have g1 := qp (w := w) (k := 1) (x := 1) h (show p < tZ a 29 0 by omega) (by omega) rfl rfl
    rw [k2] at g1
    have g20 := tb_get (a := a) (i := 20 + k) (x := (20 : Int32) + Int32.ofNat k) hwt (ix_add 20) (by omega)
    rw [h20 k k1] at g20
    have hpac : pac b p = tI b 86 0 (10 * k + 9) := pac_cd k2 k3
    have gk : Ex 321 [aR (some (96, 0)), aI 17, aI (Int32.ofNat p), aI 6, aI 0, aI 0] (enc 1 a w) = some (.inl (some (aI (hI b p 16))), enc 1 a w) := qk (k := 6) h (by omega) (by omega) rfl rfl
    rw [lf_331_313, g3, Option.bind_some, if_neg (fun q => by have := (le_ofn (by omega) (by omega)).mp q; omega), g1, cI_v, g20, Option.bind_some, o_s]
    rw [← co_313 h hwt h3 hnP hj h5 h20 d (p + 1) v (by omega)]
    have st : v - S64 (ctW b j) (p + 1) = v - S64 (ctW b j) p - ctW b j p := by
      show v - (S64 (ctW b j) p + ctW b j p) = _
      grind
    rw [st]
    unfold ctW
    rw [hpac]
    by_cases ej : tI b 86 0 (10 * k + 9) = Int32.ofNat j
    · rw [if_pos ej, gk, cI_v, if_pos ej]
    · rw [if_neg ej, if_neg ej]
set_option maxHeartbeats 1000000 in
theorem co_282 {a b : TS} {w : Hp} {C n D : Nat} {t : List Int32} {put : Nat → Int64} (h : Core a b C) (hwt : WT w n t) (hM : MonI a b D put) (h0 : t.getD 0 0 = Int32.ofNat (tZ a 26 0)) (h3 : t.getD 3 0 = Int32.ofNat (tZ a 29 0)) (h10 : ∀ u, u < tZ a 26 0 → put u = (t.getD (10 + u) 0).toInt64) (h8 : tZ a 26 0 ≤ 8) (h5 : tZ a 28 0 ≤ 5)
    (h20 : ∀ k, k < tZ a 28 0 → t.getD (20 + k) 0 = tI b 86 0 (10 * k + 9)) (hP : t.getD 4 0 = 0 → (∀ n, n < 1000 → hI b n 8 ≠ 0 → n < tZ a 29 0 ∧ hA b n 64 0 = tI b 87 0 (10 * n + 1)) ∧ ∀ n, n < 1000 → hI b n 12 = 0) : ∀ d j, j + d = tZ a 26 0 →
    Ru 331 282 [(0, aR (some (96, 0))), (2, aR (some (101, 0))), (3, aI 1), (4, aI (Int32.ofNat j))] [] (enc 1 a w) = some (.inl (some (aI 1)), enc 1 a w)
  | 0, j, e => by
    have g0 := tb_get (a := a) (i := 0) (x := 0) hwt rfl (by omega)
    rw [h0] at g0
    rw [lf_331_282, g0, Option.bind_some, if_pos (by rw [show j = tZ a 26 0 by omega]; exact Int32.le_refl _)]
    rfl
  | d + 1, j, e => by
    have hnP := (r_P' h.1.1).1
    have hj : j < tZ a 26 0 := by omega
    have g0 := tb_get (a := a) (i := 0) (x := 0) hwt rfl (by omega)
    rw [h0] at g0
    have g3 := tb_get (a := a) (i := 3) (x := 3) hwt rfl (by omega)
    rw [h3] at g3
    have g4 := tb_get (a := a) (i := 4) (x := 4) hwt rfl (by omega)
    have g10 := tb_get (a := a) (i := 10 + j) (x := (10 : Int32) + Int32.ofNat j) hwt (ix_add 10) (by omega)
    rw [lf_331_282, g0, Option.bind_some, if_neg (fun q => by have := (le_ofn (by omega) (by omega)).mp q; omega), if_neg (by decide), g4, Option.bind_some]
    by_cases e4 : t.getD 4 0 = 0
    · obtain ⟨z1, z2⟩ := hP e4
      have l313 := co_313 h hwt h3 hnP (show j < 8 by omega) h5 h20 (tZ a 29 0) 0 (t.getD (10 + j) 0).toInt64 (by omega)
      have z0 : S64 (ctW b j) 0 = 0 := rfl
      rw [z0, Int64.sub_zero] at l313
      rw [if_pos e4, g10, Option.bind_some]
      refine l313.trans ?_
      have a0 : Ex 128 [aR (some (96, 0)), aI (Int32.ofNat j), aI 0] (enc 1 a w) = some (.inl (some (aL (tL b 43 0 j))), enc 1 a w) := q128 (m := 0) h hj (by omega) rfl
      have a1 : Ex 128 [aR (some (96, 0)), aI (Int32.ofNat j), aI 1] (enc 1 a w) = some (.inl (some (aL (tL b 44 0 j))), enc 1 a w) := q128 (m := 1) h hj (by omega) rfl
      have e43 : tL b 43 0 j = (t.getD (10 + j) 0).toInt64 - S64 (ctW b j) (tZ a 29 0) := by
        have hb := hM.2.2.2.2.2.1 j hj
        have hs : S64 (ctL b j) 1000 = S64 (ctW b j) (tZ a 29 0) := by
          rw [S64_le (f := ctL b j) (m := tZ a 29 0) 1000 (by omega) (fun k k1 k2 => by
            unfold ctL
            have h8' : hI b k 8 = 0 := Decidable.byContradiction (fun q => by have := (z1 k k2 q).1; omega)
            rw [((hM.2.1 k k2).1 h8').2]
            split <;> rfl)]
          refine S64_eq _ (fun k hk => ?_)
          unfold ctL ctW
          by_cases e8 : hI b k 8 = 0
          · rw [((hM.2.1 k (by omega)).1 e8).2]
            have : (0 : Int32).toInt64 = 0 := rfl
            rw [this]
            simp
          · have : lac b k = pac b k := by
              unfold lac pac
              rw [(z1 k (by omega) e8).2]
            rw [this]
        rw [hs, h10 j hj] at hb
        rw [← hb]
        grind
      have e44 : tL b 44 0 j = 0 := by
        rw [← hM.2.2.2.1 j hj]
        exact S64_0 _ (fun k hk => ctH_old (z2 k hk))
      rw [lf_331_313, g3, Option.bind_some, if_pos (Int32.le_refl _), a0, cL_v, if_pos (lgc_eq e43), a1, cL_v, if_pos (lgc_eq e44), o_s]
      exact co_282 h hwt hM h0 h3 h10 h8 h5 h20 hP d (j + 1) (by omega)
    · rw [if_neg e4]
      rfl
