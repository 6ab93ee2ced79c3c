/-! ===== the law's look at all of it: payments and cards ===== -/
theorem kn8 {a b : TS} (hR : R0 a b) {n : Nat} (hn : n < 1000) : (hI b n 8 = 0 ∨ hI b n 8 = 1) ∧ ¬ hI b n 12 < 0 := by
  obtain ⟨⟨-, k0, -⟩, -, -, -, ⟨k8, -⟩⟩ := (r_K hR).2.2 n hn
  exact ⟨bit01 k8, k0⟩
/-- the thief's mark, as the law's table has it: what follows of it -/
def LIt (a b : TS) (t : List Int32) : Prop := t.getD 4 0 = 0 → ∀ n, n < 1000 → hI b n 8 ≠ 0 → n < tZ a 29 0 ∧ (tI b 87 0 (10 * n) = 0 ∨ tI b 87 0 (10 * n) = 2) ∧ tI b 70 0 n ≠ 0
theorem LIt_of {a b : TS} {t : List Int32} (h : LIc a b) (h4 : t.getD 4 0 = tI b 95 0 6) : LIt a b t := by
  intro w n hn h8
  have hL := h.2 (h4.symm.trans w)
  obtain ⟨x1, x2, x3, -⟩ := LI_pst hL n hn h8
  exact ⟨x1, x2, x3⟩
def psB (b : TS) (p : Nat) : Int32 := if okP b p = true then 1 else 0
theorem psB_0 {b : TS} {p : Nat} (h : hI b p 8 = 0) : psB b p = 0 := by
  unfold psB okP
  rw [if_neg (by simp [h])]
theorem psB_1 {b : TS} {p : Nat} (h : hI b p 8 ≠ 0) : psB b p = 1 := by
  unfold psB okP
  rw [if_pos (by simp [h])]
set_option maxHeartbeats 1000000 in
/-- from whether it is posted to the next payment -/
theorem hold_359 {a b : TS} {w : Hp} {C n D p : Nat} {v6 v7 : Int32} {t : List Int32} {put : Nat → Int64} (h : Core a b C) (hwt : WT w n t) (hM : MonI a b D put) (hD : D ≤ 1000) (hp : p < tZ a 29 0) (hnP : tZ a 29 0 ≤ 200) (hT : LIt a b t) :
    Ru 327 359 [(0, aR (some (96, 0))), (1, aR (some (101, 0))), (6, aI v6), (7, aI v7), (8, aI (Int32.ofNat p))] [aI (psB b p)] (enc 1 a w) =
    Ru 327 226 [(0, aR (some (96, 0))), (1, aR (some (101, 0))), (6, aI v6), (7, aI (v7 + psB b p)), (8, aI (Int32.ofNat (p + 1)))] [] (enc 1 a w) := by
  have pk : p < 1000 := by omega
  obtain ⟨b8, n12⟩ := kn8 h.1.1 pk
  have g1 : Ex 321 [aR (some (96, 0)), aI 17, aI (Int32.ofNat p), aI 1, aI 0, aI 0] (enc 1 a w) = some (.inl (some (aI (hI b p 12))), enc 1 a w) := qk (k := 1) h pk (by omega) rfl rfl
  have g3 : Ex 321 [aR (some (96, 0)), aI 17, aI (Int32.ofNat p), aI 3, aI 0, aI 0] (enc 1 a w) = some (.inl (some (aI (hI b p 9))), enc 1 a w) := qk (k := 3) h pk (by omega) rfl rfl
  have g7 : Ex 321 [aR (some (96, 0)), aI 17, aI (Int32.ofNat p), aI 7, aI 0, aI 0] (enc 1 a w) = some (.inl (some (aI (hI b p 15))), enc 1 a w) := qk (k := 7) h pk (by omega) rfl rfl
  have g9 := qp9 (w := w) h hp rfl
  have g26 := x326 (w := w) h hp
  have t4 := tb_get (a := a) (i := 4) (x := 4) hwt rfl (by omega)
  have one : psB b p = 0 ∨ psB b p = 1 := by unfold psB; split; exact Or.inr rfl; exact Or.inl rfl
  have s397 : Ru 327 359 [(0, aR (some (96, 0))), (1, aR (some (101, 0))), (6, aI v6), (7, aI v7), (8, aI (Int32.ofNat p))] [aI (psB b p)] (enc 1 a w) = Ru 327 397 [(0, aR (some (96, 0))), (1, aR (some (101, 0))), (6, aI v6), (7, aI v7), (8, aI (Int32.ofNat p)), (10, aI (psB b p))] [] (enc 1 a w) := by
    rw [lf_327_359, g1, cI_v]
    by_cases e : hI b p 12 = 0
    · rw [if_pos (by rw [e]; decide)]
    · obtain ⟨m8, m9, -, -⟩ := hM.1 p pk e
      rw [if_neg (fun q => e ((le0_iff n12).mp q))]
      have : psB b p = 0 := psB_0 m8
      rw [this, if_pos rfl, g3, cI_v, m9, if_neg (by decide)]
  have s435 : Ru 327 397 [(0, aR (some (96, 0))), (1, aR (some (101, 0))), (6, aI v6), (7, aI v7), (8, aI (Int32.ofNat p)), (10, aI (psB b p))] [] (enc 1 a w) = Ru 327 435 [(0, aR (some (96, 0))), (1, aR (some (101, 0))), (6, aI v6), (7, aI v7), (8, aI (Int32.ofNat p)), (10, aI (psB b p))] [] (enc 1 a w) := by
    rw [lf_327_397]
    by_cases e : psB b p = 0
    · rw [if_pos e]
    · rw [if_neg e, t4, Option.bind_some]
      by_cases e4 : t.getD 4 0 = 0
      · have h8 : hI b p 8 ≠ 0 := fun q => e (psB_0 q)
        obtain ⟨-, x2, x3⟩ := hT e4 p pk h8
        have hQ : RQ a b := h.1.1.2.2.2.2.2.2.2.2.2.2.2.1
        obtain ⟨-, -, -, -, -, b70, -⟩ := hQ.1 p hp
        have e70 : tI b 70 0 p = 1 := by
          rcases bit01 b70 with q | q
          · exact absurd q x3
          · exact q
        rw [if_pos e4, g26, cI_v, if_pos (show okG b p = true from decide_eq_true x2), if_neg (by decide), g9, cI_v, if_pos e70]
      · rw [if_neg e4]
  have hday : (hI b p 15 = -1) ↔ psB b p = 0 := by
    obtain ⟨m1, m2⟩ := hM.2.1 p pk
    by_cases e : hI b p 8 = 0
    · rw [psB_0 e]
      exact ⟨fun _ => rfl, fun _ => (m1 e).1⟩
    · rw [psB_1 e]
      obtain ⟨⟨d, d1, d2⟩, -⟩ := m2 e
      refine ⟨fun q => ?_, fun q => absurd q (by decide)⟩
      rw [d1] at q
      have := o_lt0 (n := d) (by omega)
      rw [q] at this
      exact absurd (by decide) this
  rw [s397, s435, lf_327_435]
  rcases one with e | e
  · rw [e, if_pos rfl, lf_327_447, if_pos rfl, lf_327_460, g7, cI_v, if_pos (hday.mpr e), lf_327_481, if_pos rfl, o_s]
  · rw [e, if_neg (by decide), lf_327_447, if_neg (by decide), lf_327_460, g7, cI_v, if_neg (fun q => by rw [hday.mp q] at e; exact absurd e (by decide)), lf_327_481, if_pos rfl, o_s]
theorem hold_226 {a b : TS} {w : Hp} {C n D : Nat} {t : List Int32} {put : Nat → Int64} (h : Core a b C) (hwt : WT w n t) (hM : MonI a b D put) (hD : D ≤ 1000) (h3 : t.getD 3 0 = Int32.ofNat (tZ a 29 0)) (hnP : tZ a 29 0 ≤ 200) (hT : LIt a b t) : ∀ d p, p + d = tZ a 29 0 →
    Ru 327 226 [(0, aR (some (96, 0))), (1, aR (some (101, 0))), (6, aI (Int32.ofNat (gG b p))), (7, aI (Int32.ofNat (gP b p))), (8, aI (Int32.ofNat p))] [] (enc 1 a w) =
    Ru 327 226 [(0, aR (some (96, 0))), (1, aR (some (101, 0))), (6, aI (Int32.ofNat (gG b (tZ a 29 0)))), (7, aI (Int32.ofNat (gP b (tZ a 29 0)))), (8, aI (Int32.ofNat (tZ a 29 0)))] [] (enc 1 a w)
  | 0, p, e => by rw [show p = tZ a 29 0 by omega]
  | d + 1, p, e => by
    have hp : p < tZ a 29 0 := by omega
    have g3 := tb_get (a := a) (i := 3) (x := 3) hwt rfl (by omega)
    rw [h3] at g3
    have p0 := qp (w := w) (k := 0) (x := 0) h hp (by omega) rfl rfl
    rw [Nat.add_zero] at p0
    have p1 := qp (w := w) (k := 1) (x := 1) h hp (by omega) rfl rfl
    have p2 := qp (w := w) (k := 2) (x := 2) h hp (by omega) rfl rfl
    have p3 := qp (w := w) (k := 3) (x := 3) h hp (by omega) rfl rfl
    have p4 := qp (w := w) (k := 4) (x := 4) h hp (by omega) rfl rfl
    have p5 := qp (w := w) (k := 5) (x := 5) h hp (by omega) rfl rfl
    have g26 := x326 (w := w) h hp
    have k2 : Ex 321 [aR (some (96, 0)), aI 17, aI (Int32.ofNat p), aI 2, aI 0, aI 0] (enc 1 a w) = some (.inl (some (aI (hI b p 8))), enc 1 a w) := qk (k := 2) h (by omega) (by omega) rfl rfl
    have hQ : RQ a b := h.1.1.2.2.2.2.2.2.2.2.2.2.2.1
    obtain ⟨-, -, -, -, -, -, n', n5, r1, -, -, r4⟩ := hQ.1 p hp
    obtain ⟨b8, -⟩ := kn8 h.1.1 (show p < 1000 by omega)
    have hst : (tI b 87 0 (10 * p) = 0) ↔ n' = 0 := by
      rw [r1]
      exact ⟨fun q => inj2 (p := n') (p' := 0) q (by omega) (by omega), fun q => by rw [q]; rfl⟩
    have hps : ∀ v6 v7, (if hI b p 8 = (1 : Int32) then Ru 327 359 [(0, aR (some (96, 0))), (1, aR (some (101, 0))), (6, aI v6), (7, aI v7), (8, aI (Int32.ofNat p))] [aI (1 : Int32)] (enc 1 a w) else Ru 327 359 [(0, aR (some (96, 0))), (1, aR (some (101, 0))), (6, aI v6), (7, aI v7), (8, aI (Int32.ofNat p))] [aI (0 : Int32)] (enc 1 a w)) = Ru 327 226 [(0, aR (some (96, 0))), (1, aR (some (101, 0))), (6, aI v6), (7, aI (v7 + psB b p)), (8, aI (Int32.ofNat (p + 1)))] [] (enc 1 a w) := by
      intro v6 v7
      rw [← hold_359 (v6 := v6) (v7 := v7) h hwt hM hD hp hnP hT]
      rcases b8 with q | q
      · rw [if_neg (by rw [q]; decide)]
        have : psB b p = 0 := psB_0 q
        rw [this]
      · rw [if_pos q]
        have : psB b p = 1 := psB_1 (by rw [q]; decide)
        rw [this]
    have hv7 : Int32.ofNat (gP b p) + psB b p = Int32.ofNat (gP b (p + 1)) := by
      rw [gP_s]
      unfold psB
      split
      · exact o_s _
      · exact Int32.add_zero _
    rw [← hold_226 h hwt hM hD h3 hnP hT d (p + 1) (by omega)]
    rw [lf_327_226, g3, Option.bind_some, if_neg (fun q => by have := (le_ofn (by omega) (by omega)).mp q; omega), p0, cI_v, g26, cI_v]
    by_cases eg : okG b p = true
    · rw [if_pos eg, if_neg (by decide), p5, cI_v, p1, cI_v, p4, cI_v, p3, cI_v, p2, cI_v]
      have hv6 : Int32.ofNat (gG b p) + 1 = Int32.ofNat (gG b (p + 1)) := by rw [gG_s, if_pos eg]; exact o_s _
      by_cases e0 : n' = 0
      · rw [if_pos (hst.mpr e0), x325, cI_v, if_pos (by rw [r4, if_pos e0]; rfl), k2, cI_v, hps, hv6, hv7]
      · rw [if_neg (fun q => e0 (hst.mp q)), x325, cI_v, if_pos (by rw [r4, if_neg e0]; rfl), k2, cI_v, hps, hv6, hv7]
    · rw [if_neg eg, if_pos rfl, p5, cI_v, p1, cI_v, p4, cI_v, p3, cI_v, p2, cI_v]
      have hv6 : Int32.ofNat (gG b p) + 0 = Int32.ofNat (gG b (p + 1)) := by rw [gG_s, if_neg eg]; exact Int32.add_zero _
      by_cases e0 : n' = 0
      · rw [if_pos (hst.mpr e0), x325, cI_v, if_pos (by rw [r4, if_pos e0]; rfl), k2, cI_v, hps, hv6, hv7]
      · rw [if_neg (fun q => e0 (hst.mp q)), x325, cI_v, if_pos (by rw [r4, if_neg e0]; rfl), k2, cI_v, hps, hv6, hv7]
theorem hold_525 {a b : TS} {w : Hp} {C n : Nat} {t : List Int32} (h : Core a b C) (hwt : WT w n t) (h2 : t.getD 2 0 = Int32.ofNat (tZ a 28 0)) (h5 : tZ a 28 0 ≤ 5) (h50 : ∀ k, k < tZ a 28 0 → t.getD (50 + k) 0 = tI b 86 0 (10 * k)) : ∀ d j, j + d = tZ a 28 0 →
    Ru 327 525 [(0, aR (some (96, 0))), (1, aR (some (101, 0))), (8, aI (Int32.ofNat j))] [] (enc 1 a w) = some (.inl (some (aI 1)), enc 1 a w)
  | 0, j, e => by
    have g2 := tb_get (a := a) (i := 2) (x := 2) hwt rfl (by omega)
    rw [h2] at g2
    rw [lf_327_525, g2, Option.bind_some, if_pos (by rw [show j = tZ a 28 0 by omega]; exact Int32.le_refl _)]
  | d + 1, j, e => by
    have hj : j < tZ a 28 0 := by omega
    have g2 := tb_get (a := a) (i := 2) (x := 2) hwt rfl (by omega)
    rw [h2] at g2
    have g50 := tb_get (a := a) (i := 50 + j) (x := (50 : Int32) + Int32.ofNat j) hwt (ix_add 50) (by omega)
    rw [h50 j hj] at g50
    have c0 := qc (w := w) (k := 0) (x := 0) h hj (by omega) rfl rfl
    rw [Nat.add_zero] at c0
    have c1 := qc (w := w) (k := 1) (x := 1) h hj (by omega) rfl rfl
    have c2 := qc (w := w) (k := 2) (x := 2) h hj (by omega) rfl rfl
    obtain ⟨-, -, -, -, -, -, -, ⟨-, hCd⟩, -⟩ := (h.1.1.2.2.2.2.2.2.2.2.1 : RD a b).1 j hj
    have n0 : ¬ tI b 86 0 (10 * j + 1) < 0 := by rcases hCd.1 with q | q | q | q <;> rw [q] <;> decide
    have n3 : ¬ (3 : Int32) < tI b 86 0 (10 * j + 1) := by rcases hCd.1 with q | q | q | q <;> rw [q] <;> decide
    have n5 : tI b 86 0 (10 * j + 2) ≤ (5 : Int32) := by rcases hCd.2 with q | q | q | q | q | q <;> rw [q] <;> decide
    rw [lf_327_525, g2, Option.bind_some, if_neg (fun q => by have := (le_ofn (by omega) (by omega)).mp q; omega), c0, cI_v, g50, Option.bind_some, if_pos rfl, c1, cI_v, if_neg n0, c1, cI_v, if_neg n3, c2, cI_v, if_pos n5, o_s]
    exact hold_525 h hwt h2 h5 h50 d (j + 1) (by omega)
set_option maxHeartbeats 2000000 in
/-- the law's look -/
theorem x327 {a0 a b : TS} {w : Hp} {u T L n : Nat} {t : List Int32} (h : IL a0 a b u T L t) (hwt : WT w n t) : Ex 327 [aR (some (96, 0)), aR (some (101, 0))] (enc 1 a w) = some (.inl (some (aI 1)), enc 1 a w) := by
  obtain ⟨put, D, k, ⟨h1, h2, h3, h4⟩, hC, hT, hM, hL, hK, hf, hF, hTL, hN, hW⟩ := h
  obtain ⟨⟨q0, q1, q2, q3, q4⟩, ⟨sA, sS, sC⟩, s3, s4, s5, s6⟩ := hTL
  have hR := hC.1.1
  have hnP := (r_P' hR).1
  have hLI := LIt_of (t := t) hL q4
  have f131 : Ex 131 [aR (some (96, 0))] (enc 1 a w) = some (.inl (some (aL (tL b 91 0 7))), enc 1 a w) := x131 hR
  have g0 := tb_get (a := a) (i := 0) (x := 0) hwt rfl (by omega)
  rw [q0] at g0
  have g1 := tb_get (a := a) (i := 1) (x := 1) hwt rfl (by omega)
  rw [q1] at g1
  have g3 := tb_get (a := a) (i := 3) (x := 3) hwt rfl (by omega)
  rw [q3] at g3
  have g4 := tb_get (a := a) (i := 4) (x := 4) hwt rfl (by omega)
  have n5 := qn (w := w) (m := 5) (x := 5) hC (by simp) rfl
  have n6 := qn (w := w) (m := 6) (x := 6) hC (by simp) rfl
  have l11 := hold_11 hC hwt hM q0 q3 s3 (by omega) (by omega) (fun k hk => (s4 k hk).1) (tZ a 26 0) 0 (by omega)
  have zA : S64 put 0 = 0 := rfl
  have zB : S64 (fun u => tL b 43 0 u) 0 = 0 := rfl
  rw [zA, zB, Int64.add_zero] at l11
  have l149 := hold_149 (v2 := S64 put (tZ a 26 0)) hC hwt q1 (by omega) hM.2.2.2.2.2.2.2.1 (tZ a 27 0) 0 (tL b 91 0 7 + S64 (fun u => tL b 43 0 u) (tZ a 26 0)) (by omega)
  have zC : S64 (fun s => tL b 45 0 s + tL b 46 0 s) 0 = 0 := rfl
  rw [zC, Int64.add_zero] at l149
  have l226 := hold_226 hC hwt hM (by omega) q3 hnP hLI (tZ a 29 0) 0 (by omega)
  have zD : gG b 0 = 0 := rfl
  have zE : gP b 0 = 0 := rfl
  rw [zD, zE] at l226
  have l525 := hold_525 hC hwt q2 (by omega) (fun k hk => (s4 k hk).2.2) (tZ a 28 0) 0 (by omega)
  have m5 : tL b 91 0 7 + S64 (fun u => tL b 43 0 u) (tZ a 26 0) + S64 (fun s => tL b 45 0 s + tL b 46 0 s) (tZ a 27 0) = tL b 91 0 8 := hM.2.2.2.2.1
  have c6 : cnV a b 6 = Int32.ofNat (gP b 1000) := hM.2.2.1.2
  have hle := posted_le hR
  have hG := gG_le b (tZ a 29 0)
  refine (X_sl (by decide +kernel) rfl).trans ((lf_327_0 ..).trans ?_)
  rw [f131, cL_v]
  refine l11.trans ?_
  rw [lf_327_11, g0, Option.bind_some, if_pos (Int32.le_refl _)]
  refine l149.trans ?_
  rw [lf_327_149, g1, Option.bind_some, if_pos (Int32.le_refl _), if_pos (lgc_eq (by rw [m5, s6])), n5, cI_v, g3, Option.bind_some, if_pos (show cnV a b 5 = Int32.ofNat (tZ a 29 0) from rfl)]
  refine l226.trans ?_
  rw [lf_327_226, g3, Option.bind_some, if_pos (Int32.le_refl _), n6, cI_v, c6, if_neg (fun q => by
    rw [Int32.lt_iff_toInt_lt, Int32.toInt_ofNat_of_lt (by omega), Int32.toInt_ofNat_of_lt (by omega)] at q
    omega), g4, Option.bind_some]
  by_cases e4 : t.getD 4 0 = 0
  · rw [if_pos e4, n6, cI_v, c6, if_pos ?_]
    · exact l525
    · have : gP b 1000 = gP b (tZ a 29 0) := by
        have key : ∀ d m, m + d = 1000 → tZ a 29 0 ≤ m → gP b 1000 = gP b m := by
          intro d
          induction d with
          | zero => intro m e _; rw [show m = 1000 by omega]
          | succ d ih =>
            intro m e hm
            rw [ih (m + 1) (by omega) (by omega), gP_s, if_neg (fun q => by
              have := (hLI e4 m (by omega) (of_decide_eq_true q)).1
              omega), Nat.add_zero]
        exact key (1000 - tZ a 29 0) (tZ a 29 0) (by omega) (Nat.le_refl _)
      rw [this]
  · rw [if_neg e4]
    exact l525
