/-! ===== the law's payments ===== -/
theorem qc {a b : TS} {w : Hp} {C cd k : Nat} {x y : Int32} (h : Core a b C) (hcd : cd < tZ a 28 0) (hk : k ≤ 6) (hx : x = Int32.ofNat k) (hy : y = Int32.ofNat cd) : Ex 321 [aR (some (96, 0)), aI 15, aI y, aI x, aI 0, aI 0] (enc 1 a w) = some (.inl (some (aI (tI b 86 0 (10 * cd + k)))), enc 1 a w) := by
  subst hx
  subst hy
  refine dn_15 (fun z => ?_)
  have := x125 (z := z) (m := k) h.1.1 hcd (by omega)
  rw [if_neg (by omega), if_neg (by omega)] at this
  exact this
theorem qp {a b : TS} {w : Hp} {C p k : Nat} {x y : Int32} (h : Core a b C) (hp : p < tZ a 29 0) (hk : k ≤ 8) (hx : x = Int32.ofNat k) (hy : y = Int32.ofNat p) : Ex 321 [aR (some (96, 0)), aI 16, aI y, aI x, aI 0, aI 0] (enc 1 a w) = some (.inl (some (aI (tI b 87 0 (10 * p + k)))), enc 1 a w) := by
  subst hx
  subst hy
  refine dn_16 (fun z => ?_)
  have := x126 (z := z) (m := k) h.1.1 hp (by omega)
  rw [if_neg (by omega)] at this
  exact this
theorem qp9 {a b : TS} {w : Hp} {C p : Nat} {y : Int32} (h : Core a b C) (hp : p < tZ a 29 0) (hy : y = Int32.ofNat p) : Ex 321 [aR (some (96, 0)), aI 16, aI y, aI 9, aI 0, aI 0] (enc 1 a w) = some (.inl (some (aI (tI b 70 0 p))), enc 1 a w) := by
  subst hy
  exact dn_16 (fun z => x126 (z := z) (m := 9) h.1.1 hp (by omega))
theorem qk {a b : TS} {w : Hp} {C n k : Nat} {x y : Int32} (h : Core a b C) (hn : n < 1000) (hk : k ≤ 7) (hx : x = Int32.ofNat k) (hy : y = Int32.ofNat n) : Ex 321 [aR (some (96, 0)), aI 17, aI y, aI x, aI 0, aI 0] (enc 1 a w) = some (.inl (some (aI (knV b n k))), enc 1 a w) := by
  subst hx
  subst hy
  exact dn_17 (fun z => x127 (z := z) h.1.1 hn hk)
theorem qn {a b : TS} {w : Hp} {C m : Nat} {x : Int32} (h : Core a b C) (hm : m = 0 ∨ m = 1 ∨ m = 5 ∨ m = 6 ∨ m = 8 ∨ m = 9) (hx : x = Int32.ofNat m) : Ex 130 [aR (some (96, 0)), aI x] (enc 1 a w) = some (.inl (some (aI (cnV a b m))), enc 1 a w) := by
  subst hx
  exact x130 h hm
/-- what the law's payment is due to answer, beside the card's own reason -/
theorem pay_end {a b : TS} {w : Hp} {C cd : Nat} {v2 : Option (Nat × Nat)} {pin x8 x9 : Int32} (h : Core a b C) (hcd : cd < tZ a 28 0) (hp : pin < 0 ↔ pin = -1) (e1 : tI b 86 0 (10 * cd + 1) = if pin = -1 then x8 else 3) (e2 : tI b 86 0 (10 * cd + 2) = if pin = -1 then x9 + 1 else 0) :
    Ru 328 444 [(0, aR (some (96, 0))), (3, aI (Int32.ofNat cd)), (7, aI pin), (8, aI x8), (9, aI x9)] [aI 1] (enc 1 a w) = some (.inl (some (aI 1)), enc 1 a w) := by
  have q1 := qc (w := w) (k := 1) (x := 1) h hcd (by omega) rfl rfl
  have q2 := qc (w := w) (k := 2) (x := 2) h hcd (by omega) rfl rfl
  rw [lf_328_444, if_neg (by decide), q2, cI_v]
  by_cases e : pin = -1
  · rw [if_pos (hp.mpr e), lf_328_474, if_pos (by rw [e2, if_pos e]), q1, cI_v, if_pos (hp.mpr e), if_pos (by rw [e1, if_pos e])]
  · rw [if_neg (fun q => e (hp.mp q)), lf_328_474, if_pos (by rw [e2, if_neg e]), q1, cI_v, if_neg (fun q => e (hp.mp q)), if_pos (by rw [e1, if_neg e])]
set_option maxHeartbeats 2000000 in
/-- a payment of the law's -/
theorem pays_136 {a0 a b : TS} {w : Hp} {u T L n cd sh m : Nat} {pin s0 : Int32} {t : List Int32} (h : IL a0 a b u T L t) (hu : u + 1 ≤ 71) (hwt : WT w n t) (hcd : cd < tZ a 28 0) (hsh : sh < tZ a 27 0) (hm : 1 ≤ m ∧ m ≤ 100000) (hpin : pin = -1 ∨ ∃ v, v ≤ 9999 ∧ pin = Int32.ofNat v)
    (hs0 : s0 = if tI b 86 0 (10 * cd + 5) = 1 then 1 else 0) :
    ∃ a' b' w' t', Ru 328 136 [(0, aR (some (96, 0))), (2, aR (some (101, 0))), (3, aI (Int32.ofNat cd)), (4, aI (Int32.ofNat sh)), (5, aI (Int32.ofNat m)), (7, aI pin), (8, aI (tI b 86 0 (10 * cd + 1))), (9, aI (tI b 86 0 (10 * cd + 2)))] [aI s0] (enc 1 a w) = some (.inl (some (aI 1)), enc 1 a' w') ∧
      IL a0 a' b' (u + 1) T L t' ∧ WT w' n t' ∧ w'.2 = w.2 ∧ tZ a 29 0 ≤ tZ a' 29 0 ∧ (tZ a 29 0 = 0 → pin = -1 → m ≤ 2500 → 0 < tZ a' 29 0) ∧ tI b' 95 0 6 = tI b 95 0 6 := by
  have hI := h
  obtain ⟨put, D, k, ⟨h1, h2, h3, h4⟩, hC, hT, hM, hL, hK, hf, hF, hTL, hN, hW⟩ := hI
  obtain ⟨⟨q0, q1, q2, q3, q4⟩, ⟨sA, sS, sC⟩, s3, s4, s5, s6⟩ := hTL
  obtain ⟨y1, ⟨y2, v0, v1, v2⟩, y3⟩ := s4 cd hcd
  have hR := hC.1.1
  have hlen := hwt.2.2.2
  obtain ⟨-, -, -, -, -, -, -, ⟨b5, hCd⟩, -⟩ := (hR.2.2.2.2.2.2.2.2.1 : RD a b).1 cd hcd
  have hpm : pin < 0 ↔ pin = -1 := by
    rcases hpin with e | ⟨v, v1, e⟩
    · subst e; exact ⟨fun _ => rfl, fun _ => by decide⟩
    · subst e
      refine ⟨fun q => absurd q (o_lt0 (by omega)), fun q => ?_⟩
      rw [q]; decide
  have e2 : inR (Int32.ofNat m) 1 100000 := by
    refine ⟨fun q => ?_, fun q => ?_⟩
    · rw [Int32.lt_iff_toInt_lt, Int32.toInt_ofNat_of_lt (by omega)] at q
      have : (1 : Int32).toInt = 1 := rfl
      omega
    · rw [Int32.lt_iff_toInt_lt, Int32.toInt_ofNat_of_lt (by omega)] at q
      have : (100000 : Int32).toInt = 100000 := rfl
      omega
  have e3 : inR pin (-1) 9999 := by
    rcases hpin with e | ⟨v, v1, e⟩
    · subst e; exact ⟨by decide, by decide⟩
    · subst e
      refine ⟨fun q => ?_, fun q => ?_⟩
      · rw [Int32.lt_iff_toInt_lt, Int32.toInt_ofNat_of_lt (by omega)] at q
        have : (-1 : Int32).toInt = -1 := rfl
        omega
      · rw [Int32.lt_iff_toInt_lt, Int32.toInt_ofNat_of_lt (by omega)] at q
        have : (9999 : Int32).toInt = 9999 := rfl
        omega
  have hb5 : tI b 86 0 (10 * cd + 5) = 0 ∨ tI b 86 0 (10 * cd + 5) = 1 := bit01 b5
  have m25 : (2500 < Int32.ofNat m) ↔ 2500 < m := by
    rw [Int32.lt_iff_toInt_lt, Int32.toInt_ofNat_of_lt (by omega)]
    have : (2500 : Int32).toInt = 2500 := rfl
    omega
  have gc : ∀ k x, k ≤ 6 → x = Int32.ofNat k → ∀ w, Ex 321 [aR (some (96, 0)), aI 15, aI (Int32.ofNat cd), aI x, aI 0, aI 0] (enc 1 a w) = some (.inl (some (aI (tI b 86 0 (10 * cd + k)))), enc 1 a w) := fun k x hk hx w => qc hC hcd hk hx rfl
  -- a refusal of the card's
  have refuse : ∀ (a' b' : TS) (r : Nat), 1 ≤ r → r ≤ 4 → IL a0 a' b' u T L t → Core a' b' u → tZ a' 28 0 = tZ a 28 0 → tI b' 86 0 (10 * cd) = tI b 86 0 (10 * cd) → tI b' 86 0 (10 * cd + 1) = tI b 86 0 (10 * cd + 1) - (if r = 3 then 1 else 0) →
      Ru 328 216 [(0, aR (some (96, 0))), (2, aR (some (101, 0))), (3, aI (Int32.ofNat cd)), (4, aI (Int32.ofNat sh)), (5, aI (Int32.ofNat m)), (7, aI pin), (8, aI (tI b 86 0 (10 * cd + 1))), (9, aI (tI b 86 0 (10 * cd + 2))), (11, aI (-(Int32.ofNat r)))] [aI (-(Int32.ofNat r))] (enc 1 a' w) = some (.inl (some (aI 1)), enc 1 a' w) := by
    intro a' b' r r1 r4 hI' hC' z28 e0 e1
    have g0 := qc (w := w) (k := 0) (x := 0) hC' (by rw [z28]; exact hcd) (by omega) rfl rfl
    have g1 := qc (w := w) (k := 1) (x := 1) hC' (by rw [z28]; exact hcd) (by omega) rfl rfl
    have neg : ¬ (0 : Int32) ≤ -(Int32.ofNat r) := by
      have : r = 1 ∨ r = 2 ∨ r = 3 ∨ r = 4 := by omega
      rcases this with e | e | e | e <;> subst e <;> decide
    have three : (-(Int32.ofNat r) = (-3 : Int32)) ↔ r = 3 := by
      have : r = 1 ∨ r = 2 ∨ r = 3 ∨ r = 4 := by omega
      rcases this with e | e | e | e <;> subst e <;> decide
    have t50 := tb_get (a := a') (i := 50 + cd) hwt (ix_add 50) (by omega)
    have fin : ∀ s, s = (if r = 3 then (1 : Int32) else 0) → Ru 328 254 [(0, aR (some (96, 0))), (2, aR (some (101, 0))), (3, aI (Int32.ofNat cd))] [aI s, aI (tI b 86 0 (10 * cd + 1)), aI (tI b' 86 0 (10 * cd + 1))] (enc 1 a' w) = some (.inl (some (aI 1)), enc 1 a' w) := by
      intro s hs
      rw [lf_328_254, if_pos (by rw [e1, hs]), g0, cI_v]
      have : (50 : Int32) + Int32.ofNat cd = Int32.ofNat 50 + Int32.ofNat cd := rfl
      rw [this, t50, Option.bind_some, if_pos (by show tI b' 86 0 (10 * cd) = _; rw [e0, y3])]
    rw [lf_328_216, if_neg neg, if_pos rfl, g1, cI_v]
    by_cases e : r = 3
    · rw [if_pos (three.mpr e)]
      exact fin 1 (by rw [if_pos e])
    · rw [if_neg (fun q => e (three.mp q))]
      exact fin 0 (by rw [if_neg e])
  -- what the law expects
  have due : ∀ (r : Nat) (a' : TS), (r ≤ 4 ∧ whyN (tI b 86 0 (10 * cd + 5)) (tI b 86 0 (10 * cd + 1)) (tI b 86 0 (10 * cd + 2)) (tI b 86 0 (10 * cd + 7)) (Int32.ofNat m) pin false = r) → ∀ v x2, (∀ w, Ex 321 [aR (some (96, 0)), aI 4, aI (Int32.ofNat cd), aI (Int32.ofNat sh), aI (Int32.ofNat m), aI pin] (enc 1 a w) = some (.inl (some (aI x2)), enc 1 a' w)) → v = (if r = 0 then (0 : Int32) else -(Int32.ofNat r)) →
      Ru 328 136 [(0, aR (some (96, 0))), (2, aR (some (101, 0))), (3, aI (Int32.ofNat cd)), (4, aI (Int32.ofNat sh)), (5, aI (Int32.ofNat m)), (7, aI pin), (8, aI (tI b 86 0 (10 * cd + 1))), (9, aI (tI b 86 0 (10 * cd + 2)))] [aI s0] (enc 1 a w) =
      Ru 328 216 [(0, aR (some (96, 0))), (2, aR (some (101, 0))), (3, aI (Int32.ofNat cd)), (4, aI (Int32.ofNat sh)), (5, aI (Int32.ofNat m)), (7, aI pin), (8, aI (tI b 86 0 (10 * cd + 1))), (9, aI (tI b 86 0 (10 * cd + 2))), (11, aI x2)] [aI v] (enc 1 a' w) := by
    intro r a' ⟨_, hr⟩ v x2 hx hv
    have t30 := tb_get (a := a') (i := 30 + cd) hwt (ix_add 30) (by omega)
    have t30' : gaI (enc 1 a' w) (some (101, 0)) 1000 ((30 : Int32) + Int32.ofNat cd) = some (t.getD (30 + cd) 0) := t30
    rw [lf_328_136, hx, cI_v]
    unfold whyN at hr
    rcases hb5 with d | d
    · rw [d] at hs0 hr
      rw [if_neg (by decide)] at hs0
      rw [if_pos rfl] at hr
      rw [hs0, if_pos rfl]
      by_cases e : pin = -1
      · rw [if_pos e] at hr
        rw [if_pos (hpm.mpr e)]
        by_cases e4 : 2500 < Int32.ofNat m
        · rw [if_pos e4] at hr
          rw [if_pos e4, lf_328_210, hv, ← hr]
          rfl
        · rw [if_neg e4] at hr
          rw [if_neg e4]
          by_cases e5 : tI b 86 0 (10 * cd + 2) = 5
          · rw [if_pos e5, lf_328_210, hv]
            rw [if_neg (by rw [e5]; decide)] at hr
            rw [← hr]
            rfl
          · rw [if_neg e5, hv]
            rw [if_pos (by
              rcases hCd.2 with z | z | z | z | z | z
              all_goals first
                | (rw [z]; decide)
                | exact absurd z e5)] at hr
            simp only [Bool.false_eq_true, if_false] at hr
            rw [← hr]
            rfl
      · rw [if_neg e] at hr
        rw [if_neg (fun q => e (hpm.mp q))]
        by_cases e7 : tI b 86 0 (10 * cd + 1) = 0
        · rw [if_neg (by rw [e7]; decide)] at hr
          rw [if_pos e7, hv, ← hr, e7]
          rfl
        · rw [if_pos (by
            rcases hCd.1 with z | z | z | z
            · exact absurd z e7
            all_goals (rw [z]; decide))] at hr
          rw [if_neg e7, t30', Option.bind_some, y2]
          by_cases ep : pin = tI b 86 0 (10 * cd + 7)
          · rw [if_pos ep] at hr
            simp only [Bool.false_eq_true, if_false] at hr
            rw [if_pos ep, hv, ← hr]
            rfl
          · rw [if_neg ep] at hr
            rw [if_neg ep, hv, ← hr]
            rfl
    · rw [d] at hs0 hr
      rw [if_pos rfl] at hs0
      rw [if_neg (by decide)] at hr
      rw [hs0, if_neg (by decide), hv, ← hr]
      rfl
  rcases oc_pay hC (by omega) hcd hsh e2 e3 with ⟨hy, a', b', hx, hC', hw', hP⟩ | ⟨hy, a', b', hx, hC', hw', ca, eb⟩ | ⟨r, hy, r0, r3, r4, hx⟩
  · have hIL := IL_pay h hu hlen hcd hsh hC' hw' hP
    have hP' := hP
    obtain ⟨c, c1, c2, z29, v87, ⟨n1, n2, n3, n4, n6⟩, ⟨w0, w1, w2⟩, w86, hwy, ca, cb, cb0⟩ := hP'
    have z28 : tZ a' 28 0 = tZ a 28 0 := dZ ca (S := [28]) (P := []) (s := 28) (by decide) (by simp) 0
    have d4 : ∀ w, Ex 321 [aR (some (96, 0)), aI 4, aI (Int32.ofNat cd), aI (Int32.ofNat sh), aI (Int32.ofNat m), aI pin] (enc 1 a w) = some (.inl (some (aI (Int32.ofNat (tZ a 29 0)))), enc 1 a' w) := fun w => dn_4 hx
    have hd := due 0 a' ⟨by omega, hy⟩ 0 _ d4 rfl
    obtain ⟨p1, W1, r1⟩ := tb_set (a := a') (i := 3) (x := 3) (v := Int32.ofNat (tZ a 29 0 + 1)) hwt rfl (by omega)
    obtain ⟨p2, W2, r2⟩ := tb_set (a := a') (i := 50 + cd) (x := (50 : Int32) + Int32.ofNat cd) (v := tI b' 86 0 (10 * cd)) W1 (ix_add 50) (by omega)
    have g3 := tb_get (a := a') (i := 3) (x := 3) hwt rfl (by omega)
    rw [q3] at g3
    have g50 := tb_get (a := a') (i := 50 + cd) (x := (50 : Int32) + Int32.ofNat cd) W1 (ix_add 50) (by omega)
    rw [getD_set (by omega), if_neg (by omega), y3] at g50
    have g50' := tb_get (a := a') (i := 50 + cd) (x := (50 : Int32) + Int32.ofNat cd) W2 (ix_add 50) (by omega)
    rw [getD_set (by rw [List.length_set]; omega), if_pos rfl] at g50'
    have g40 := tb_get (a := a') (i := 40 + sh) (x := (40 : Int32) + Int32.ofNat sh) W2 (ix_add 40) (by omega)
    rw [getD_set (by rw [List.length_set]; omega), if_neg (by omega), getD_set (by omega), if_neg (by omega), s5 sh hsh] at g40
    have hp' : tZ a 29 0 < tZ a' 29 0 := by omega
    generalize hw2 : hS (hS w (101, 0) (1000, (t.set 3 (Int32.ofNat (tZ a 29 0 + 1))).map aI)) (101, 0) (1000, ((t.set 3 (Int32.ofNat (tZ a 29 0 + 1))).set (50 + cd) (tI b' 86 0 (10 * cd))).map aI) = W at *
    have gp : ∀ k x, k ≤ 8 → x = Int32.ofNat k → Ex 321 [aR (some (96, 0)), aI 16, aI (Int32.ofNat (tZ a 29 0)), aI x, aI 0, aI 0] (enc 1 a' W) = some (.inl (some (aI (tI b' 87 0 (10 * tZ a 29 0 + k)))), enc 1 a' W) := fun k x hk hx => qp hC' hp' hk hx rfl
    have g0 := gp 0 0 (by omega) rfl
    rw [Nat.add_zero] at g0
    have g1 := gp 1 1 (by omega) rfl
    have g2 := gp 2 2 (by omega) rfl
    have g3' := gp 3 3 (by omega) rfl
    have g4 := gp 4 4 (by omega) rfl
    have g6 := gp 6 6 (by omega) rfl
    have gn := qn (w := W) (m := 0) (x := 0) hC' (by simp) rfl
    rw [n1] at g1
    rw [n2] at g2
    rw [n3] at g3'
    rw [n4] at g4
    rw [n6] at g6
    rw [w0] at g50'
    have e951 : tI b' 95 0 1 = tI b 95 0 1 := dI cb (S := []) (P := [(95, 1)]) (s := 95) (k := 1) (by decide) (by simp) 0
    have hend := pay_end (w := W) (v2 := some (101, 0)) hC' (by rw [z28]; exact hcd) hpm w1 w2
    have h352 : Ru 328 352 [(0, aR (some (96, 0))), (2, aR (some (101, 0))), (3, aI (Int32.ofNat cd)), (4, aI (Int32.ofNat sh)), (5, aI (Int32.ofNat m)), (7, aI pin), (8, aI (tI b 86 0 (10 * cd + 1))), (9, aI (tI b 86 0 (10 * cd + 2))), (11, aI (Int32.ofNat (tZ a 29 0)))] [] (enc 1 a' W) = some (.inl (some (aI 1)), enc 1 a' W) := by
      rw [lf_328_352, g1, cI_v, if_pos rfl, g2, cI_v, if_pos rfl, g3', cI_v, if_pos rfl, g4, cI_v, g50', Option.bind_some, if_pos rfl, g6, cI_v, gn, cI_v, if_pos (by unfold cnV; rw [if_pos rfl, e951])]
      exact hend
    refine ⟨a', b', W, _, ?_, hIL, W2, by rw [← hw2]; rfl, by omega, fun _ _ _ => by omega, dI cb (S := []) (P := [(95, 6)]) (s := 95) (k := 6) (by decide) (by simp) 0⟩
    rw [hd, lf_328_216, if_pos (by decide), g3, Option.bind_some, if_pos rfl, Option.bind_some, o_s, p1, Option.bind_some, g50, Option.bind_some, c1, ← w0, p2, Option.bind_some, g0, cI_v]
    show (if tI b' 87 0 (10 * tZ a 29 0) = 0 then _ else _) = _
    rcases hwy with ⟨e, efl, -⟩ | ⟨e, -⟩
    · rw [if_pos e, lf_328_334, if_neg (by show ¬ tI b' 87 0 (10 * tZ a 29 0) = 1; rw [e]; decide), g40, Option.bind_some]
      have e88 : tI b' 88 0 sh = tI b 88 0 sh := dIS cb (S := [88]) (P := []) (s := 88) (by decide) (by simp) 0 sh
      rw [if_neg efl]
      exact h352
    · rw [if_neg (by rw [e]; decide), if_pos e, lf_328_334, if_pos e]
      exact h352
  · have hIL := IL_pin h hcd hC' hw' ca eb
    have z28 : tZ a' 28 0 = tZ a 28 0 := dZ ca (S := [28]) (P := []) (s := 28) (by decide) (by simp) 0
    have z29 : tZ a' 29 0 = tZ a 29 0 := dZ ca (S := [29]) (P := []) (s := 29) (by decide) (by simp) 0
    have v86 : ∀ j, tI b' 86 0 j = if j = 10 * cd + 1 then tI b 86 0 (10 * cd + 1) + -1 else tI b 86 0 j := fun j => by
      rw [eb, tI_sI]
      by_cases e : j = 10 * cd + 1
      · rw [if_pos ⟨rfl, rfl, e⟩, if_pos e]
      · rw [if_neg (fun q => e q.2.2), if_neg e]
    have d4 : ∀ w, Ex 321 [aR (some (96, 0)), aI 4, aI (Int32.ofNat cd), aI (Int32.ofNat sh), aI (Int32.ofNat m), aI pin] (enc 1 a w) = some (.inl (some (aI (-3))), enc 1 a' w) := fun w => dn_4 hx
    have hd := due 3 a' ⟨by omega, hy⟩ (-3) _ d4 rfl
    refine ⟨a', b', w, t, hd.trans (refuse a' b' 3 (by omega) (by omega) hIL hC' z28 (by rw [v86, if_neg (by omega)]) ?_), IL_u hIL hu, hwt, rfl, by omega, fun z e _ => ?_, ?_⟩
    · rw [v86, if_pos rfl, if_pos rfl]
      rcases hCd.1 with z | z | z | z <;> rw [z] <;> decide
    · exfalso
      unfold whyN at hy
      rw [(hN z cd hcd).2, if_pos rfl, if_pos e] at hy
      revert hy
      repeat' split
      all_goals decide
    · rw [eb, tI_sI, if_neg (fun q => by omega)]
  · have d4 : ∀ w, Ex 321 [aR (some (96, 0)), aI 4, aI (Int32.ofNat cd), aI (Int32.ofNat sh), aI (Int32.ofNat m), aI pin] (enc 1 a w) = some (.inl (some (aI (-(Int32.ofNat r)))), enc 1 a w) := fun w => dn_4 hx
    have hd := due r a ⟨r4, hy⟩ (-(Int32.ofNat r)) _ d4 (by rw [if_neg r0])
    refine ⟨a, b, w, t, hd.trans (refuse a b r (by omega) r4 h hC rfl rfl (by rw [if_neg r3]; exact (Int32.sub_zero _).symm)), IL_u h hu, hwt, rfl, Nat.le_refl _, fun z e e25 => ?_, rfl⟩
    exfalso
    unfold whyN at hy
    rw [(hN z cd hcd).1, (hN z cd hcd).2, if_pos rfl, if_pos e, if_neg (fun q => by have := m25.mp q; omega), if_pos (by decide)] at hy
    simp only [Bool.false_eq_true, if_false] at hy
    exact r0 hy.symm
