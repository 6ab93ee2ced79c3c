/-! ===== the law's look at all of it ===== -/
def okG (b : TS) (p : Nat) : Bool := decide (tI b 87 0 (10 * p) = 0 ∨ tI b 87 0 (10 * p) = 2)
def okP (b : TS) (p : Nat) : Bool := decide (hI b p 8 ≠ 0)
def gG (b : TS) (n : Nat) : Nat := (List.range n).countP (okG b)
def gP (b : TS) (n : Nat) : Nat := (List.range n).countP (okP b)
theorem gG_s (b : TS) (n : Nat) : gG b (n + 1) = gG b n + (if okG b n = true then 1 else 0) := by
  unfold gG
  rw [List.range_succ, List.countP_append, List.countP_singleton]
theorem gP_s (b : TS) (n : Nat) : gP b (n + 1) = gP b n + (if okP b n = true then 1 else 0) := by
  unfold gP
  rw [List.range_succ, List.countP_append, List.countP_singleton]
theorem gG_le (b : TS) (n : Nat) : gG b n ≤ n := by
  unfold gG
  have := List.countP_le_length (p := okG b) (l := List.range n)
  rw [List.length_range] at this
  exact this
theorem gP_le (b : TS) (n : Nat) : gP b n ≤ n := by
  unfold gP
  have := List.countP_le_length (p := okP b) (l := List.range n)
  rw [List.length_range] at this
  exact this
/-- no more is posted than was granted -/
theorem posted_le {a b : TS} (hR : R0 a b) : gP b 1000 ≤ gG b (tZ a 29 0) := by
  have hZ := (r_Z hR).2
  have hex : ∀ n, ∃ p, n < 1000 → okP b n = true → p < tZ a 29 0 ∧ hA b n 64 0 = tI b 87 0 (10 * p + 1) ∧ hA b n 64 1 = tI b 87 0 (10 * p + 4) ∧ okG b p = true := by
    intro n
    by_cases h : n < 1000 ∧ okP b n = true
    · have h8 : hI b n 8 ≠ 0 := of_decide_eq_true h.2
      obtain ⟨p, p1, p2, p3, -, -, p6, -⟩ := hZ n h.1 h8
      exact ⟨p, fun _ _ => ⟨p1, p2, p3, decide_eq_true p6⟩⟩
    · exact ⟨0, fun h1 h2 => absurd ⟨h1, h2⟩ h⟩
  refine cnt_inj (P := okP b) (Q := okG b) (M := tZ a 29 0) (fun n => Classical.choose (hex n)) 1000 (fun n hn hp => ?_) (fun n n' hn hn' hp hp' e => ?_)
  · obtain ⟨x1, -, -, x4⟩ := Classical.choose_spec (hex n) hn hp
    exact ⟨x1, x4⟩
  · obtain ⟨-, x2, x3, -⟩ := Classical.choose_spec (hex n) hn hp
    obtain ⟨-, y2, y3, -⟩ := Classical.choose_spec (hex n') hn' hp'
    have e : Classical.choose (hex n) = Classical.choose (hex n') := e
    rw [e] at x2 x3
    have h8 : hI b n 8 ≠ 0 := of_decide_eq_true hp
    have h8' : hI b n' 8 ≠ 0 := of_decide_eq_true hp'
    obtain ⟨cd, c, c1, c2, c3, c4, c5⟩ := ro_at hR hn h8
    obtain ⟨cd', c', d1, d2, d3, d4, d5⟩ := ro_at hR hn' h8'
    have hC := (r_C hR).1
    have e1 := inj2 (c3.symm.trans (x2.trans (y2.symm.trans d3))) (by omega) (by omega)
    have e2 := inj2 (c4.symm.trans (x3.trans (y3.symm.trans d4))) (by omega) (by omega)
    subst e1
    subst e2
    have := o_inj (by omega) (by omega) (c5.symm.trans d5)
    omega
theorem x326 {a b : TS} {w : Hp} {C p : Nat} (h : Core a b C) (hp : p < tZ a 29 0) : Ex 326 [aR (some (96, 0)), aI (Int32.ofNat p)] (enc 1 a w) = some (.inl (some (aI (if okG b p = true then 1 else 0))), enc 1 a w) := by
  have q := qp (w := w) (k := 0) (x := 0) h hp (by omega) rfl rfl
  rw [Nat.add_zero] at q
  refine (X_sl (by decide +kernel) rfl).trans ((lf_326_0 ..).trans ?_)
  rw [q, cI_v]
  unfold okG
  by_cases e0 : tI b 87 0 (10 * p) = 0
  · rw [if_pos e0, if_pos (decide_eq_true (Or.inl e0))]
  · rw [if_neg e0]
    by_cases e2 : tI b 87 0 (10 * p) = 2
    · rw [if_pos e2, if_pos (decide_eq_true (Or.inr e2))]
    · rw [if_neg e2, if_neg (fun q => by
        rcases of_decide_eq_true q with z | z
        · exact e0 z
        · exact e2 z)]
theorem q128 {a b : TS} {w : Hp} {C t m : Nat} {x : Int32} (h : Core a b C) (ht : t < tZ a 26 0) (hm : m ≤ 2) (hx : x = Int32.ofNat m) : Ex 128 [aR (some (96, 0)), aI (Int32.ofNat t), aI x] (enc 1 a w) = some (.inl (some (aL (acV b t m))), enc 1 a w) := by
  subst hx
  exact x128 h.1.1 ht hm
/-- what the law adds of a payment's hold -/
theorem hold_48 {a b : TS} {w : Hp} {C n j : Nat} {t : List Int32} {v2 v4 : Int64} (h : Core a b C) (hwt : WT w n t) (h3 : t.getD 3 0 = Int32.ofNat (tZ a 29 0)) (hnP : tZ a 29 0 ≤ 200) (hj : j < tZ a 26 0) (h8 : tZ a 26 0 ≤ 8) (h5 : tZ a 28 0 ≤ 5)
    (h20 : ∀ k, k < tZ a 28 0 → t.getD (20 + k) 0 = tI b 86 0 (10 * k + 9)) (hA : ∀ p, p < 1000 → MaA a b p) : ∀ d p, p + d = tZ a 29 0 →
    Ru 327 48 [(0, aR (some (96, 0))), (1, aR (some (101, 0))), (2, aL v2), (4, aL v4), (6, aI (Int32.ofNat j)), (7, aL (S64 (ctH b j) p)), (9, aI (Int32.ofNat p))] [] (enc 1 a w) =
    Ru 327 48 [(0, aR (some (96, 0))), (1, aR (some (101, 0))), (2, aL v2), (4, aL v4), (6, aI (Int32.ofNat j)), (7, aL (S64 (ctH b j) (tZ a 29 0))), (9, aI (Int32.ofNat (tZ a 29 0)))] [] (enc 1 a w)
  | 0, p, e => by rw [show p = tZ a 29 0 by omega]
  | d + 1, p, e => by
    have g3 := tb_get (a := a) (i := 3) (x := 3) hwt rfl (by omega)
    rw [h3] at g3
    obtain ⟨k, k1, k2, k3⟩ := pay_card h.1.1 (show p < tZ a 29 0 by omega)
    have g1 := qp (w := w) (k := 1) (x := 1) h (show p < tZ a 29 0 by omega) (by omega) rfl rfl
    rw [k2] at g1
    have g20 := tb_get (a := a) (i := 20 + k) (x := (20 : Int32) + Int32.ofNat k) hwt (ix_add 20) (by omega)
    rw [h20 k k1] at g20
    have hpac : pac b p = tI b 86 0 (10 * k + 9) := pac_cd k2 k3
    have gk : Ex 321 [aR (some (96, 0)), aI 17, aI (Int32.ofNat p), aI 1, aI 0, aI 0] (enc 1 a w) = some (.inl (some (aI (hI b p 12))), enc 1 a w) := qk (k := 1) h (by omega) (by omega) rfl rfl
    rw [lf_327_48, g3, Option.bind_some, if_neg (fun q => by have := (le_ofn (by omega) (by omega)).mp q; omega), g1, cI_v, g20, Option.bind_some, o_s]
    rw [← hold_48 h hwt h3 hnP hj h8 h5 h20 hA d (p + 1) (by omega)]
    have st : S64 (ctH b j) (p + 1) = S64 (ctH b j) p + ctH b j p := rfl
    rw [st]
    have hcase : ctH b j p = if tI b 86 0 (10 * k + 9) = Int32.ofNat j then (hI b p 12).toInt64 else 0 := by
      unfold ctH
      by_cases e12 : hI b p 12 = 0
      · rw [if_pos e12, e12]
        split <;> rfl
      · rw [if_neg e12, (hA p (by omega) e12).2.2.2, hpac]
    rw [hcase]
    by_cases ej : tI b 86 0 (10 * k + 9) = Int32.ofNat j
    · rw [if_pos ej, gk, cI_v, if_pos ej]
    · rw [if_neg ej, if_neg ej]
set_option maxHeartbeats 2000000 in
theorem hold_11 {a b : TS} {w : Hp} {C n D : Nat} {t : List Int32} {put : Nat → Int64} (h : Core a b C) (hwt : WT w n t) (hM : MonI a b D put) (h0 : t.getD 0 0 = Int32.ofNat (tZ a 26 0)) (h3 : t.getD 3 0 = Int32.ofNat (tZ a 29 0)) (h10 : ∀ u, u < tZ a 26 0 → put u = (t.getD (10 + u) 0).toInt64) (h8 : tZ a 26 0 ≤ 8) (h5 : tZ a 28 0 ≤ 5)
    (h20 : ∀ k, k < tZ a 28 0 → t.getD (20 + k) 0 = tI b 86 0 (10 * k + 9)) : ∀ d j, j + d = tZ a 26 0 →
    Ru 327 11 [(0, aR (some (96, 0))), (1, aR (some (101, 0))), (2, aL (S64 put j)), (4, aL (tL b 91 0 7 + S64 (fun u => tL b 43 0 u) j)), (6, aI (Int32.ofNat j))] [] (enc 1 a w) =
    Ru 327 11 [(0, aR (some (96, 0))), (1, aR (some (101, 0))), (2, aL (S64 put (tZ a 26 0))), (4, aL (tL b 91 0 7 + S64 (fun u => tL b 43 0 u) (tZ a 26 0))), (6, aI (Int32.ofNat (tZ a 26 0)))] [] (enc 1 a w)
  | 0, j, e => by rw [show j = tZ a 26 0 by omega]
  | d + 1, j, e => by
    have hnP := (r_P' h.1.1).1
    have g0 := tb_get (a := a) (i := 0) (x := 0) hwt rfl (by omega)
    rw [h0] at g0
    have g10 := tb_get (a := a) (i := 10 + j) (x := (10 : Int32) + Int32.ofNat j) hwt (ix_add 10) (by omega)
    have g3 := tb_get (a := a) (i := 3) (x := 3) hwt rfl (by omega)
    rw [h3] at g3
    have hj : j < tZ a 26 0 := by omega
    have a0 : Ex 128 [aR (some (96, 0)), aI (Int32.ofNat j), aI 0] (enc 1 a w) = some (.inl (some (aL (tL b 43 0 j))), enc 1 a w) := q128 (m := 0) h hj (by omega) rfl
    have a1 : Ex 128 [aR (some (96, 0)), aI (Int32.ofNat j), aI 1] (enc 1 a w) = some (.inl (some (aL (tL b 44 0 j))), enc 1 a w) := q128 (m := 1) h hj (by omega) rfl
    have a2 : Ex 128 [aR (some (96, 0)), aI (Int32.ofNat j), aI 2] (enc 1 a w) = some (.inl (some (aL (tL b 43 0 j - tL b 44 0 j))), enc 1 a w) := q128 (m := 2) h hj (by omega) rfl
    have hsum : S64 (ctH b j) (tZ a 29 0) = tL b 44 0 j := by
      rw [← hM.2.2.2.1 j hj]
      refine (S64_le 1000 (by omega) (fun k k1 k2 => ?_)).symm
      unfold ctH
      by_cases e12 : hI b k 12 = 0
      · rw [if_pos e12]
      · have := (hM.1 k k2 e12).2.2.1
        omega
    have l48 := hold_48 (v2 := S64 put j + (t.getD (10 + j) 0).toInt64) (v4 := tL b 91 0 7 + S64 (fun u => tL b 43 0 u) j + tL b 43 0 j) h hwt h3 hnP hj h8 h5 h20 hM.1 (tZ a 29 0) 0 (by omega)
    have z0 : S64 (ctH b j) 0 = 0 := rfl
    rw [z0] at l48
    rw [lf_327_11, g0, Option.bind_some, if_neg (fun q => by have := (le_ofn (by omega) (by omega)).mp q; omega), g10, Option.bind_some, a0, cL_v]
    refine l48.trans ?_
    rw [lf_327_48, g3, Option.bind_some, if_pos (Int32.le_refl _), a1, cL_v, if_pos (lgc_eq hsum.symm), a2, cL_v, a0, cL_v, if_pos (lgc_eq (by rw [hsum])), o_s]
    rw [← hold_11 h hwt hM h0 h3 h10 h8 h5 h20 d (j + 1) (by omega)]
    have s1 : S64 put (j + 1) = S64 put j + (t.getD (10 + j) 0).toInt64 := by
      show S64 put j + put j = _
      rw [h10 j hj]
    have s2 : tL b 91 0 7 + S64 (fun u => tL b 43 0 u) (j + 1) = tL b 91 0 7 + S64 (fun u => tL b 43 0 u) j + tL b 43 0 j := by
      show tL b 91 0 7 + (S64 (fun u => tL b 43 0 u) j + tL b 43 0 j) = _
      rw [Int64.add_assoc]
    rw [s1, s2]
theorem hold_149 {a b : TS} {w : Hp} {C n : Nat} {t : List Int32} {v2 : Int64} (h : Core a b C) (hwt : WT w n t) (h1 : t.getD 1 0 = Int32.ofNat (tZ a 27 0)) (h4 : tZ a 27 0 ≤ 4) (hg : ∀ s, s < tZ a 27 0 → 0 ≤ (tL b 45 0 s).toInt) : ∀ d j v4, j + d = tZ a 27 0 →
    Ru 327 149 [(0, aR (some (96, 0))), (1, aR (some (101, 0))), (2, aL v2), (4, aL (v4 + S64 (fun s => tL b 45 0 s + tL b 46 0 s) j)), (6, aI (Int32.ofNat j))] [] (enc 1 a w) =
    Ru 327 149 [(0, aR (some (96, 0))), (1, aR (some (101, 0))), (2, aL v2), (4, aL (v4 + S64 (fun s => tL b 45 0 s + tL b 46 0 s) (tZ a 27 0))), (6, aI (Int32.ofNat (tZ a 27 0)))] [] (enc 1 a w)
  | 0, j, v4, e => by rw [show j = tZ a 27 0 by omega]
  | d + 1, j, v4, e => by
    have g1 := tb_get (a := a) (i := 1) (x := 1) hwt rfl (by omega)
    rw [h1] at g1
    have q0 := q129 (w := w) (m := 0) (x := 0) h (show j < tZ a 27 0 by omega) (by simp) rfl
    have q1 := q129 (w := w) (m := 1) (x := 1) h (show j < tZ a 27 0 by omega) (by simp) rfl
    rw [if_pos rfl] at q0
    rw [if_neg (by omega)] at q1
    have st : v4 + S64 (fun s => tL b 45 0 s + tL b 46 0 s) (j + 1) = v4 + S64 (fun s => tL b 45 0 s + tL b 46 0 s) j + (tL b 45 0 j + tL b 46 0 j) := by
      show v4 + (S64 (fun s => tL b 45 0 s + tL b 46 0 s) j + (tL b 45 0 j + tL b 46 0 j)) = _
      rw [Int64.add_assoc]
    rw [lf_327_149, g1, Option.bind_some, if_neg (fun q => by have := (le_ofn (by omega) (by omega)).mp q; omega), q0, cL_v, q1, cL_v, q0, cL_v, if_pos (lgc_ge0 (hg j (by omega))), o_s]
    rw [← hold_149 h hwt h1 h4 hg d (j + 1) v4 (by omega), st]
