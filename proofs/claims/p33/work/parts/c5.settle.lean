/-! ===== money: a shop settles ===== -/
theorem lgc0 (y : Int64) : lg_cmp y 0 ≤ 0 ↔ y.toInt ≤ 0 := by
  have z : (0 : Int64).toInt = 0 := rfl
  unfold lg_cmp
  by_cases h : y > 0
  · rw [if_pos h]
    have h : (0 : Int64) < y := h
    rw [Int64.lt_iff_toInt_lt, z] at h
    exact ⟨fun q => absurd q (by decide), fun _ => by omega⟩
  · rw [if_neg h]
    have h : ¬ (0 : Int64) < y := h
    rw [Int64.lt_iff_toInt_lt, z] at h
    refine ⟨fun _ => by omega, fun _ => ?_⟩
    split <;> decide
theorem i64_neg {x : Int64} (h1 : -1000000000 ≤ x.toInt) (h2 : x.toInt ≤ 1000000000) : (-x).toInt = -x.toInt := by
  have e : -x = 0 - x := by simp
  have z : (0 : Int64).toInt = 0 := rfl
  rw [e, Int64.toInt_sub, z, Int.zero_sub]
  exact Int.bmod_eq_of_le (by omega) (by omega)
theorem i64_sub {x y : Int64} (h1 : -1000000000 ≤ x.toInt - y.toInt) (h2 : x.toInt - y.toInt ≤ 1000000000) : (x - y).toInt = x.toInt - y.toInt := by
  rw [Int64.toInt_sub]
  exact Int.bmod_eq_of_le (by omega) (by omega)
theorem i64_add2 {x y : Int64} (h1 : -1000000000 ≤ x.toInt + y.toInt) (h2 : x.toInt + y.toInt ≤ 1000000000) : (x + y).toInt = x.toInt + y.toInt := i64_add rfl h1 h2
theorem fee_k {y : Int64} {r : Int32} (hy : 0 ≤ y.toInt) (hy2 : y.toInt ≤ 100000000) (hr : 0 ≤ r.toInt ∧ r.toInt ≤ 500) : 0 ≤ (y * r.toInt64 / 10000).toInt ∧ (y * r.toInt64 / 10000).toInt ≤ y.toInt := by
  have hm : 0 ≤ y.toInt * r.toInt ∧ y.toInt * r.toInt ≤ y.toInt * 500 := ⟨Int.mul_nonneg hy hr.1, Int.mul_le_mul_of_nonneg_left hr.2 hy⟩
  have e : (y * r.toInt64).toInt = y.toInt * r.toInt := by
    rw [Int64.toInt_mul, t64]
    exact Int.bmod_eq_of_le (by omega) (by omega)
  have e2 : (y * r.toInt64 / 10000).toInt = (y.toInt * r.toInt) / 10000 := by
    rw [Int64.toInt_div, e]
    have z : (10000 : Int64).toInt = 10000 := rfl
    rw [z, Int.tdiv_eq_ediv_of_nonneg hm.1]
    exact Int.bmod_eq_of_le (by omega) (by omega)
  rw [e2]
  omega
/-- what a settling leaves, as numbers -/
theorem st_n {x y : Int64} {r : Int32} (hx : 0 ≤ x.toInt ∧ x.toInt ≤ 100000000) (hy : -100000000 ≤ y.toInt ∧ y.toInt ≤ 100000000) (hr : 0 ≤ r.toInt ∧ r.toInt ≤ 500) :
    stM x y r + stW x y + stF y r = x + y ∧ 0 ≤ (stM x y r).toInt ∧ 0 ≤ (stF y r).toInt ∧ (stF y r).toInt ≤ 100000000 ∧ (stM x y r).toInt + psI (stW x y).toInt + (stF y r).toInt ≤ x.toInt + psI y.toInt ∧ psI (-(stW x y).toInt) ≤ psI (-y.toInt) ∧ (stW x y).toInt ≤ 0 ∧ ((stW x y).toInt = 0 ∨ (stM x y r).toInt = 0) ∧ (stM x y r).toInt + (stW x y).toInt + (stF y r).toInt = x.toInt + y.toInt := by
  unfold stM stW stF
  by_cases e : lg_cmp y 0 ≤ 0
  · rw [if_pos e, if_pos e, if_pos e]
    have hy0 := (lgc0 y).mp e
    have en := i64_neg (x := y) (by omega) (by omega)
    have z : (0 : Int64).toInt = 0 := rfl
    have hL : (stL x y).toInt = if x.toInt < -y.toInt then x.toInt else -y.toInt := by
      unfold stL
      by_cases q : x < -y
      · rw [if_pos q]
        rw [Int64.lt_iff_toInt_lt, en] at q
        rw [if_pos q]
      · rw [if_neg q]
        rw [Int64.lt_iff_toInt_lt, en] at q
        rw [if_neg q, en]
    have hL2 : 0 ≤ (stL x y).toInt ∧ (stL x y).toInt ≤ x.toInt ∧ (stL x y).toInt ≤ -y.toInt ∧ ((stL x y).toInt = x.toInt ∨ (stL x y).toInt = -y.toInt) := by
      rw [hL]
      split <;> omega
    have e1 := i64_sub (x := x) (y := stL x y) (by omega) (by omega)
    have e2 := i64_add2 (x := y) (y := stL x y) (by omega) (by omega)
    refine ⟨by grind, ?_⟩
    rw [e1, e2, z]
    unfold psI
    repeat' apply And.intro
    all_goals repeat' split
    all_goals omega
  · rw [if_neg e, if_neg e, if_neg e]
    have hy0 : ¬ y.toInt ≤ 0 := fun q => e ((lgc0 y).mpr q)
    obtain ⟨k1, k2⟩ := fee_k (y := y) (r := r) (by omega) hy.2 hr
    generalize y * r.toInt64 / 10000 = K at *
    have e1 := i64_sub (x := y) (y := K) (by omega) (by omega)
    have e2 := i64_add2 (x := x) (y := y - K) (by omega) (by omega)
    have z : (0 : Int64).toInt = 0 := rfl
    refine ⟨by grind, ?_⟩
    rw [e2, e1, z]
    unfold psI
    repeat' apply And.intro
    all_goals repeat' split
    all_goals omega
def FeeI (b : TS) : Prop := 0 ≤ (tI b 97 0 7).toInt ∧ (tI b 97 0 7).toInt ≤ 500
theorem MonI_settle {a a' b b' : TS} {D : Nat} {put : Nat → Int64} (h : MonI a b D put) (hfee : FeeI b) (hE : EvE a b a' b') : MonI a' b' D put := by
  obtain ⟨s, hs, ca, cb, v45, v46, v91, hR, hR'⟩ := hE
  have z : ∀ r, r ∈ [26, 27, 28, 29] → tZ a' r 0 = tZ a r 0 := fun r hr => dZ ca (S := [26, 27, 28, 29]) (P := []) (s := r) (by decide) hr 0
  have e1 : ∀ n f, hI b' n f = hI b n f := hI_c cb (S := [53, 61]) (P := []) (by decide) (by simp) (by simp)
  have e2 : ∀ n f, hA b' n 64 f = hA b n 64 f := hA_c cb (S := [53, 64]) (P := []) (t := 64) (by decide) (by simp) (by simp)
  have e86 : ∀ k, tI b' 86 0 k = tI b 86 0 k := dIS cb (S := [86]) (P := []) (s := 86) (by decide) (by simp) 0
  have e87 : ∀ k, tI b' 87 0 k = tI b 87 0 k := dIS cb (S := [87]) (P := []) (s := 87) (by decide) (by simp) 0
  have e43 : ∀ k, tL b' 43 0 k = tL b 43 0 k := dLS cb (S := [43]) (P := []) (s := 43) (by decide) (by simp) 0
  have e44 : ∀ k, tL b' 44 0 k = tL b 44 0 k := dLS cb (S := [44]) (P := []) (s := 44) (by decide) (by simp) 0
  have e97 := dI cb (S := []) (P := [(97, 6)]) (s := 97) (k := 6) (by decide) (by simp) 0
  have e94 := dI cb (S := []) (P := [(94, 12)]) (s := 94) (k := 12) (by decide) (by simp) 0
  have e918 := dL cb (S := []) (P := [(91, 8)]) (s := 91) (k := 8) (by decide) (by simp) 0
  obtain ⟨b1, b2, b3, b4, b5, b6⟩ := MonI_bnd hR h hs
  obtain ⟨n1, n2, n3, n4, n5, n6, n7, n8, n9⟩ := st_n (x := tL b 45 0 s) (y := tL b 46 0 s) (r := tI b 97 0 7) ⟨b1, b2⟩ ⟨b3, b4⟩ hfee
  obtain ⟨m1, m2, ⟨m3, m3'⟩, m4, m5, m6, g1, g2, g3, g4⟩ := h
  have hp : ∀ n, pac b' n = pac b n := fun n => by unfold pac; rw [e87, e86]
  have hl : ∀ n, lac b' n = lac b n := fun n => by unfold lac; rw [e2, e86]
  have epm : SI (pmI b') 1000 = SI (pmI b) 1000 := SI_eq _ (fun n _ => by unfold pmI; rw [e1, e2])
  have elm : SI (lmI b') 1000 = SI (lmI b) 1000 := SI_eq _ (fun n _ => by unfold lmI; rw [e1])
  have f1 : tL b' 45 0 s = stM (tL b 45 0 s) (tL b 46 0 s) (tI b 97 0 7) := by rw [v45, if_pos rfl]
  have f2 : tL b' 46 0 s = stW (tL b 45 0 s) (tL b 46 0 s) := by rw [v46, if_pos rfl]
  have f3 : (tL b' 91 0 7).toInt = (tL b 91 0 7).toInt + (stF (tL b 46 0 s) (tI b 97 0 7)).toInt := by
    rw [v91]
    exact i64_add2 (by omega) (by omega)
  refine ⟨fun n hn h12 => ?_, fun n hn => ?_, ⟨e97.trans m3, ?_⟩, fun u hu => ?_, ?_, fun u hu => ?_, ?_, fun k hk => ?_, ?_, ?_⟩
  · rw [e1] at h12
    rw [e1, e1, e1, hp, z 29 (by simp)]
    exact m1 n hn h12
  · unfold MaB
    rw [e1, e1, e1, e2]
    exact m2 n hn
  · rw [e94, m3', pcN_eq (p := 0) (b := b) (b' := b') (by omega) (fun n hn _ => by rw [e1]) (by rw [e1])]
  · rw [z 26 (by simp)] at hu
    rw [e44, ← m4 u hu]
    exact S64_eq _ (fun n _ => by unfold ctH; rw [e1, e1])
  · have hm : tL b 91 0 7 + S64 (fun u => tL b 43 0 u) (tZ a 26 0) + S64 (fun s => tL b 45 0 s + tL b 46 0 s) (tZ a 27 0) = tL b 91 0 8 := m5
    unfold MaE
    rw [z 26 (by simp), z 27 (by simp), v91, e918, ← hm, S64_eq (f := fun u => tL b' 43 0 u) (g := fun u => tL b 43 0 u) (tZ a 26 0) (fun k _ => e43 k), S64_upd (f := fun s => tL b 45 0 s + tL b 46 0 s) (g := fun s => tL b' 45 0 s + tL b' 46 0 s) (tZ a 27 0) hs (fun k hk' hne => by show tL b' 45 0 k + tL b' 46 0 k = _; rw [v45, v46, if_neg hne, if_neg hne])]
    simp only [f1, f2]
    generalize S64 _ (tZ a 26 0) = X
    generalize S64 _ (tZ a 27 0) = Y
    grind
  · rw [z 26 (by simp)] at hu
    rw [e43, ← m6 u hu, S64_eq (f := ctL b' u) (g := ctL b u) 1000 (fun n _ => by unfold ctL; rw [e1, hl])]
  · rw [f3]; omega
  · rw [z 27 (by simp)] at hk
    rw [v45]
    split
    · exact n2
    · exact g2 k hk
  · have q1 : SI (shU b') (tZ a 27 0) = SI (shU b) (tZ a 27 0) + (shU b' s - shU b s) := SI_upd _ hs (fun k hk' hne => by unfold shU; rw [v45, v46, if_neg hne, if_neg hne])
    have q2 : shU b' s = (stM (tL b 45 0 s) (tL b 46 0 s) (tI b 97 0 7)).toInt + psI (stW (tL b 45 0 s) (tL b 46 0 s)).toInt := by unfold shU; rw [f1, f2]
    have q3 : shU b s = (tL b 45 0 s).toInt + psI (tL b 46 0 s).toInt := rfl
    rw [z 27 (by simp), f3, epm]
    omega
  · have q1 : SI (shD b') (tZ a 27 0) = SI (shD b) (tZ a 27 0) + (shD b' s - shD b s) := SI_upd _ hs (fun k hk' hne => by unfold shD; rw [v46, if_neg hne])
    have q2 : shD b' s = psI (-(stW (tL b 45 0 s) (tL b 46 0 s)).toInt) := by unfold shD; rw [f2]
    have q3 : shD b s = psI (-(tL b 46 0 s).toInt) := rfl
    rw [z 27 (by simp), epm, elm]
    omega
