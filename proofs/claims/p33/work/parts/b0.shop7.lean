/-! ===== a shop comes: its lines ===== -/
theorem c3 {c n : Nat} (h : c < 2 * n + 2) : c < 2 * n ∨ c = 2 * n ∨ c = 2 * n + 1 := by omega
def kyP (n d e c ds di ms mi : Nat) : Prop := (c < 2 * n ∧ (ds = 49 → di < d) ∧ (ms = 50 → mi < e)) ∨ (c = 2 * n ∧ ds = 49 ∧ di = d ∧ ms = 50 ∧ mi = e) ∨ (c = 2 * n + 1 ∧ ds = 49 ∧ di = d + 1 ∧ ms = 50 ∧ mi = e + 1)
theorem ky_ne {n d e c ds di ms mi c' ds' di' ms' mi' : Nat} (h : kyP n d e c ds di ms mi) (h' : kyP n d e c' ds' di' ms' mi') (hne : c ≠ c') (nb : ¬ (c < 2 * n ∧ c' < 2 * n)) : ¬ (ds = ds' ∧ di = di') ∧ ¬ (ms = ms' ∧ mi = mi') := by
  unfold kyP at h h'
  rcases h with ⟨h1, h2, h3⟩ | ⟨h1, h2, h3, h4, h5⟩ | ⟨h1, h2, h3, h4, h5⟩ <;> rcases h' with ⟨k1, k2, k3⟩ | ⟨k1, k2, k3, k4, k5⟩ | ⟨k1, k2, k3, k4, k5⟩
  · exact absurd ⟨h1, k1⟩ nb
  · refine ⟨fun q => ?_, fun q => ?_⟩
    · have := h2 (by omega); omega
    · have := h3 (by omega); omega
  · refine ⟨fun q => ?_, fun q => ?_⟩
    · have := h2 (by omega); omega
    · have := h3 (by omega); omega
  · refine ⟨fun q => ?_, fun q => ?_⟩
    · have := k2 (by omega); omega
    · have := k3 (by omega); omega
  · omega
  · omega
  · refine ⟨fun q => ?_, fun q => ?_⟩
    · have := k2 (by omega); omega
    · have := k3 (by omega); omega
  · omega
  · omega
set_option maxHeartbeats 4000000 in
theorem Ln0_g {a a' b b' : TS} {d e : Nat} {p0 p1 : Int32} (h : Ln0 a b) (hA : SgA a a' (tZ a 27 0) p0 p1) (hB : SgB b b' (tZ a 27 0) d e p0 p1) (hd : tN b 49 = d) (he : tN b 50 = e) (h25 : 0 < tN a 25) (n21 : tN a 21 = tZ a 27 0) (n22 : tN a 22 = tZ a 27 0) (gq : groQ b b') :
    Ln0 a' b' ∧ (∀ c, c < 2 * tZ a 27 0 → vA a' c = vA a c ∧ vQ b' c = vQ b c) ∧ ((vA a' (2 * tZ a 27 0) = [] ∧ vQ b' (2 * tZ a 27 0) = []) ∧ vA a' (2 * tZ a 27 0 + 1) = [] ∧ vQ b' (2 * tZ a 27 0 + 1) = []) := by
  obtain ⟨⟨⟨o1, o2, o3⟩, l1, l2⟩, ⟨c1, c2⟩, l5, l6, m1, m2, m3, m8, m48, m74, m75⟩ := h
  obtain ⟨-, -, aN, ao, ⟨z27, -, -⟩, -, -, -, -, ⟨a210, a211, a212, a213⟩, ⟨a220, a221, a222, a223⟩, ⟨a8, a8z, a8z', a9z, a9z', a9c, a9c'⟩⟩ := hA
  obtain ⟨-, -, bN, bo, -, ⟨b65, b65', -⟩, ⟨b740, b742, b743, b741⟩, ⟨b750, b752, b753, b751⟩, ⟨b48, b48z, b48z', b49z, b49z', b50z, b50z'⟩⟩ := hB
  generalize hn : tZ a 27 0 = n at *
  have N8 : tN a' 8 = 2 * n + 2 := by rw [aN, if_pos (by decide)]; omega
  have N9 : tN a' 9 = 2 * n + 2 := by rw [aN, if_pos (by decide)]; omega
  have N10 : tN a' 10 = tN a 10 := by rw [aN, if_neg (by decide), if_neg (by decide)]
  have N25 : tN a' 25 = tN a 25 := by rw [aN, if_neg (by decide), if_neg (by decide)]
  have N21 : tN a' 21 = n + 1 := by rw [aN, if_neg (by decide), if_pos (by decide)]; omega
  have N22 : tN a' 22 = n + 1 := by rw [aN, if_neg (by decide), if_pos (by decide)]; omega
  have A9 : ∀ c, c < 2 * n → (∀ k, tR a' 9 c k = tR a 9 c k) ∧ tZ a' 9 c = tZ a 9 c ∧ tC a' 9 c = tC a 9 c := fun c hc => by
    obtain ⟨-, q2, q3, q4, -⟩ := ao 9 c (fun q => by unfold shNew at q; omega) (by decide)
    exact ⟨q2, q3, q4⟩
  have Z9 : ∀ c, c = 2 * n ∨ c = 2 * n + 1 → tZ a' 9 c = 0 ∧ tC a' 9 c = 0 := fun c hc => by
    rcases hc with q | q <;> subst q
    · exact ⟨a9z, a9c⟩
    · exact ⟨a9z', a9c'⟩
  have A10 : ∀ r f, tI a' 10 r f = tI a 10 r f := fun r f => (ao 10 r (fun q => by unfold shNew at q; omega) (by decide)).1 f
  have A8 : ∀ c, c < 2 * n → (∀ k, tI a' 8 c k = tI a 8 c k) ∧ tZ a' 8 c = tZ a 8 c := fun c hc => by
    obtain ⟨q1, -, q3, -, -⟩ := ao 8 c (fun q => by unfold shNew at q; omega) (by decide)
    exact ⟨q1, q3⟩
  have slc : ∀ c, 21 + c % 2 = 21 ∨ 21 + c % 2 = 22 := fun c => by omega
  have Asl : ∀ c, c < 2 * n → (∀ k, tI a' (21 + c % 2) (c / 2) k = tI a (21 + c % 2) (c / 2) k) ∧ (∀ k, tR a' (21 + c % 2) (c / 2) k = tR a (21 + c % 2) (c / 2) k) ∧ tN a (21 + c % 2) ≤ tN a' (21 + c % 2) := fun c hc => by
    obtain ⟨q1, q2, -⟩ := ao (21 + c % 2) (c / 2) (fun q => by unfold shNew at q; have := slc c; omega) (by have := slc c; omega)
    refine ⟨q1, q2, ?_⟩
    rcases slc c with q | q <;> rw [q]
    · omega
    · omega
  have e21 : 21 + (2 * n) % 2 = 21 ∧ 21 + (2 * n + 1) % 2 = 22 ∧ 74 + (2 * n) % 2 = 74 ∧ 74 + (2 * n + 1) % 2 = 75 ∧ (2 * n) / 2 = n ∧ (2 * n + 1) / 2 = n := by omega
  obtain ⟨e1, e2, e3, e4, e5, e6⟩ := e21
  have hLO : LO a' := by
    refine ⟨fun c hc k hk => ?_, fun c c' k k' hc hc' hk hk' heq => ?_, fun c hc => ?_⟩
    · rw [N9] at hc
      rcases c3 hc with q | q
      · rw [(A9 c q).2.1] at hk
        obtain ⟨r, r1, r2⟩ := o1 c (by omega) k hk
        exact ⟨r, by rw [N10]; exact r1, by rw [(A9 c q).1]; exact r2⟩
      · rw [(Z9 c q).1] at hk
        exact absurd hk (Nat.not_lt_zero _)
    · rw [N9] at hc hc'
      rcases c3 hc with q | q
      · rcases c3 hc' with q' | q'
        · rw [(A9 c q).2.1] at hk
          rw [(A9 c' q').2.1] at hk'
          rw [(A9 c q).1, (A9 c' q').1] at heq
          exact o2 c c' k k' (by omega) (by omega) hk hk' heq
        · rw [(Z9 c' q').1] at hk'
          exact absurd hk' (Nat.not_lt_zero _)
      · rw [(Z9 c q).1] at hk
        exact absurd hk (Nat.not_lt_zero _)
    · rw [N9] at hc
      rcases c3 hc with q | q
      · rw [(A9 c q).2.1, (A9 c q).2.2]
        exact o3 c (by omega)
      · rw [(Z9 c q).1, (Z9 c q).2]
        exact ⟨Nat.le_refl _, by omega, Or.inl rfl⟩
  have hLa : LaT a' (2 * (n + 1)) := by
    refine ⟨hLO, by omega, fun c hc => ?_⟩
    rcases c3 (show c < 2 * n + 2 by omega) with q | q | q
    · obtain ⟨⟨p1', p2, p3, p4, p5, p6, p7, p8, p9⟩, m, h2, h3⟩ := l2 c q
      obtain ⟨i1, i2, i3⟩ := Asl c q
      exact ⟨⟨p1', by omega, by rw [i2]; exact p3, by rw [N25]; exact p4, by rw [i2]; exact p5, by omega, by rw [(A8 c q).2]; exact p7, by rw [i2]; exact p8, by omega⟩, m, by rw [i1]; exact h2, by rw [(A9 c q).2.1]; exact h3⟩
    · subst q
      rw [e1, e5]
      exact ⟨⟨⟨by decide +kernel, by decide +kernel⟩, by omega, a210, by rw [N25]; exact h25, a211, by omega, a8z, a212, by omega⟩, 0, a213, Nat.zero_le _⟩
    · subst q
      rw [e2, e6]
      exact ⟨⟨⟨by decide +kernel, by decide +kernel⟩, by omega, a220, by rw [N25]; exact h25, a221, by omega, a8z', a222, by omega⟩, 0, a223, Nat.zero_le _⟩
  -- the reference's
  have M48 : tN b' 48 = 2 * n + 2 := by rw [bN, if_pos (by decide)]; omega
  have M49 : tN b' 49 = d + 2 := by rw [bN, if_pos (by decide)]; omega
  have M50 : tN b' 50 = e + 2 := by rw [bN, if_pos (by decide)]; omega
  have M74 : tN b' 74 = n + 1 := by rw [bN, if_neg (by decide), if_pos (by decide)]; omega
  have M75 : tN b' 75 = n + 1 := by rw [bN, if_neg (by decide), if_pos (by decide)]; omega
  have mle : ∀ s, tN b s ≤ tN b' s := fun s => by
    rw [bN]
    split
    · omega
    · split <;> omega
  have scc : ∀ c, 74 + c % 2 = 74 ∨ 74 + c % 2 = 75 := fun c => by omega
  have Bc : ∀ c, c < 2 * n → (∀ k, tI b' (74 + c % 2) (c / 2) k = tI b (74 + c % 2) (c / 2) k) ∧ (∀ k, tR b' (74 + c % 2) (c / 2) k = tR b (74 + c % 2) (c / 2) k) := fun c hc => by
    have hs := scc c
    obtain ⟨q1, q2, -⟩ := bo (74 + c % 2) (c / 2) (fun q => by unfold cbNew at q; omega)
    exact ⟨fun k => q1 k (by omega) (by omega) (by omega) (by omega) (by omega), fun k => q2 k (fun q => by omega)⟩
  have B48 : ∀ c, c < 2 * n → (∀ k, tI b' 48 c k = tI b 48 c k) ∧ tZ b' 48 c = tZ b 48 c := fun c hc => by
    obtain ⟨q1, -, q3⟩ := bo 48 c (fun q => by unfold cbNew at q; omega)
    exact ⟨fun k => q1 k (by decide) (by decide) (by decide) (by decide) (by decide), q3⟩
  have Bd : ∀ ds di, (ds = 49 ∨ ds = 51) → di < tN b ds → (∀ k, tI b' ds di k = tI b ds di k) ∧ tZ b' ds di = tZ b ds di := fun ds di hs hi => by
    obtain ⟨q1, -, q3⟩ := bo ds di (fun q => by
      unfold cbNew at q
      rcases hs with w | w <;> subst w <;> omega)
    exact ⟨fun k => q1 k (by omega) (by omega) (by omega) (by omega) (by omega), q3⟩
  have Bm : ∀ ms mi, (ms = 50 ∨ ms = 52) → mi < tN b ms → (∀ k, tR b' ms mi k = tR b ms mi k) ∧ tZ b' ms mi = tZ b ms mi := fun ms mi hs hi => by
    obtain ⟨-, q2, q3⟩ := bo ms mi (fun q => by
      unfold cbNew at q
      rcases hs with w | w <;> subst w <;> omega)
    exact ⟨fun k => q2 k (fun q => by omega), q3⟩
  have cb : ∀ c m ds di ms mi cap, c < 2 * n → CbQ b (74 + c % 2) (c / 2) c m ds di ms mi cap → CbQ b' (74 + c % 2) (c / 2) c m ds di ms mi cap ∧ vR b' ds di ms mi m = vR b ds di ms mi m := by
    intro c m ds di ms mi cap hc hQ
    obtain ⟨⟨q1, q2, q3, q4, q5, q6, q7, q8, q9, q10, q11, q12, q13, q14, q15, q16, q17, q18⟩, r1, r2⟩ := hQ
    obtain ⟨i1, i2⟩ := Bc c hc
    obtain ⟨d1, d2⟩ := Bd ds di r1 q9
    obtain ⟨u1, u2⟩ := Bm ms mi r2 q13
    refine ⟨⟨⟨q1, Nat.lt_of_lt_of_le q2 (mle _), by rw [i2]; exact q3, Nat.lt_of_lt_of_le q4 (mle _), by rw [(B48 c hc).2]; exact q5, by rw [i1]; exact q6, by rw [i2]; exact q7, q8, Nat.lt_of_lt_of_le q9 (mle _), by rw [d2]; exact q10, by rw [i2]; exact q11, q12, Nat.lt_of_lt_of_le q13 (mle _), by rw [u2]; exact q14, q15, q16, q17, fun k hk => ?_⟩, r1, r2⟩, ?_⟩
    · obtain ⟨q, s1, s2, s3⟩ := q18 k hk
      exact ⟨q, by rw [u1]; exact s1, s2, Nat.lt_of_lt_of_le s3 (gq q.1 s2).1⟩
    · unfold vR
      refine List.map_congr_left (fun k hk => ?_)
      obtain ⟨q, s1, s2, s3⟩ := q18 k (List.mem_range.mp hk)
      rw [d1, u1, s1]
      congr 1
      exact qv_congr (fun f => (gq q.1 s2).2 q.2 s3 f)
  have cn0 : CbQ b' (74 + (2 * n) % 2) ((2 * n) / 2) (2 * n) 0 49 d 50 e 32 := by
    rw [e3, e5]
    exact ⟨⟨⟨by decide +kernel, by decide +kernel⟩, by omega, b740, by omega, b48z, b741, b742, ⟨by decide +kernel, by decide +kernel⟩, by omega, b49z, b743, ⟨by decide +kernel, by decide +kernel⟩, by omega, b50z, by omega, by omega, by omega, fun k hk => absurd hk (Nat.not_lt_zero _)⟩, Or.inl rfl, Or.inl rfl⟩
  have cn1 : CbQ b' (74 + (2 * n + 1) % 2) ((2 * n + 1) / 2) (2 * n + 1) 0 49 (d + 1) 50 (e + 1) 32 := by
    rw [e4, e6]
    exact ⟨⟨⟨by decide +kernel, by decide +kernel⟩, by omega, b750, by omega, b48z', b751, b752, ⟨by decide +kernel, by decide +kernel⟩, by omega, b49z', b753, ⟨by decide +kernel, by decide +kernel⟩, by omega, b50z', by omega, by omega, by omega, fun k hk => absurd hk (Nat.not_lt_zero _)⟩, Or.inl rfl, Or.inl rfl⟩
  have key : ∀ c, c < 2 * n + 2 → ∃ ds di ms mi, tR b' (74 + c % 2) (c / 2) 2 = some (ds, di) ∧ tR b' (74 + c % 2) (c / 2) 3 = some (ms, mi) ∧ kyP n d e c ds di ms mi := fun c hc => by
    rcases c3 hc with q | q | q
    · obtain ⟨m, ds, di, ms, mi, cap, ⟨-, -, -, -, -, -, q7, -, q9, -, q11, -, q13, -⟩, r1, r2⟩ := c1 c q
      obtain ⟨i1, i2⟩ := Bc c q
      exact ⟨ds, di, ms, mi, by rw [i2]; exact q7, by rw [i2]; exact q11, Or.inl ⟨q, fun w => by rw [w, hd] at q9; exact q9, fun w => by rw [w, he] at q13; exact q13⟩⟩
    · subst q
      rw [e3, e5]
      exact ⟨_, _, _, _, b742, b743, Or.inr (Or.inl ⟨rfl, rfl, rfl, rfl, rfl⟩)⟩
    · subst q
      rw [e4, e6]
      exact ⟨_, _, _, _, b752, b753, Or.inr (Or.inr ⟨rfl, rfl, rfl, rfl, rfl⟩)⟩
  have cp : ∀ c, c < 2 * n → capc b' c = capc b c := fun c hc => by
    obtain ⟨m, ds, di, ms, mi, cap, ⟨-, -, -, -, -, -, q7, -, q9, -⟩, r1, -⟩ := c1 c hc
    unfold capc capo
    rw [(Bc c hc).2, q7]
    exact (Bd ds di r1 q9).2
  have cp0 : capc b' (2 * n) = 32 := by
    unfold capc capo
    rw [e3, e5, b742]
    exact b49z
  have cp1 : capc b' (2 * n + 1) = 32 := by
    unfold capc capo
    rw [e4, e6, b752]
    exact b49z'
  have rg : List.range (2 * (n + 1)) = List.range (2 * n) ++ [2 * n, 2 * n + 1] := by
    rw [show 2 * (n + 1) = 2 * n + 1 + 1 by omega, List.range_succ, List.range_succ, List.append_assoc]
    rfl
  refine ⟨⟨by rw [z27]; exact hLa, by
      rw [z27]
      refine ⟨fun c hc => ?_, fun c c' hc hc' hne => ?_⟩
      · rcases c3 (show c < 2 * n + 2 by omega) with q | q | q
        · obtain ⟨m, ds, di, ms, mi, cap, hQ⟩ := c1 c q
          exact ⟨_, _, _, _, _, _, (cb c _ _ _ _ _ _ q hQ).1⟩
        · subst q; exact ⟨_, _, _, _, _, _, cn0⟩
        · subst q; exact ⟨_, _, _, _, _, _, cn1⟩
      · by_cases both : c < 2 * n ∧ c' < 2 * n
        · rw [(Bc c both.1).2, (Bc c' both.2).2, (Bc c both.1).2, (Bc c' both.2).2]
          exact c2 c c' both.1 both.2 hne
        · obtain ⟨ds, di, ms, mi, k1, k2, k3⟩ := key c (by omega)
          obtain ⟨ds', di', ms', mi', k1', k2', k3'⟩ := key c' (by omega)
          rw [k1, k1', k2, k2']
          obtain ⟨w1, w2⟩ := ky_ne k3 k3' hne both
          exact ⟨fun w => w1 ⟨congrArg Prod.fst (Option.some.inj w), congrArg Prod.snd (Option.some.inj w)⟩, fun w => w2 ⟨congrArg Prod.fst (Option.some.inj w), congrArg Prod.snd (Option.some.inj w)⟩⟩, fun s hs => ?_, fun c hc => ?_, fun c hc => ?_, ?_, ?_, by omega, by omega, by omega, by omega⟩, fun c hc => ⟨?_, ?_⟩, ⟨?_, ?_⟩, ?_, ?_⟩
  · rw [z27] at hs
    by_cases q : s = n
    · subst q
      exact ⟨b65, b65'⟩
    · obtain ⟨-, q2, -⟩ := bo 65 0 (fun q => by unfold cbNew at q; omega)
      rw [q2 _ (by omega), q2 _ (by omega)]
      exact l5 s (by omega)
  · rw [z27] at hc
    funext k
    rcases c3 (show c < 2 * n + 2 by omega) with q | q | q
    · rw [(A8 c q).1, (B48 c q).1]
      exact congrFun (l6 c q) k
    · subst q
      rw [(a8 k).1, (b48 k).1]
    · subst q
      rw [(a8 k).2, (b48 k).2]
  · rw [z27] at hc
    rcases c3 (show c < 2 * n + 2 by omega) with q | q | q
    · rw [cp c q, (A9 c q).2.1]
      exact m1 c q
    · subst q
      rw [cp0]
      omega
    · subst q
      rw [cp1]
      omega
  · rw [z27]
    have s51 : s5 b' 51 = s5 b 51 := s5_eq (by rw [bN, if_neg (by decide), if_neg (by decide)]) (fun i _ => (bo 51 i (fun q => by unfold cbNew at q; omega)).2.2)
    have s52 : s5 b' 52 = s5 b 52 := s5_eq (by rw [bN, if_neg (by decide), if_neg (by decide)]) (fun i _ => (bo 52 i (fun q => by unfold cbNew at q; omega)).2.2)
    have e0 : ((List.range (2 * n)).map (capc b')) = (List.range (2 * n)).map (capc b) := List.map_congr_left (fun c hc => cp c (List.mem_range.mp hc))
    unfold S5 sumC at *
    rw [s51, s52, rg, List.map_append, List.sum_append, e0]
    omega
  · rw [z27, rg, List.map_append, List.sum_append, N10, m3]
    have e0 : ((List.range (2 * n)).map (tZ a' 9)) = (List.range (2 * n)).map (tZ a 9) := List.map_congr_left (fun c hc => (A9 c (List.mem_range.mp hc)).2.1)
    rw [e0]
    simp only [List.map_cons, List.map_nil, List.sum_cons, List.sum_nil, a9z, a9z', Nat.add_zero]
  · obtain ⟨-, m, h2, h3⟩ := l2 c hc
    unfold vA
    rw [(Asl c hc).1]
    unfold vL
    refine List.map_congr_left (fun k hk => ?_)
    have hk := List.mem_range.mp hk
    have h50 : tZ a 9 c < 50000 := by have := o3 c (by omega); omega
    rw [h2, o_ix (by omega)] at hk
    obtain ⟨r, r1, r2⟩ := o1 c (by omega) k (by omega)
    rw [(A9 c hc).1, r2]
    exact eC_congr (fun f => A10 r f)
  · obtain ⟨m, ds, di, ms, mi, cap, hQ⟩ := c1 c hc
    obtain ⟨g1, g2⟩ := cb c _ _ _ _ _ _ hc hQ
    rw [vQ_of g1.1, vQ_of hQ.1, g2]
  · unfold vA
    rw [e1, e5, a213]
    rfl
  · rw [vQ_of cn0.1]
    rfl
  · unfold vA
    rw [e2, e6, a223]
    rfl
  · rw [vQ_of cn1.1]
    rfl
