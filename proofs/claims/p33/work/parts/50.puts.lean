/-! ===== the cables together ===== -/
/-- n cables, c up of shop c / 2 (even) or down (odd), their rows apart -/
def CaT (b : TS) (n : Nat) : Prop := (∀ c, c < n → ∃ m ds di ms mi cap, CbQ b (74 + c % 2) (c / 2) c m ds di ms mi cap) ∧ (∀ c c', c < n → c' < n → c ≠ c' → tR b (74 + c % 2) (c / 2) 2 ≠ tR b (74 + c' % 2) (c' / 2) 2 ∧ tR b (74 + c % 2) (c / 2) 3 ≠ tR b (74 + c' % 2) (c' / 2) 3)
def vQ (b : TS) (c : Nat) : List (Int32 × (Nat → Int32)) := match tR b (74 + c % 2) (c / 2) 2, tR b (74 + c % 2) (c / 2) 3 with
  | some p, some q => vR b p.1 p.2 q.1 q.2 (tI b (74 + c % 2) (c / 2) 1).toNatClampNeg
  | _, _ => []
theorem vQ_of {b : TS} {c f n ds di ms mi cap : Nat} (h : CbP b (74 + c % 2) (c / 2) f n ds di ms mi cap) : vQ b c = vR b ds di ms mi n := by
  obtain ⟨p1, p2, p3, p4, p5, p6, p7, p8, p9, p10, p11, p12, p13, p14, p15, p16, p17, p18⟩ := h
  unfold vQ
  rw [p7, p11, p6]
  dsimp only
  rw [o_ix (by omega)]
theorem vR_len (b : TS) (ds di ms mi n : Nat) : (vR b ds di ms mi n).length = n := by unfold vR; simp
/-! how long the rows of a cable are, and all rows that were made longer -/
def capo (b : TS) (cb s : Nat) : Nat := match tR b cb s 2 with | some p => tZ b p.1 p.2 | none => 0
def capc (b : TS) (c : Nat) : Nat := capo b (74 + c % 2) (c / 2)
def s5 (b : TS) (t : Nat) : Nat := ((List.range (tN b t)).map (tZ b t)).sum
def S5 (b : TS) : Nat := s5 b 51 + s5 b 52
theorem s5_eq {b b' : TS} {t : Nat} (hN : tN b' t = tN b t) (hZ : ∀ i, i < tN b t → tZ b' t i = tZ b t i) : s5 b' t = s5 b t := by
  unfold s5
  rw [hN]
  congr 1
  exact List.map_congr_left (fun i hi => hZ i (List.mem_range.mp hi))
theorem s5_new {b b' : TS} {t z : Nat} (hN : tN b' t = tN b t + 1) (hZ : ∀ i, i < tN b t → tZ b' t i = tZ b t i) (hz : tZ b' t (tN b t) = z) : s5 b' t = s5 b t + z := by
  unfold s5
  rw [hN, List.range_succ, List.map_append, List.sum_append]
  congr 1
  congr 1
  exact List.map_congr_left (fun i hi => hZ i (List.mem_range.mp hi))
theorem lays_cp {b : TS} {cb s f n ds di ms mi cap : Nat} {d : Int32} {q : Nat × Nat} (hP : CbQ b cb s f n ds di ms mi cap) :
    S5 (lays b cb s n ds di ms mi cap d q) + 4 * cap ≤ S5 b + 4 * capo (lays b cb s n ds di ms mi cap d q) cb s ∧ cap ≤ capo (lays b cb s n ds di ms mi cap d q) cb s ∧ (capo (lays b cb s n ds di ms mi cap d q) cb s = cap ∨ capo (lays b cb s n ds di ms mi cap d q) cb s = 2 * n) := by
  obtain ⟨⟨p1, p2, p3, p4, p5, p6, p7, p8, p9, p10, p11, p12, p13, p14, p15, p16, p17, p18⟩, hds, hms⟩ := hP
  have c52 : ¬ cb = 52 := isO_ne p1 (by decide +kernel)
  have mcb : ¬ cb = ms := fun h => by
    have h1 := p1.2
    rw [h, p12.2] at h1
    exact absurd h1 (by decide)
  unfold lays
  by_cases e : n = cap
  · rw [if_pos e]
    have gN : ∀ t, tN (sI (sR (sI (grow b cb s n ds di ms mi) 51 (tN b 51) n d) 52 (tN b 52) n (some q)) cb s 1 (Int32.ofNat (n + 1))) t = if t = 52 then tN b 52 + 1 else if t = 51 then tN b 51 + 1 else tN b t := fun t => by
      rw [tN_sI, tN_sR, tN_sI]
      unfold grow
      dsimp only
      rw [tN_sR, tN_sR, itr_cpyN, tN_mk, tN_mk, tN_mk, if_neg (c := (52 : Nat) = 51) (by decide)]
    have gZ : ∀ t i, tZ (sI (sR (sI (grow b cb s n ds di ms mi) 51 (tN b 51) n d) 52 (tN b 52) n (some q)) cb s 1 (Int32.ofNat (n + 1))) t i = if t = 52 ∧ i = tN b 52 then 2 * n else if t = 51 ∧ i = tN b 51 then 2 * n else tZ b t i := fun t i => by
      rw [tZ_sI, tZ_sR, tZ_sI]
      unfold grow
      dsimp only
      rw [tZ_sR, tZ_sR, itr_cpyZ, tZ_mk, tZ_mk, tN_mk, if_neg (c := (52 : Nat) = 51) (by decide)]
    have gR : tR (sI (sR (sI (grow b cb s n ds di ms mi) 51 (tN b 51) n d) 52 (tN b 52) n (some q)) cb s 1 (Int32.ofNat (n + 1))) cb s 2 = some (51, tN b 51) := by
      rw [tR_sI, tR_sR, if_neg (fun q => c52 q.1), tR_sI]
      unfold grow
      dsimp only
      rw [tR_sR, if_neg (fun q => absurd q.2.2 (by decide)), tR_sR, if_pos ⟨rfl, rfl, rfl⟩]
    generalize sI (sR (sI (grow b cb s n ds di ms mi) 51 (tN b 51) n d) 52 (tN b 52) n (some q)) cb s 1 (Int32.ofNat (n + 1)) = b' at *
    have hc : capo b' cb s = 2 * n := by
      unfold capo
      rw [gR]
      dsimp only
      rw [gZ, if_neg (fun q => absurd q.1 (by decide)), if_pos ⟨rfl, rfl⟩]
    have h1 : s5 b' 51 = s5 b 51 + 2 * n := s5_new (by rw [gN, if_neg (by decide), if_pos rfl]) (fun i hi => by rw [gZ, if_neg (fun q => absurd q.1 (by decide)), if_neg (fun q => by have := q.2; omega)]) (by rw [gZ, if_neg (fun q => absurd q.1 (by decide)), if_pos ⟨rfl, rfl⟩])
    have h2 : s5 b' 52 = s5 b 52 + 2 * n := s5_new (by rw [gN, if_pos rfl]) (fun i hi => by rw [gZ, if_neg (fun q => by have := q.2; omega), if_neg (fun q => absurd q.1 (by decide))]) (by rw [gZ, if_pos ⟨rfl, rfl⟩])
    unfold S5
    omega
  · rw [if_neg e]
    have gR : tR (sI (sR (sI b ds di n d) ms mi n (some q)) cb s 1 (Int32.ofNat (n + 1))) cb s 2 = some (ds, di) := by
      rw [tR_sI, tR_sR, if_neg (fun q => mcb q.1), tR_sI, p7]
    have hc : capo (sI (sR (sI b ds di n d) ms mi n (some q)) cb s 1 (Int32.ofNat (n + 1))) cb s = cap := by
      unfold capo
      rw [gR]
      exact p10
    have hS : S5 (sI (sR (sI b ds di n d) ms mi n (some q)) cb s 1 (Int32.ofNat (n + 1))) = S5 b := rfl
    rw [hc, hS]
    exact ⟨Nat.le_refl _, Nat.le_refl _, Or.inl rfl⟩
/-- what becomes of the rows' lengths when something is put on c -/
def Cp (b b' : TS) (n c : Nat) : Prop := (∀ c', c' < n → c' ≠ c → capc b' c' = capc b c') ∧ S5 b' + 4 * capc b c ≤ S5 b + 4 * capc b' c ∧ capc b c ≤ capc b' c ∧ (capc b' c = capc b c ∨ capc b' c ≤ 2 * (vQ b' c).length)
theorem Cp_t {b b1 b2 : TS} {n c : Nat} (h1 : Cp b b1 n c) (h2 : Cp b1 b2 n c) (hl : (vQ b1 c).length ≤ (vQ b2 c).length) : Cp b b2 n c := by
  obtain ⟨a1, a2, a3, a4⟩ := h1
  obtain ⟨c1, c2, c3, c4⟩ := h2
  exact ⟨fun c' h h' => (c1 c' h h').trans (a1 c' h h'), by omega, by omega, by omega⟩
theorem Cp_r (b : TS) (n c : Nat) : Cp b b n c := ⟨fun _ _ _ => rfl, Nat.le_refl _, Nat.le_refl _, Or.inl rfl⟩
/-- what some lays do, seen from all cables -/
def CtL (b b' : TS) (n c : Nat) (add : List (Int32 × (Nat → Int32))) : Prop :=
  CaT b' n ∧ vQ b' c = vQ b c ++ add ∧ (∀ c', c' < n → c' ≠ c → vQ b' c' = vQ b c') ∧ chg [49, 50, 51, 52, 74, 75] b b' ∧ (∀ t, tN b t ≤ tN b' t) ∧ (∀ t, t ≠ 51 → t ≠ 52 → tN b' t = tN b t) ∧ Wr b b' ∧ Cp b b' n c
theorem cb_ne {c c' : Nat} (h : c ≠ c') : ¬ (74 + c % 2 = 74 + c' % 2 ∧ c / 2 = c' / 2) := by omega
theorem lays_CaT {b : TS} {n c : Nat} {d : Int32} {q : Nat × Nat} (hT : CaT b n) (hc : c < n) (hq : isQ q.1) (hqi : q.2 < tN b q.1) (hl : (vQ b c).length < 100000) :
    ∃ b', (∀ z, Ex 154 [aR (some (74 + c % 2, c / 2)), aI d, aR (some q)] (enc 2 b z) = some (.inl none, enc 2 b' z)) ∧ CtL b b' n c [(d, qv b (some q))] := by
  obtain ⟨h1, h2⟩ := hT
  obtain ⟨m, ds, di, ms, mi, cap, hP⟩ := h1 c hc
  have hv := vQ_of hP.1
  rw [hv, vR_len] at hl
  obtain ⟨⟨ds', di', ms', mi', cap', k1, k2, k3, k4⟩, k5, k6, k7, k8, k9, k10, k11, k12⟩ := lays_P (d := d) hP hq hqi hl
  refine ⟨_, fun z => x154 hP.1 hq hqi, ?_⟩
  have hst := lays_stp b (74 + c % 2) (c / 2) m ds di ms mi cap d q (by obtain ⟨⟨-, -, -, -, -, -, -, -, -, -, -, -, -, -, -, p16, -⟩, -⟩ := hP; exact p16)
  have hcp := lays_cp (d := d) (q := q) hP
  have hcap : capc b c = cap := by
    obtain ⟨⟨-, -, -, -, -, -, p7, -, -, p10, -⟩, -, -⟩ := hP
    unfold capc capo
    rw [p7]
    exact p10
  generalize lays b (74 + c % 2) (c / 2) m ds di ms mi cap d q = b' at *
  have hO : ∀ c' f m2 ds2 di2 ms2 mi2 cap2, c' < n → c' ≠ c → CbQ b (74 + c' % 2) (c' / 2) f m2 ds2 di2 ms2 mi2 cap2 → CbQ b' (74 + c' % 2) (c' / 2) f m2 ds2 di2 ms2 mi2 cap2 ∧ vR b' ds2 di2 ms2 mi2 m2 = vR b ds2 di2 ms2 mi2 m2 := by
    intro c' f m2 ds2 di2 ms2 mi2 cap2 hc' hne hQ
    obtain ⟨⟨q1, q2, q3, q4, q5, q6, q7, q8, q9, q10, q11, q12, q13, q14, q15, q16, q17, q18⟩, r1, r2⟩ := hQ
    obtain ⟨⟨-, -, -, -, -, -, p7, -, -, -, p11, -⟩, -, -⟩ := hP
    obtain ⟨n1, n2⟩ := h2 c' c hc' hc hne
    rw [q7, p7] at n1
    rw [q11, p11] at n2
    have sI : ∀ k, tI b' (74 + c' % 2) (c' / 2) k = tI b (74 + c' % 2) (c' / 2) k := fun k => by
      by_cases e : 74 + c' % 2 = 74 + c % 2
      · rw [e]
        exact k8 _ _ (fun q => by omega)
      · exact (k5 (74 + c' % 2) (by simp only [List.mem_cons, List.not_mem_nil, or_false]; omega)).1 _ _
    have sR : ∀ k, tR b' (74 + c' % 2) (c' / 2) k = tR b (74 + c' % 2) (c' / 2) k := fun k => by
      by_cases e : 74 + c' % 2 = 74 + c % 2
      · rw [e]
        exact k9 _ _ (fun q => by omega)
      · exact (k5 (74 + c' % 2) (by simp only [List.mem_cons, List.not_mem_nil, or_false]; omega)).2.2.1 _ _
    have sD : ∀ k, tI b' ds2 di2 k = tI b ds2 di2 k := fun k => k11 _ _ _ r1 q9 (fun q => n1 (by rw [q.1, q.2]))
    have sM : ∀ k, tR b' ms2 mi2 k = tR b ms2 mi2 k := fun k => k12 _ _ _ r2 q13 (fun q => n2 (by rw [q.1, q.2]))
    refine ⟨⟨⟨q1, Nat.lt_of_lt_of_le q2 (k6 _), by rw [sR]; exact q3, Nat.lt_of_lt_of_le q4 (k6 _), by rw [k10 _ _ q4]; exact q5, by rw [sI]; exact q6, by rw [sR]; exact q7, q8, Nat.lt_of_lt_of_le q9 (k6 _), by rw [k10 _ _ q9]; exact q10, by rw [sR]; exact q11, q12, Nat.lt_of_lt_of_le q13 (k6 _), by rw [k10 _ _ q13]; exact q14, q15, q16, q17, fun k hk => ?_⟩, r1, r2⟩, ?_⟩
    · obtain ⟨q, s1, s2, s3⟩ := q18 k hk
      exact ⟨q, by rw [sM]; exact s1, s2, Nat.lt_of_lt_of_le s3 (k6 _)⟩
    · unfold vR
      refine List.map_congr_left (fun k hk => ?_)
      obtain ⟨q, s1, s2, s3⟩ := q18 k (List.mem_range.mp hk)
      rw [sD, sM, s1]
      congr 1
      refine qv_congr (fun g => (k5 q.1 ?_).1 _ _)
      have t1 := isO_ne s2 (t := 49) (by decide +kernel)
      have t2 := isO_ne s2 (t := 50) (by decide +kernel)
      have t3 := isO_ne s2 (t := 51) (by decide +kernel)
      have t4 := isO_ne s2 (t := 52) (by decide +kernel)
      have t5 := isO_ne s2 (t := 74) (by decide +kernel)
      have t6 := isO_ne s2 (t := 75) (by decide +kernel)
      simp only [List.mem_cons, List.not_mem_nil, or_false]
      omega
  refine ⟨⟨fun c' hc' => ?_, fun c1 c2 hc1 hc2 hne => ?_⟩, ?_, fun c' hc' hne => ?_, chg_m k5 (by intro t ht; simp only [List.mem_cons, List.not_mem_nil, or_false] at ht ⊢; omega), k6, k7, hst, ?_⟩
  · by_cases e : c' = c
    · subst e
      exact ⟨_, _, _, _, _, _, k1⟩
    · obtain ⟨m2, ds2, di2, ms2, mi2, cap2, hQ⟩ := h1 c' hc'
      exact ⟨_, _, _, _, _, _, (hO c' _ _ _ _ _ _ _ hc' e hQ).1⟩
  · -- the new rows are apart from the others
    have key : ∀ c', c' < n → c' ≠ c → tR b' (74 + c % 2) (c / 2) 2 ≠ tR b' (74 + c' % 2) (c' / 2) 2 ∧ tR b' (74 + c % 2) (c / 2) 3 ≠ tR b' (74 + c' % 2) (c' / 2) 3 := by
      intro c' hc' hne
      obtain ⟨m2, ds2, di2, ms2, mi2, cap2, hQ⟩ := h1 c' hc'
      obtain ⟨hQ', -⟩ := hO c' _ _ _ _ _ _ _ hc' hne hQ
      obtain ⟨n1, n2⟩ := h2 c c' hc hc' (fun e => hne e.symm)
      obtain ⟨⟨-, -, -, -, -, -, p7, -, -, -, p11, -⟩, -, -⟩ := hP
      obtain ⟨⟨-, -, -, -, -, -, q7, -, q9, -, q11, -, q13, -⟩, -, -⟩ := hQ
      obtain ⟨⟨-, -, -, -, -, -, q7', -, -, -, q11', -⟩, -, -⟩ := hQ'
      obtain ⟨⟨-, -, -, -, -, -, t7, -, -, -, t11, -⟩, -, -⟩ := k1
      rw [p7, q7] at n1
      rw [p11, q11] at n2
      rw [t7, q7', t11, q11']
      refine ⟨fun e => ?_, fun e => ?_⟩
      · have e := Option.some.inj e
        rcases k3 with ⟨e1, e2⟩ | ⟨e1, e2⟩
        · exact n1 (by rw [← e1, ← e2, e])
        · have h1 := congrArg Prod.fst e
          have h2 := congrArg Prod.snd e
          dsimp only at h1 h2
          rw [← h1, ← h2, e1, e2] at q9
          exact Nat.lt_irrefl _ q9
      · have e := Option.some.inj e
        rcases k4 with ⟨e1, e2⟩ | ⟨e1, e2⟩
        · exact n2 (by rw [← e1, ← e2, e])
        · have h1 := congrArg Prod.fst e
          have h2 := congrArg Prod.snd e
          dsimp only at h1 h2
          rw [← h1, ← h2, e1, e2] at q13
          exact Nat.lt_irrefl _ q13
    by_cases e1 : c1 = c
    · subst e1
      exact key c2 hc2 (fun e => hne e.symm)
    · by_cases e2 : c2 = c
      · subst e2
        obtain ⟨a1, a2⟩ := key c1 hc1 hne
        exact ⟨fun e => a1 e.symm, fun e => a2 e.symm⟩
      · obtain ⟨m1, ds1, di1, ms1, mi1, cap1, hQ1⟩ := h1 c1 hc1
        obtain ⟨m2, ds2, di2, ms2, mi2, cap2, hQ2⟩ := h1 c2 hc2
        obtain ⟨⟨⟨-, -, -, -, -, -, u7, -, -, -, u11, -⟩, -, -⟩, -⟩ := hO c1 _ _ _ _ _ _ _ hc1 e1 hQ1
        obtain ⟨⟨⟨-, -, -, -, -, -, v7, -, -, -, v11, -⟩, -, -⟩, -⟩ := hO c2 _ _ _ _ _ _ _ hc2 e2 hQ2
        obtain ⟨n1, n2⟩ := h2 c1 c2 hc1 hc2 hne
        obtain ⟨⟨-, -, -, -, -, -, w7, -, -, -, w11, -⟩, -, -⟩ := hQ1
        obtain ⟨⟨-, -, -, -, -, -, y7, -, -, -, y11, -⟩, -, -⟩ := hQ2
        rw [w7, y7] at n1
        rw [w11, y11] at n2
        rw [u7, v7, u11, v11]
        exact ⟨n1, n2⟩
  · rw [vQ_of k1.1, k2, hv]
  · obtain ⟨m2, ds2, di2, ms2, mi2, cap2, hQ⟩ := h1 c' hc'
    obtain ⟨g1, g2⟩ := hO c' _ _ _ _ _ _ _ hc' hne hQ
    rw [vQ_of g1.1, vQ_of hQ.1, g2]
  · obtain ⟨u1, u2, u3⟩ := hcp
    refine ⟨fun c' hc' hne => ?_, by rw [hcap]; exact u1, by rw [hcap]; exact u2, ?_⟩
    · obtain ⟨m2, ds2, di2, ms2, mi2, cap2, hQ⟩ := h1 c' hc'
      obtain ⟨g1, -⟩ := hO c' _ _ _ _ _ _ _ hc' hne hQ
      obtain ⟨⟨-, -, -, -, -, -, q7, -, -, q10, -⟩, -, -⟩ := hQ
      obtain ⟨⟨-, -, -, -, -, -, r7, -, -, r10, -⟩, -, -⟩ := g1
      unfold capc capo
      rw [q7, r7]
      exact r10.trans q10.symm
    · rw [hcap]
      rcases u3 with e | e
      · exact Or.inl e
      · refine Or.inr ?_
        rw [vQ_of k1.1, vR_len]
        have : capc b' c = 2 * m := e
        omega
theorem CtL_t {b b1 b2 : TS} {n c : Nat} {l l' : List (Int32 × (Nat → Int32))} (h1 : CtL b b1 n c l) (h2 : CtL b1 b2 n c l') : CtL b b2 n c (l ++ l') := by
  obtain ⟨a1, a2, a3, a4, a5, a6, a7, a8⟩ := h1
  obtain ⟨c1, c2, c3, c4, c5, c6, c7, c8⟩ := h2
  exact ⟨c1, by rw [c2, a2, List.append_assoc], fun c' h h' => (c3 c' h h').trans (a3 c' h h'), chg_t a4 c4, fun t => Nat.le_trans (a5 t) (c5 t), fun t h h' => (c6 t h h').trans (a6 t h h'), a7.t c7, Cp_t a8 c8 (by rw [c2, List.length_append]; omega)⟩
/-- the fault that takes the next message of a row of three, and what is left -/
def fK (g : Nat → Int32) : Int32 := if g 0 ≤ 0 then (if g 1 ≤ 0 then (if g 2 ≤ 0 then -1 else 2) else 1) else 0
def fR (g : Nat → Int32) : Nat → Int32 := fun h => if g 0 ≤ 0 then (if g 1 ≤ 0 then (if g 2 ≤ 0 then g h else if h = 2 then g 2 - 1 else g h) else if h = 1 then g 1 - 1 else g h) else if h = 0 then g 0 - 1 else g h
theorem flt_K (a : TS) (f : Nat) : fltK a f = fK (tI a 8 f) := rfl
theorem flt_R (a : TS) (f : Nat) : tI (fltS a f) 8 f = fR (tI a 8 f) := by
  funext h
  unfold fltS fR
  repeat' split
  all_goals first | rfl | (rw [tI_sI, if_pos ⟨rfl, rfl, by assumption⟩]) | (rw [tI_sI, if_neg (fun q => by have := q.2.2; contradiction)])
/-- what a put does, seen from all cables -/
def CtP (b b' : TS) (n c : Nat) (add : List (Int32 × (Nat → Int32))) : Prop :=
  CaT b' n ∧ vQ b' c = vQ b c ++ add ∧ (∀ c', c' < n → c' ≠ c → vQ b' c' = vQ b c') ∧ chg [48, 49, 50, 51, 52, 74, 75] b b' ∧ (∀ t, tN b t ≤ tN b' t) ∧ (∀ t, t ≠ 51 → t ≠ 52 → tN b' t = tN b t) ∧ tI b' 48 c = fR (tI b 48 c) ∧ (∀ f, f ≠ c → tI b' 48 f = tI b 48 f) ∧ Wr b b' ∧ Cp b b' n c
theorem CaT_48 {b : TS} {n f k : Nat} {v : Int32} (h : CaT b n) : CaT (sI b 48 f k v) n ∧ (∀ c, c < n → vQ (sI b 48 f k v) c = vQ b c) := by
  obtain ⟨h1, h2⟩ := h
  have key : ∀ c, c < n → ∀ m ds di ms mi cap, CbQ b (74 + c % 2) (c / 2) c m ds di ms mi cap → CbQ (sI b 48 f k v) (74 + c % 2) (c / 2) c m ds di ms mi cap ∧ vR (sI b 48 f k v) ds di ms mi m = vR b ds di ms mi m := by
    intro c hc m ds di ms mi cap hQ
    obtain ⟨⟨q1, q2, q3, q4, q5, q6, q7, q8, q9, q10, q11, q12, q13, q14, q15, q16, q17, q18⟩, r1, r2⟩ := hQ
    refine ⟨⟨⟨q1, q2, q3, q4, q5, ?_, q7, q8, q9, q10, q11, q12, q13, q14, q15, q16, q17, q18⟩, r1, r2⟩, ?_⟩
    · rw [tI_sI, if_neg (fun q => by omega)]; exact q6
    · unfold vR
      refine List.map_congr_left (fun j hj => ?_)
      obtain ⟨q, s1, s2, s3⟩ := q18 j (List.mem_range.mp hj)
      rw [tI_sI, if_neg (fun q => by omega), tR_sI, s1]
      congr 1
      exact qv_congr (fun g => (tI_sI ..).trans (if_neg (fun h => isO_ne s2 (t := 48) (by decide +kernel) h.1)))
  refine ⟨⟨fun c hc => ?_, h2⟩, fun c hc => ?_⟩
  · obtain ⟨m, ds, di, ms, mi, cap, hQ⟩ := h1 c hc
    exact ⟨_, _, _, _, _, _, (key c hc _ _ _ _ _ _ hQ).1⟩
  · obtain ⟨m, ds, di, ms, mi, cap, hQ⟩ := h1 c hc
    obtain ⟨g1, g2⟩ := key c hc _ _ _ _ _ _ hQ
    rw [vQ_of g1.1, vQ_of hQ.1, g2]
theorem x155 {b : TS} {n c : Nat} {t d : Int32} {q : Nat × Nat} (hT : CaT b n) (hc : c < n) (hq : isQ q.1) (hqi : q.2 < tN b q.1) (hl : (vQ b c).length < 90000) :
    ∃ b', (∀ z, Ex 155 [aR (some (74 + c % 2, c / 2)), aI t, aI d, aR (some q)] (enc 2 b z) = some (.inl none, enc 2 b' z)) ∧ CtP b b' n c (laid (fK (tI b 48 c)) (t + d) (qv b (some q))) := by
  obtain ⟨m, ds, di, ms, mi, cap, hP⟩ := hT.1 c hc
  obtain ⟨⟨p1, p2, p3, p4, p5, -⟩, -, -⟩ := hP
  have o48 : isO 2 1000 48 := ⟨by decide +kernel, by decide +kernel⟩
  have q48 : ¬ q.1 = 48 := isO_ne hq (by decide +kernel)
  have c48 : ¬ 74 + c % 2 = 48 := by omega
  have go : ∀ z, Ex 155 [aR (some (74 + c % 2, c / 2)), aI t, aI d, aR (some q)] (enc 2 b z) = _ := fun z => (X_o p1 (by decide +kernel) p2 rfl).trans (lf_155_0 ..)
  -- one lay behind a fault
  have one : ∀ (k : Nat) (v : Int32) (dd : Int32), ∃ b', (∀ z, Ex 154 [aR (some (74 + c % 2, c / 2)), aI dd, aR (some q)] (enc 2 (sI b 48 c k v) z) = some (.inl none, enc 2 b' z)) ∧ CtL (sI b 48 c k v) b' n c [(dd, qv b (some q))] := fun k v dd => by
    obtain ⟨h1, h2⟩ := CaT_48 (f := c) (k := k) (v := v) hT
    obtain ⟨b', r1, r2⟩ := lays_CaT (d := dd) h1 hc hq hqi (by rw [h2 c hc]; omega)
    refine ⟨b', r1, ?_⟩
    rw [qv_congr (b := b) (b' := sI b 48 c k v) (fun g => (tI_sI ..).trans (if_neg (fun h => q48 h.1)))] at r2
    exact r2
  have up : ∀ (k : Nat) (v : Int32) (b' : TS) (add : List (Int32 × (Nat → Int32))), CtL (sI b 48 c k v) b' n c add → (tI (sI b 48 c k v) 48 c = fR (tI b 48 c)) → CtP b b' n c add := by
    intro k v b' add hh hf
    obtain ⟨a1, a2, a3, a4, a5, a6, a7, a8⟩ := hh
    obtain ⟨-, h2⟩ := CaT_48 (f := c) (k := k) (v := v) hT
    have s48 := a4 48 (by decide)
    refine ⟨a1, by rw [a2, h2 c hc], fun c' hc' hne => by rw [a3 c' hc' hne, h2 c' hc'], chg_t (chg_sI (by simp) (chg_r _ _)) (chg_m a4 (by intro q hq; simp only [List.mem_cons, List.not_mem_nil, or_false] at hq ⊢; omega)), a5, a6, ?_, fun f hf' => ?_, ((Wr.rf b).cI 48 c k v).t a7, a8⟩
    · rw [← hf]
      funext h
      exact s48.1 c h
    · funext h
      rw [s48.1 f h, tI_sI, if_neg (fun q => hf' q.2.1)]
  have i0 : (0 : Int32).toNatClampNeg = 0 := rfl
  have i1 : (1 : Int32).toNatClampNeg = 1 := rfl
  have i2 : (2 : Int32).toNatClampNeg = 2 := rfl
  unfold fK laid
  by_cases h0 : tI b 48 c 0 ≤ 0
  · by_cases h1 : tI b 48 c 1 ≤ 0
    · by_cases h2 : tI b 48 c 2 ≤ 0
      · obtain ⟨b', r1, r2⟩ := lays_CaT (d := t + d) hT hc hq hqi (by omega)
        refine ⟨b', fun z => ?_, ?_⟩
        · rw [go]
          simp (config := {decide := true}) only [gfI_enc, gfL_enc, gfR_enc, pfI_enc, pfL_enc, pfR_enc, Option.bind_some, cI_v, cL_v, cF_v, cD_v, cR_v, cV_v, cI_x, cL_x, cR_x, cV_x, gz_0, gz_1, acc_enc, tI_sI, tL_sI, tR_sI, tN_sI, tZ_sI, tC_sI, tc_sI, tz_sI, tI_sL, tL_sL, tR_sL, tN_sL, tZ_sL, tC_sL, tc_sL, tz_sL, tI_sR, tL_sR, tR_sR, tN_sR, tZ_sR, tC_sR, tc_sR, tz_sR, tI_sZ, tL_sZ, tR_sZ, tN_sZ, tZ_sZ, tC_sZ, tc_sZ, tz_sZ, tI_sC, tL_sC, tR_sC, tN_sC, tZ_sC, tC_sC, tc_sC, tz_sC, tI_aC, tL_aC, tR_aC, tN_aC, tZ_aC, tC_aC, tc_aC, tz_aC, tI_rmL, tL_rmL, tR_rmL, tN_rmL, tZ_rmL, tC_rmL, tc_rmL, tz_rmL, tI_mk, tL_mk, tR_mk, tN_mk, tZ_mk, tC_mk, tc_mk, tz_mk, tI_pushL, tL_pushL, tR_pushL, tN_pushL, tZ_pushL, tC_pushL, tc_pushL, tz_pushL, tI_pushB, tL_pushB, tR_pushB, tN_pushB, tZ_pushB, tC_pushB, tc_pushB, tz_pushB, tI_cpL, tL_cpL, tR_cpL, tN_cpL, tZ_cpL, tC_cpL, tc_cpL, tz_cpL, eq_self, true_and, and_true, false_and, and_false, if_true, if_false, reduceIte, ite_true, ite_false, not_true_eq_false, not_false_eq_true, gR_o p1, p2, p3, gaI_o o48, p4, p5, i0, i1, i2, h0, h1, h2, r1]
        · obtain ⟨a1, a2, a3, a4, a5, a6, a7, a8⟩ := r2
          have s48 := a4 48 (by decide)
          refine ⟨a1, by rw [a2]; simp only [h0, h1, h2, if_true]; rfl, a3, chg_m a4 (by intro q hq; simp only [List.mem_cons, List.not_mem_nil, or_false] at hq ⊢; omega), a5, a6, ?_, fun f hf => funext fun h => s48.1 f h, a7, a8⟩
          funext h
          rw [s48.1 c h]
          unfold fR
          rw [if_pos h0, if_pos h1, if_pos h2]
      · obtain ⟨b', r1, r2⟩ := one 2 (tI b 48 c 2 - 1) (t + d + 4)
        refine ⟨b', fun z => ?_, ?_⟩
        · rw [go]
          simp (config := {decide := true}) only [gfI_enc, gfL_enc, gfR_enc, pfI_enc, pfL_enc, pfR_enc, Option.bind_some, cI_v, cL_v, cF_v, cD_v, cR_v, cV_v, cI_x, cL_x, cR_x, cV_x, gz_0, gz_1, acc_enc, tI_sI, tL_sI, tR_sI, tN_sI, tZ_sI, tC_sI, tc_sI, tz_sI, tI_sL, tL_sL, tR_sL, tN_sL, tZ_sL, tC_sL, tc_sL, tz_sL, tI_sR, tL_sR, tR_sR, tN_sR, tZ_sR, tC_sR, tc_sR, tz_sR, tI_sZ, tL_sZ, tR_sZ, tN_sZ, tZ_sZ, tC_sZ, tc_sZ, tz_sZ, tI_sC, tL_sC, tR_sC, tN_sC, tZ_sC, tC_sC, tc_sC, tz_sC, tI_aC, tL_aC, tR_aC, tN_aC, tZ_aC, tC_aC, tc_aC, tz_aC, tI_rmL, tL_rmL, tR_rmL, tN_rmL, tZ_rmL, tC_rmL, tc_rmL, tz_rmL, tI_mk, tL_mk, tR_mk, tN_mk, tZ_mk, tC_mk, tc_mk, tz_mk, tI_pushL, tL_pushL, tR_pushL, tN_pushL, tZ_pushL, tC_pushL, tc_pushL, tz_pushL, tI_pushB, tL_pushB, tR_pushB, tN_pushB, tZ_pushB, tC_pushB, tc_pushB, tz_pushB, tI_cpL, tL_cpL, tR_cpL, tN_cpL, tZ_cpL, tC_cpL, tc_cpL, tz_cpL, eq_self, true_and, and_true, false_and, and_false, if_true, if_false, reduceIte, ite_true, ite_false, not_true_eq_false, not_false_eq_true, gR_o p1, p2, p3, gaI_o o48, paI_o o48, p4, p5, i0, i1, i2, h0, h1, h2, r1]
        · have := up _ _ _ _ r2 (by
            funext h
            unfold fR
            rw [if_pos h0, if_pos h1, if_neg h2, tI_sI]
            by_cases e : h = 2
            · rw [if_pos ⟨rfl, rfl, e⟩, if_pos e]
            · rw [if_neg (fun q => e q.2.2), if_neg e])
          simp only [h0, h1, h2, if_true, if_false]
          exact this
    · obtain ⟨b1, r1, r2⟩ := one 1 (tI b 48 c 1 - 1) (t + d)
      have r2' := r2
      obtain ⟨a1, a2, a3, a4, a5, a6, a7, -⟩ := r2
      obtain ⟨-, hv2⟩ := CaT_48 (f := c) (k := 1) (v := tI b 48 c 1 - 1) hT
      obtain ⟨b2, r3, r4⟩ := lays_CaT (d := t + d) a1 hc hq (Nat.lt_of_lt_of_le hqi (a5 _)) (by rw [a2, hv2 c hc, List.length_append]; show _ + 1 < _; omega)
      rw [qv_congr (b := b) (b' := b1) (fun g => ((a4 q.1 (by
        have t1 := isO_ne hq (t := 49) (by decide +kernel)
        have t2 := isO_ne hq (t := 50) (by decide +kernel)
        have t3 := isO_ne hq (t := 51) (by decide +kernel)
        have t4 := isO_ne hq (t := 52) (by decide +kernel)
        have t5 := isO_ne hq (t := 74) (by decide +kernel)
        have t6 := isO_ne hq (t := 75) (by decide +kernel)
        simp only [List.mem_cons, List.not_mem_nil, or_false]
        omega)).1 _ _).trans ((tI_sI ..).trans (if_neg (fun h => q48 h.1))))] at r4
      refine ⟨b2, fun z => ?_, ?_⟩
      · rw [go]
        simp (config := {decide := true}) only [gfI_enc, gfL_enc, gfR_enc, pfI_enc, pfL_enc, pfR_enc, Option.bind_some, cI_v, cL_v, cF_v, cD_v, cR_v, cV_v, cI_x, cL_x, cR_x, cV_x, gz_0, gz_1, acc_enc, tI_sI, tL_sI, tR_sI, tN_sI, tZ_sI, tC_sI, tc_sI, tz_sI, tI_sL, tL_sL, tR_sL, tN_sL, tZ_sL, tC_sL, tc_sL, tz_sL, tI_sR, tL_sR, tR_sR, tN_sR, tZ_sR, tC_sR, tc_sR, tz_sR, tI_sZ, tL_sZ, tR_sZ, tN_sZ, tZ_sZ, tC_sZ, tc_sZ, tz_sZ, tI_sC, tL_sC, tR_sC, tN_sC, tZ_sC, tC_sC, tc_sC, tz_sC, tI_aC, tL_aC, tR_aC, tN_aC, tZ_aC, tC_aC, tc_aC, tz_aC, tI_rmL, tL_rmL, tR_rmL, tN_rmL, tZ_rmL, tC_rmL, tc_rmL, tz_rmL, tI_mk, tL_mk, tR_mk, tN_mk, tZ_mk, tC_mk, tc_mk, tz_mk, tI_pushL, tL_pushL, tR_pushL, tN_pushL, tZ_pushL, tC_pushL, tc_pushL, tz_pushL, tI_pushB, tL_pushB, tR_pushB, tN_pushB, tZ_pushB, tC_pushB, tc_pushB, tz_pushB, tI_cpL, tL_cpL, tR_cpL, tN_cpL, tZ_cpL, tC_cpL, tc_cpL, tz_cpL, eq_self, true_and, and_true, false_and, and_false, if_true, if_false, reduceIte, ite_true, ite_false, not_true_eq_false, not_false_eq_true, gR_o p1, p2, p3, gaI_o o48, paI_o o48, p4, p5, i0, i1, i2, h0, h1, r1, r3]
      · have := up _ _ _ _ (CtL_t r2' r4) (by
            funext h
            unfold fR
            rw [if_pos h0, if_neg h1, tI_sI]
            by_cases e : h = 1
            · rw [if_pos ⟨rfl, rfl, e⟩, if_pos e]
            · rw [if_neg (fun q => e q.2.2), if_neg e])
        simp only [h0, h1, if_true, if_false]
        exact this
  · obtain ⟨hv1, hv2⟩ := CaT_48 (f := c) (k := 0) (v := tI b 48 c 0 - 1) hT
    refine ⟨sI b 48 c 0 (tI b 48 c 0 - 1), fun z => ?_, ?_⟩
    · rw [go]
      simp (config := {decide := true}) only [gfI_enc, gfL_enc, gfR_enc, pfI_enc, pfL_enc, pfR_enc, Option.bind_some, cI_v, cL_v, cF_v, cD_v, cR_v, cV_v, cI_x, cL_x, cR_x, cV_x, gz_0, gz_1, acc_enc, tI_sI, tL_sI, tR_sI, tN_sI, tZ_sI, tC_sI, tc_sI, tz_sI, tI_sL, tL_sL, tR_sL, tN_sL, tZ_sL, tC_sL, tc_sL, tz_sL, tI_sR, tL_sR, tR_sR, tN_sR, tZ_sR, tC_sR, tc_sR, tz_sR, tI_sZ, tL_sZ, tR_sZ, tN_sZ, tZ_sZ, tC_sZ, tc_sZ, tz_sZ, tI_sC, tL_sC, tR_sC, tN_sC, tZ_sC, tC_sC, tc_sC, tz_sC, tI_aC, tL_aC, tR_aC, tN_aC, tZ_aC, tC_aC, tc_aC, tz_aC, tI_rmL, tL_rmL, tR_rmL, tN_rmL, tZ_rmL, tC_rmL, tc_rmL, tz_rmL, tI_mk, tL_mk, tR_mk, tN_mk, tZ_mk, tC_mk, tc_mk, tz_mk, tI_pushL, tL_pushL, tR_pushL, tN_pushL, tZ_pushL, tC_pushL, tc_pushL, tz_pushL, tI_pushB, tL_pushB, tR_pushB, tN_pushB, tZ_pushB, tC_pushB, tc_pushB, tz_pushB, tI_cpL, tL_cpL, tR_cpL, tN_cpL, tZ_cpL, tC_cpL, tc_cpL, tz_cpL, eq_self, true_and, and_true, false_and, and_false, if_true, if_false, reduceIte, ite_true, ite_false, not_true_eq_false, not_false_eq_true, gR_o p1, p2, p3, gaI_o o48, paI_o o48, p4, p5, i0, i1, i2, h0]
    · refine up 0 (tI b 48 c 0 - 1) _ _ ⟨hv1, by rw [if_neg h0, if_pos rfl, List.append_nil], fun _ _ _ => rfl, chg_r _ _, fun _ => Nat.le_refl _, fun _ _ _ => rfl, Wr.rf _, Cp_r _ _ _⟩ ?_
      funext h
      unfold fR
      rw [if_neg h0, tI_sI]
      by_cases e : h = 0
      · rw [if_pos ⟨rfl, rfl, e⟩, if_pos e]
      · rw [if_neg (fun q => e q.2.2), if_neg e]
