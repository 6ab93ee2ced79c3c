/-! ===== the class's lines together ===== -/
def LaT (a : TS) (n : Nat) : Prop := LO a ∧ tN a 9 = n ∧ ∀ c, c < n → LnP a (21 + c % 2) (c / 2) c c ∧ ∃ m, tI a (21 + c % 2) (c / 2) 3 = Int32.ofNat m ∧ m ≤ tZ a 9 c
def vA (a : TS) (c : Nat) : List (Int32 × (Nat → Int32)) := vL a c (tI a (21 + c % 2) (c / 2) 3).toNatClampNeg
theorem LaT_le {a : TS} {n c : Nat} (h : LaT a n) (hc : c < n) : tZ a 9 c < 50000 := by
  obtain ⟨⟨-, -, l3⟩, h2, -⟩ := h
  have := l3 c (by omega)
  omega
theorem vA_of {a : TS} {n c m : Nat} (h : LaT a n) (hc : c < n) (hm : tI a (21 + c % 2) (c / 2) 3 = Int32.ofNat m) (hz : m ≤ tZ a 9 c) : vA a c = vL a c m := by
  have := LaT_le h hc
  unfold vA
  rw [hm, o_ix (by omega)]
theorem vL_len (a : TS) (c m : Nat) : (vL a c m).length = m := by unfold vL; simp
theorem ln_ne {c c' : Nat} (h : c ≠ c') : ¬ (21 + c % 2 = 21 + c' % 2 ∧ c / 2 = c' / 2) := by omega
/-- what a put does, seen from all lines -/
def LaP (a a' : TS) (n c : Nat) (add : List (Int32 × (Nat → Int32))) : Prop :=
  LaT a' n ∧ vA a' c = vA a c ++ add ∧ (∀ c', c' < n → c' ≠ c → vA a' c' = vA a c' ∧ tZ a' 9 c' = tZ a 9 c' ∧ ∀ k, k < tZ a 9 c' → tR a' 9 c' k = tR a 9 c' k ∧ ∃ r', r' < tN a 10 ∧ tR a 9 c' k = some (10, r') ∧ ∀ f, tI a' 10 r' f = tI a 10 r' f) ∧
  chg [8, 9, 10, 21, 22] a a' ∧ (∀ s, s ≠ 10 → tN a' s = tN a s) ∧ tN a 10 ≤ tN a' 10 ∧ tN a' 10 + tZ a 9 c = tN a 10 + tZ a' 9 c ∧ tZ a' 9 c = max (tZ a 9 c) (vA a' c).length ∧
  (∀ s i k, s ≠ 10 → s ≠ 9 → tR a' s i k = tR a s i k) ∧ tI a' 8 c = fR (tI a 8 c) ∧ (∀ f, f ≠ c → tI a' 8 f = tI a 8 f) ∧ Wr a a'
theorem x37T {a : TS} {n c s i : Nat} (hT : LaT a n) (hc : c < n) (hz : tZ a 9 c < 29998) (hs : isM s) (hi : i < tN a s) (hb : bitOk (tI a s i 14) = true) :
    ∃ a', (∀ z, Ex 37 [aR (some (21 + c % 2, c / 2)), aR (some (s, i))] (enc 1 a z) = some (.inl none, enc 1 a' z)) ∧ LaP a a' n c (laid (fK (tI a 8 c)) (tI a 25 0 0 + tI a 25 0 2) (mv a s i)) := by
  have hT0 := hT
  obtain ⟨hL, h9, hc'⟩ := hT
  obtain ⟨hP, m, hm, hmz⟩ := hc' c hc
  refine ⟨_, fun z => x37 hP hL hm hmz hz hs hi hb, ?_⟩
  have hp := put_P hP hL hm hmz hz hs hi
  have hst := putC_stp hP hL hm hmz hz hi
  generalize putC a (21 + c % 2) (c / 2) c c m s i = a' at *
  obtain ⟨q1, q2, q3, q4, q5, q6, q7, q8, q9, q10, q11, q12, q13, q14⟩ := hp
  rw [flt_K] at q4 q5 q7 q13
  have oth : ∀ c', c' < n → c' ≠ c → ∀ k, tI a' (21 + c' % 2) (c' / 2) k = tI a (21 + c' % 2) (c' / 2) k := fun c' _ hne k => q6 _ _ _ (by omega) (by omega) (fun q => ln_ne hne ⟨q.1, q.2.1⟩)
  have hT' : LaT a' n := by
    refine ⟨q1, by rw [q10 9 (by decide)]; exact h9, fun c' hc2 => ⟨q3 _ _ _ _ (hc' c' hc2).1, ?_⟩⟩
    by_cases e : c' = c
    · subst e
      exact ⟨_, q4, q5⟩
    · obtain ⟨-, m', hm', hmz'⟩ := hc' c' hc2
      exact ⟨m', by rw [oth c' hc2 e]; exact hm', by rw [(q8 c' (by omega) e).1]; exact hmz'⟩
  have hvA' := vA_of hT' hc q4 q5
  refine ⟨hT', ?_, fun c' hc2 hne => ?_, ?_, q10, q11, q12, ?_, q9, ?_, fun f hf => ?_, hst⟩
  · rw [hvA', q7, vA_of hT0 hc hm hmz]
  · obtain ⟨g1, g2⟩ := q8 c' (by omega) hne
    refine ⟨?_, g1, g2⟩
    unfold vA
    rw [oth c' hc2 hne]
    obtain ⟨-, m', hm', hmz'⟩ := hc' c' hc2
    have := LaT_le hT0 hc2
    rw [hm', o_ix (by omega)]
    unfold vL
    refine List.map_congr_left (fun k hk => ?_)
    obtain ⟨g3, r, -, g4, g5⟩ := g2 k (by have := List.mem_range.mp hk; omega)
    rw [g3, g4]
    exact eC_congr g5
  · refine chg_m q2 (fun q hq => ?_)
    simp only [List.mem_cons, List.not_mem_nil, or_false] at hq ⊢
    omega
  · rw [hvA', vL_len]; exact q13
  · rw [← flt_R]
    funext h
    exact q14 c h
  · funext h
    rw [q14 f h, fltS_tI (fun q => hf q.2)]
/-- two slots of a line change places -/
def swp (m : TS) (c i k : Nat) : TS := sR (sR m 9 c i (tR m 9 c k)) 9 c k (tR m 9 c i)
theorem swp_R (m : TS) (c i k s' i' k' : Nat) : tR (swp m c i k) s' i' k' = if s' = 9 ∧ i' = c ∧ k' = k then tR m 9 c i else if s' = 9 ∧ i' = c ∧ k' = i then tR m 9 c k else tR m s' i' k' := rfl
theorem swp_LO {m : TS} {c i k : Nat} (h : LO m) (hc : c < tN m 9) (hi : i < tZ m 9 c) (hk : k < tZ m 9 c) : LO (swp m c i k) := by
  obtain ⟨l1, l2, l3⟩ := h
  -- the place whose slot stands at a place now
  have src : ∀ c' k', c' < tN m 9 → k' < tZ m 9 c' → ∃ k0, k0 < tZ m 9 c' ∧ tR (swp m c i k) 9 c' k' = tR m 9 c' k0 ∧ (c' = c → k0 = if k' = k then i else if k' = i then k else k') ∧ (c' ≠ c → k0 = k') := by
    intro c' k' hc' hk'
    by_cases e : c' = c
    · subst e
      by_cases e1 : k' = k
      · exact ⟨i, hi, by rw [swp_R, if_pos ⟨rfl, rfl, e1⟩], fun _ => by rw [if_pos e1], fun q => absurd rfl q⟩
      · by_cases e2 : k' = i
        · exact ⟨k, hk, by rw [swp_R, if_neg (fun q => e1 q.2.2), if_pos ⟨rfl, rfl, e2⟩], fun _ => by rw [if_neg e1, if_pos e2], fun q => absurd rfl q⟩
        · exact ⟨k', hk', by rw [swp_R, if_neg (fun q => e1 q.2.2), if_neg (fun q => e2 q.2.2)], fun _ => by rw [if_neg e1, if_neg e2], fun q => absurd rfl q⟩
    · exact ⟨k', hk', by rw [swp_R, if_neg (fun q => e q.2.1), if_neg (fun q => e q.2.1)], fun q => absurd q e, fun _ => rfl⟩
  refine ⟨fun c' hc' k' hk' => ?_, fun c1 c2 k1 k2 hc1 hc2 hk1 hk2 he => ?_, l3⟩
  · obtain ⟨k0, h1, h2, -⟩ := src c' k' hc' hk'
    rw [h2]
    exact l1 c' hc' k0 h1
  · obtain ⟨j1, g1, g2, g3, g4⟩ := src c1 k1 hc1 hk1
    obtain ⟨j2, f1, f2, f3, f4⟩ := src c2 k2 hc2 hk2
    rw [g2, f2] at he
    obtain ⟨e1, e2⟩ := l2 c1 c2 j1 j2 hc1 hc2 g1 f1 he
    refine ⟨e1, ?_⟩
    subst e1
    by_cases e : c1 = c
    · have a1 := g3 e
      have a2 := f3 e
      rw [a1, a2] at e2
      by_cases x1 : k1 = k
      · by_cases x2 : k2 = k
        · omega
        · rw [if_pos x1, if_neg x2] at e2
          by_cases x3 : k2 = i
          · rw [if_pos x3] at e2; omega
          · rw [if_neg x3] at e2; omega
      · rw [if_neg x1] at e2
        by_cases x2 : k2 = k
        · rw [if_pos x2] at e2
          by_cases x3 : k1 = i
          · rw [if_pos x3] at e2; omega
          · rw [if_neg x3] at e2; omega
        · rw [if_neg x2] at e2
          by_cases x3 : k1 = i
          · rw [if_pos x3] at e2
            by_cases x4 : k2 = i
            · omega
            · rw [if_neg x4] at e2; omega
          · rw [if_neg x3] at e2
            by_cases x4 : k2 = i
            · rw [if_pos x4] at e2; omega
            · rw [if_neg x4] at e2; exact e2
    · have a1 := g4 e
      have a2 := f4 e
      omega
/-- the loop that drops what has come -/
def drp (a : TS) (c : Nat) (t : Int32) : Nat → TS × Nat
  | 0 => (a, 0)
  | i + 1 => if (eC a (tR a 9 c i)).1 = t then drp a c t i else (swp (drp a c t i).1 c i (drp a c t i).2, (drp a c t i).2 + 1)
theorem drp_P {a : TS} {c : Nat} {t : Int32} (hL : LO a) (hc : c < tN a 9) : ∀ i, i ≤ tZ a 9 c → LO (drp a c t i).1 ∧ (drp a c t i).2 ≤ i ∧ (∀ k, i ≤ k → tR (drp a c t i).1 9 c k = tR a 9 c k) ∧ (∀ s' i' k, ¬ (s' = 9 ∧ i' = c) → tR (drp a c t i).1 s' i' k = tR a s' i' k) ∧ ((drp a c t i).1.1 = a.1 ∧ (drp a c t i).1.2.1 = a.2.1 ∧ (drp a c t i).1.2.2.2 = a.2.2.2) ∧
    (List.range (drp a c t i).2).map (fun k => eC a (tR (drp a c t i).1 9 c k)) = (vL a c i).filter (fun e => e.1 ≠ t) := by
  intro i
  induction i with
  | zero => exact fun _ => ⟨hL, Nat.le_refl _, fun _ _ => rfl, fun _ _ _ _ => rfl, ⟨rfl, rfl, rfl⟩, rfl⟩
  | succ i ih =>
    intro hi
    obtain ⟨i1, i2, i3, i4, ⟨i5, i6, i7⟩, i8⟩ := ih (by omega)
    have hv : vL a c (i + 1) = vL a c i ++ [eC a (tR a 9 c i)] := by
      unfold vL
      rw [List.range_succ, List.map_append]
      rfl
    rw [hv, List.filter_append]
    show LO (if (eC a (tR a 9 c i)).1 = t then drp a c t i else (swp (drp a c t i).1 c i (drp a c t i).2, (drp a c t i).2 + 1)).1 ∧ _
    have e0 : drp a c t (i + 1) = if (eC a (tR a 9 c i)).1 = t then drp a c t i else (swp (drp a c t i).1 c i (drp a c t i).2, (drp a c t i).2 + 1) := rfl
    rw [e0]
    by_cases e : (eC a (tR a 9 c i)).1 = t
    · rw [if_pos e]
      refine ⟨i1, by omega, fun k hk => i3 k (by omega), i4, ⟨i5, i6, i7⟩, ?_⟩
      rw [i8, List.filter_cons_of_neg (by simp [e]), List.filter_nil, List.append_nil]
    · rw [if_neg e]
      dsimp only
      have hN : tN (drp a c t i).1 = tN a := congrArg (fun q => q.1) i7
      have hZ : tZ (drp a c t i).1 = tZ a := congrArg (fun q => q.2.1) i7
      refine ⟨swp_LO i1 (by rw [hN]; exact hc) (by rw [hZ]; omega) (by rw [hZ]; omega), by omega, fun k hk => ?_, fun s' i' k h => ?_, ⟨i5, i6, i7⟩, ?_⟩
      · rw [swp_R, if_neg (fun q => by omega), if_neg (fun q => by omega)]
        exact i3 k (by omega)
      · rw [swp_R, if_neg (fun q => h ⟨q.1, q.2.1⟩), if_neg (fun q => h ⟨q.1, q.2.1⟩)]
        exact i4 _ _ _ h
      · rw [List.range_succ, List.map_append, List.filter_cons_of_pos (by simp [e]), List.filter_nil, ← i8]
        congr 1
        · refine List.map_congr_left (fun k hk => ?_)
          have hk := List.mem_range.mp hk
          rw [swp_R, if_neg (fun q => by omega), if_neg (fun q => by omega)]
        · show [eC a (tR (swp (drp a c t i).1 c i (drp a c t i).2) 9 c (drp a c t i).2)] = _
          rw [swp_R, if_pos ⟨rfl, rfl, rfl⟩, i3 i (Nat.le_refl _)]
theorem drp_stp (a : TS) (c : Nat) (t : Int32) : ∀ i, Wr a (drp a c t i).1
  | 0 => Wr.rf _
  | i + 1 => by
    show Wr a (if (eC a (tR a 9 c i)).1 = t then drp a c t i else (swp (drp a c t i).1 c i (drp a c t i).2, (drp a c t i).2 + 1)).1
    split
    · exact drp_stp a c t i
    · exact ((drp_stp a c t i).cR _ _ _ _).cR _ _ _ _
/-- what a drop does, seen from all lines -/
def LaD (a a' : TS) (n c : Nat) (t : Int32) : Prop :=
  LaT a' n ∧ vA a' c = (vA a c).filter (fun e => e.1 ≠ t) ∧ (∀ c', c' < n → c' ≠ c → vA a' c' = vA a c') ∧ (∀ s i k, s ≠ 9 → tR a' s i k = tR a s i k) ∧ (∀ c' k, c' ≠ c → tR a' 9 c' k = tR a 9 c' k) ∧
  (∀ s i k, ¬ (s = 21 + c % 2 ∧ i = c / 2 ∧ k = 3) → tI a' s i k = tI a s i k) ∧ tL a' = tL a ∧ tN a' = tN a ∧ tZ a' = tZ a ∧ tC a' = tC a ∧ tc a' = tc a ∧ tz a' = tz a ∧ Wr a a'
theorem X403_10 {s i r : Nat} {m : TS} {z : Hp} {x : Int32} (h : okL 1 s = true) (hi : i < tN m s) (h0 : ¬ x < 0) (hx : x.toNatClampNeg < tZ m s i) : Ex 403 [aR (some (s, i)), aI x, aR (some (10, r))] (enc 1 m z) = some (.inl (some (aR (tR m s i x.toNatClampNeg))), enc 1 (sR m s i x.toNatClampNeg (some (10, r))) z) := X403 h hi h0 hx rfl
theorem x39_4 {mm : TS} {z : Hp} {sl j c k m st r : Nat} (p1 : isO 1 5 sl) (hL : LO mm) (z2 : j < tN mm sl) (z1 : tI mm sl j 3 = Int32.ofNat m) (hk : k < m) (hm : m < 2 ^ 31) (z3 : tR mm sl j 2 = some (9, c)) (z4 : tR mm sl j 0 = some (25, 0)) (z5 : 0 < tN mm 25) (z6 : c < tN mm 9) (z7 : k < tZ mm 9 c) (z8 : st < tZ mm 9 c) (z9 : tR mm 9 c k = some (10, r)) (z10 : r < tN mm 10) :
    Ru 39 4 [(0, aR (some (sl, j))), (1, aI (Int32.ofNat st)), (2, aI (Int32.ofNat k))] [] (enc 1 mm z) =
      if tI mm 10 r 12 = tI mm 25 0 0 then Ru 39 4 [(0, aR (some (sl, j))), (1, aI (Int32.ofNat st)), (2, aI (Int32.ofNat (k + 1)))] [] (enc 1 mm z)
      else Ru 39 4 [(0, aR (some (sl, j))), (1, aI (Int32.ofNat (st + 1))), (2, aI (Int32.ofNat (k + 1)))] [] (enc 1 (swp mm c k st) z) := by
  have i10 : isM 10 := ⟨by decide +kernel, by decide +kernel⟩
  have hz := (hL.2.2 c z6)
  have g1 : (Int32.ofNat k).toNatClampNeg = k := o_ix (by omega)
  have g2 : ¬ Int32.ofNat k < 0 := o_lt0 (by omega)
  have g3 : ¬ Int32.ofNat m ≤ Int32.ofNat k := by rw [o_le (by omega) (by omega)]; omega
  have g4 : (Int32.ofNat st).toNatClampNeg = st := o_ix (by omega)
  have g5 : ¬ Int32.ofNat st < 0 := o_lt0 (by omega)
  obtain ⟨r', r3, r4⟩ := hL.1 c z6 st z8
  rw [lf_39_4]
  simp (config := {decide := true}) only [gfI_enc, gfL_enc, gfR_enc, pfI_enc, pfL_enc, pfR_enc, Option.bind_some, cI_v, cL_v, cF_v, cD_v, cR_v, cV_v, cI_x, cL_x, cR_x, cV_x, gz_0, gz_1, acc_enc, tI_sI, tL_sI, tR_sI, tN_sI, tZ_sI, tC_sI, tc_sI, tz_sI, tI_sL, tL_sL, tR_sL, tN_sL, tZ_sL, tC_sL, tc_sL, tz_sL, tI_sR, tL_sR, tR_sR, tN_sR, tZ_sR, tC_sR, tc_sR, tz_sR, tI_sZ, tL_sZ, tR_sZ, tN_sZ, tZ_sZ, tC_sZ, tc_sZ, tz_sZ, tI_sC, tL_sC, tR_sC, tN_sC, tZ_sC, tC_sC, tc_sC, tz_sC, tI_aC, tL_aC, tR_aC, tN_aC, tZ_aC, tC_aC, tc_aC, tz_aC, tI_rmL, tL_rmL, tR_rmL, tN_rmL, tZ_rmL, tC_rmL, tc_rmL, tz_rmL, tI_mk, tL_mk, tR_mk, tN_mk, tZ_mk, tC_mk, tc_mk, tz_mk, tI_pushL, tL_pushL, tR_pushL, tN_pushL, tZ_pushL, tC_pushL, tc_pushL, tz_pushL, tI_pushB, tL_pushB, tR_pushB, tN_pushB, tZ_pushB, tC_pushB, tc_pushB, tz_pushB, tI_cpL, tL_cpL, tR_cpL, tN_cpL, tZ_cpL, tC_cpL, tc_cpL, tz_cpL, eq_self, true_and, and_true, false_and, and_false, if_true, if_false, reduceIte, ite_true, ite_false, not_true_eq_false, not_false_eq_true, gI_o p1, gR_o p1, z1, z2, z3, z4, z5, z6, z7, z8, z9, z10, X402, X403_10, g1, g2, g3, g4, g5, acc_m i10, r3, r4, o_s, isO_ne p1 (t := 9) (by decide +kernel)]
  unfold swp
  rw [r4, z9]
set_option maxHeartbeats 4000000 in
theorem x39T {a : TS} {n c : Nat} (hT : LaT a n) (hc : c < n) :
    ∃ a', (∀ z, Ex 39 [aR (some (21 + c % 2, c / 2))] (enc 1 a z) = some (.inl none, enc 1 a' z)) ∧ LaD a a' n c (tI a 25 0 0) := by
  have hT0 := hT
  have hlt := LaT_le hT hc
  obtain ⟨hL, h9, hc'⟩ := hT
  obtain ⟨hP, m, hm, hmz⟩ := hc' c hc
  have hcN : c < tN a 9 := by omega
  have hP0 := hP
  obtain ⟨p1, p2, p3, p4, p5, p6, p7, p8, p9⟩ := hP
  have key := drp_P (t := tI a 25 0 0) hL hcN
  have i10 : isM 10 := ⟨by decide +kernel, by decide +kernel⟩
  have step : ∀ z k, k ≤ m → Ru 39 4 [(0, aR (some (21 + c % 2, c / 2))), (1, aI (Int32.ofNat 0)), (2, aI (Int32.ofNat 0))] [] (enc 1 a z) = Ru 39 4 [(0, aR (some (21 + c % 2, c / 2))), (1, aI (Int32.ofNat (drp a c (tI a 25 0 0) k).2)), (2, aI (Int32.ofNat k))] [] (enc 1 (drp a c (tI a 25 0 0) k).1 z) := by
    intro z k
    induction k with
    | zero => exact fun _ => rfl
    | succ k ih =>
      intro hk
      rw [ih (by omega), lf_39_4]
      obtain ⟨k1, k2, k3, k4, ⟨k5, k6, k7⟩, k8⟩ := key k (by omega)
      have e0 : drp a c (tI a 25 0 0) (k + 1) = if (eC a (tR a 9 c k)).1 = tI a 25 0 0 then drp a c (tI a 25 0 0) k else (swp (drp a c (tI a 25 0 0) k).1 c k (drp a c (tI a 25 0 0) k).2, (drp a c (tI a 25 0 0) k).2 + 1) := rfl
      obtain ⟨r, r1, r2⟩ := hL.1 c hcN k (by omega)
      have y1 : tI (drp a c (tI a 25 0 0) k).1 = tI a := k5
      have y2 : tN (drp a c (tI a 25 0 0) k).1 = tN a := congrArg (fun q => q.1) k7
      have y3 : tZ (drp a c (tI a 25 0 0) k).1 = tZ a := congrArg (fun q => q.2.1) k7
      have y4 : ∀ j, tR (drp a c (tI a 25 0 0) k).1 (21 + c % 2) (c / 2) j = tR a (21 + c % 2) (c / 2) j := fun j => k4 _ _ _ (fun q => by omega)
      have ev := x39_4 (z := z) (k := k) (m := m) (st := (drp a c (tI a 25 0 0) k).2) (r := r) p1 k1 (by rw [y2]; exact p2) (by rw [y1]; exact hm) (by omega) (by omega) (by rw [y4]; exact p8) (by rw [y4]; exact p3) (by rw [y2]; exact p4) (by rw [y2]; exact hcN) (by rw [y3]; omega) (by rw [y3]; omega) (by rw [k3 k (Nat.le_refl _)]; exact r2) (by rw [y2]; exact r1)
      rw [lf_39_4] at ev
      rw [ev, e0, y1, r2]
      show (if tI a 10 r 12 = _ then _ else _) = _
      by_cases e : tI a 10 r 12 = tI a 25 0 0
      · rw [if_pos e, if_pos (show (eC a (some (10, r))).1 = _ from e)]
      · rw [if_neg e, if_neg (show ¬ (eC a (some (10, r))).1 = _ from e)]
  obtain ⟨k1, k2, k3, k4, ⟨k5, k6, k7⟩, k8⟩ := key m hmz
  refine ⟨sI (drp a c (tI a 25 0 0) m).1 (21 + c % 2) (c / 2) 3 (Int32.ofNat (drp a c (tI a 25 0 0) m).2), fun z => ?_, ?_⟩
  · refine (X_o p1 (by decide +kernel) p2 rfl).trans ((lf_39_0 ..).trans ?_)
    have := step z m (Nat.le_refl _)
    refine Eq.trans this ?_
    rw [lf_39_4]
    have y1 : tI (drp a c (tI a 25 0 0) m).1 = tI a := k5
    have y2 : tN (drp a c (tI a 25 0 0) m).1 = tN a := congrArg (fun q => q.1) k7
    have z1 : tI (drp a c (tI a 25 0 0) m).1 (21 + c % 2) (c / 2) 3 = Int32.ofNat m := by rw [y1]; exact hm
    have z2 : c / 2 < tN (drp a c (tI a 25 0 0) m).1 (21 + c % 2) := by rw [y2]; exact p2
    have g3 : Int32.ofNat m ≤ Int32.ofNat m := Int32.le_refl _
    simp (config := {decide := true}) only [gfI_enc, gfL_enc, gfR_enc, pfI_enc, pfL_enc, pfR_enc, Option.bind_some, cI_v, cL_v, cF_v, cD_v, cR_v, cV_v, cI_x, cL_x, cR_x, cV_x, gz_0, gz_1, acc_enc, tI_sI, tL_sI, tR_sI, tN_sI, tZ_sI, tC_sI, tc_sI, tz_sI, tI_sL, tL_sL, tR_sL, tN_sL, tZ_sL, tC_sL, tc_sL, tz_sL, tI_sR, tL_sR, tR_sR, tN_sR, tZ_sR, tC_sR, tc_sR, tz_sR, tI_sZ, tL_sZ, tR_sZ, tN_sZ, tZ_sZ, tC_sZ, tc_sZ, tz_sZ, tI_sC, tL_sC, tR_sC, tN_sC, tZ_sC, tC_sC, tc_sC, tz_sC, tI_aC, tL_aC, tR_aC, tN_aC, tZ_aC, tC_aC, tc_aC, tz_aC, tI_rmL, tL_rmL, tR_rmL, tN_rmL, tZ_rmL, tC_rmL, tc_rmL, tz_rmL, tI_mk, tL_mk, tR_mk, tN_mk, tZ_mk, tC_mk, tc_mk, tz_mk, tI_pushL, tL_pushL, tR_pushL, tN_pushL, tZ_pushL, tC_pushL, tc_pushL, tz_pushL, tI_pushB, tL_pushB, tR_pushB, tN_pushB, tZ_pushB, tC_pushB, tc_pushB, tz_pushB, tI_cpL, tL_cpL, tR_cpL, tN_cpL, tZ_cpL, tC_cpL, tc_cpL, tz_cpL, eq_self, true_and, and_true, false_and, and_false, if_true, if_false, reduceIte, ite_true, ite_false, not_true_eq_false, not_false_eq_true, gI_o p1, pI_o p1, z1, z2, g3]
  · have hst : Wr a (drp a c (tI a 25 0 0) m).1 := drp_stp _ _ _ _
    generalize (drp a c (tI a 25 0 0) m).2 = st at *
    generalize (drp a c (tI a 25 0 0) m).1 = mm at *
    have y1 : tI mm = tI a := k5
    have y2 : tN mm = tN a := congrArg (fun q => q.1) k7
    have y3 : tZ mm = tZ a := congrArg (fun q => q.2.1) k7
    have y5 : tC mm = tC a := congrArg (fun q => q.2.2.1) k7
    have y6 : tc mm = tc a := congrArg (fun q => q.2.2.2.1) k7
    have y7 : tz mm = tz a := congrArg (fun q => q.2.2.2.2) k7
    have eI : ∀ s i k, ¬ (s = 21 + c % 2 ∧ i = c / 2 ∧ k = 3) → tI (sI mm (21 + c % 2) (c / 2) 3 (Int32.ofNat st)) s i k = tI a s i k := fun s i k h => by rw [tI_sI, if_neg h, y1]
    have eS : tI (sI mm (21 + c % 2) (c / 2) 3 (Int32.ofNat st)) (21 + c % 2) (c / 2) 3 = Int32.ofNat st := by rw [tI_sI, if_pos ⟨rfl, rfl, rfl⟩]
    have oth : ∀ c', c' ≠ c → ∀ k, tI (sI mm (21 + c % 2) (c / 2) 3 (Int32.ofNat st)) (21 + c' % 2) (c' / 2) k = tI a (21 + c' % 2) (c' / 2) k := fun c' hne k => eI _ _ _ (fun q => ln_ne hne ⟨q.1, q.2.1⟩)
    have hT' : LaT (sI mm (21 + c % 2) (c / 2) 3 (Int32.ofNat st)) n := by
      refine ⟨k1, (congrFun y2 9).trans h9, fun c' hc2 => ⟨?_, ?_⟩⟩
      · obtain ⟨⟨q1, q2, q3, q4, q5, q6, q7, q8, q9⟩, -⟩ := hc' c' hc2
        have yR : ∀ k, tR mm (21 + c' % 2) (c' / 2) k = tR a (21 + c' % 2) (c' / 2) k := fun k => k4 _ _ _ (fun q => by omega)
        exact ⟨q1, by rw [tN_sI, y2]; exact q2, by rw [tR_sI, yR]; exact q3, by rw [tN_sI, y2]; exact q4, by rw [tR_sI, yR]; exact q5, by rw [tN_sI, y2]; exact q6, by rw [tZ_sI, y3]; exact q7, by rw [tR_sI, yR]; exact q8, by rw [tN_sI, y2]; exact q9⟩
      · by_cases e : c' = c
        · subst e
          exact ⟨st, eS, by rw [tZ_sI, y3]; omega⟩
        · obtain ⟨-, m', hm', hmz'⟩ := hc' c' hc2
          exact ⟨m', by rw [oth c' e]; exact hm', by rw [tZ_sI, y3]; exact hmz'⟩
    have eE : ∀ q : Nat × Nat, q.1 = 10 → eC (sI mm (21 + c % 2) (c / 2) 3 (Int32.ofNat st)) (some q) = eC a (some q) := fun q hq => by
      obtain ⟨q1, q2⟩ := q
      dsimp only at hq
      subst hq
      exact eC_congr (fun f => eI _ _ _ (fun h => by omega))
    refine ⟨hT', ?_, fun c' hc2 hne => ?_, fun s i k h => ?_, fun c' k hne => ?_, eI, k6, y2, y3, y5, y6, y7, hst.cI _ _ _ _⟩
    · rw [vA_of hT' hc eS (by rw [tZ_sI, y3]; omega), vA_of hT0 hc hm hmz, ← k8]
      unfold vL
      refine List.map_congr_left (fun k hk => ?_)
      have hk := List.mem_range.mp hk
      obtain ⟨r, r1, r2⟩ := k1.1 c (by rw [y2]; exact hcN) k (by rw [y3]; omega)
      rw [tR_sI, r2]
      exact eE _ rfl
    · unfold vA
      rw [oth c' hne]
      obtain ⟨-, m', hm', hmz'⟩ := hc' c' hc2
      have := LaT_le hT0 hc2
      rw [hm', o_ix (by omega)]
      unfold vL
      refine List.map_congr_left (fun k hk => ?_)
      have hk := List.mem_range.mp hk
      obtain ⟨r, r1, r2⟩ := hL.1 c' (by omega) k (by omega)
      rw [tR_sI, k4 _ _ _ (fun q => hne q.2), r2]
      exact eE _ rfl
    · rw [tR_sI]; exact k4 _ _ _ (fun q => h q.1)
    · rw [tR_sI]; exact k4 _ _ _ (fun q => hne q.2)
