/-! ===== a mail is taken from a cable ===== -/
theorem n_ms {c ms : Nat} (h : ms = 50 ∨ ms = 52) : ¬ 74 + c % 2 = ms := by omega
theorem n_ds {c ds : Nat} (h : ds = 49 ∨ ds = 51) : ¬ 74 + c % 2 = ds := by omega
/-- the entries behind one go up by one -/
def shf1 (ds di ms mi p : Nat) (m : TS) (k : Nat) : TS := sR (sI m ds di (p + k) (tI m ds di (p + k + 1))) ms mi (p + k) (tR m ms mi (p + k + 1))
def takn (b : TS) (cb s n ds di ms mi p : Nat) : TS :=
  sR (itr (shf1 ds di ms mi p) (n - 1 - p) (sI b cb s 1 (Int32.ofNat (n - 1)))) ms mi (n - 1) none
theorem itr_shf {ds di ms mi p : Nat} {m : TS} (hne : ds ≠ ms) : ∀ k : Nat, (∀ s i j, tI (itr (shf1 ds di ms mi p) k m) s i j = if s = ds ∧ i = di ∧ p ≤ j ∧ j < p + k then tI m ds di (j + 1) else tI m s i j) ∧ (∀ s i j, tR (itr (shf1 ds di ms mi p) k m) s i j = if s = ms ∧ i = mi ∧ p ≤ j ∧ j < p + k then tR m ms mi (j + 1) else tR m s i j) ∧ (∀ s, tN (itr (shf1 ds di ms mi p) k m) s = tN m s) ∧ (∀ s i, tZ (itr (shf1 ds di ms mi p) k m) s i = tZ m s i) := by
  intro k
  induction k with
  | zero => exact ⟨fun s i j => (if_neg (fun q => by omega)).symm, fun s i j => (if_neg (fun q => by omega)).symm, fun _ => rfl, fun _ _ => rfl⟩
  | succ k ih =>
    obtain ⟨i1, i2, i3, i4⟩ := ih
    have e0 : ∀ M, shf1 ds di ms mi p M k = sR (sI M ds di (p + k) (tI M ds di (p + k + 1))) ms mi (p + k) (tR M ms mi (p + k + 1)) := fun _ => rfl
    refine ⟨fun s i j => ?_, fun s i j => ?_, i3, i4⟩
    · show tI (shf1 ds di ms mi p (itr (shf1 ds di ms mi p) k m) k) s i j = _
      rw [e0, tI_sR, tI_sI, i1, i1, if_neg (c := ds = ds ∧ di = di ∧ p ≤ p + k + 1 ∧ p + k + 1 < p + k) (fun q => by omega)]
      by_cases e : s = ds ∧ i = di
      · by_cases e2 : j = p + k
        · rw [if_pos ⟨e.1, e.2, e2⟩, if_pos ⟨e.1, e.2, by omega, by omega⟩, e2]
        · rw [if_neg (c := s = ds ∧ i = di ∧ j = p + k) (fun q => e2 q.2.2)]
          by_cases e3 : p ≤ j ∧ j < p + k
          · rw [if_pos ⟨e.1, e.2, e3⟩, if_pos ⟨e.1, e.2, by omega, by omega⟩]
          · rw [if_neg (fun q => e3 q.2.2), if_neg (fun q => by omega)]
      · rw [if_neg (fun q => e ⟨q.1, q.2.1⟩), if_neg (fun q => e ⟨q.1, q.2.1⟩), if_neg (fun q => e ⟨q.1, q.2.1⟩)]
    · show tR (shf1 ds di ms mi p (itr (shf1 ds di ms mi p) k m) k) s i j = _
      rw [e0, tR_sR, tR_sI, i2, i2, if_neg (c := ms = ms ∧ mi = mi ∧ p ≤ p + k + 1 ∧ p + k + 1 < p + k) (fun q => by omega)]
      by_cases e : s = ms ∧ i = mi
      · by_cases e2 : j = p + k
        · rw [if_pos ⟨e.1, e.2, e2⟩, if_pos ⟨e.1, e.2, by omega, by omega⟩, e2]
        · rw [if_neg (c := s = ms ∧ i = mi ∧ j = p + k) (fun q => e2 q.2.2)]
          by_cases e3 : p ≤ j ∧ j < p + k
          · rw [if_pos ⟨e.1, e.2, e3⟩, if_pos ⟨e.1, e.2, by omega, by omega⟩]
          · rw [if_neg (fun q => e3 q.2.2), if_neg (fun q => by omega)]
      · rw [if_neg (fun q => e ⟨q.1, q.2.1⟩), if_neg (fun q => e ⟨q.1, q.2.1⟩), if_neg (fun q => e ⟨q.1, q.2.1⟩)]
theorem o_sub {n : Nat} (h : 0 < n) : Int32.ofNat n - 1 = Int32.ofNat (n - 1) := by
  have : n = n - 1 + 1 := by omega
  rw [this, ← o_s, Nat.add_sub_cancel]
  exact Int32.add_sub_cancel _ _
set_option maxHeartbeats 4000000 in
theorem x156_56 {b : TS} {z : Hp} {cb s f n ds di ms mi cap p : Nat} {q : Option (Nat × Nat)} (hP : CbP b cb s f n ds di ms mi cap) (hp : p < n) :
    Ru 156 56 [(0, aR (some (cb, s))), (3, aR q), (4, aI (Int32.ofNat p))] [] (enc 2 (sI b cb s 1 (Int32.ofNat (n - 1))) z) = some (.inl (some (aR q)), enc 2 (takn b cb s n ds di ms mi p) z) := by
  obtain ⟨p1, p2, p3, p4, p5, p6, p7, p8, p9, p10, p11, p12, p13, p14, p15, p16, p17, p18⟩ := hP
  have hne : ds ≠ ms := fun e => by
    have h1 := p8.2
    rw [e, p12.2] at h1
    exact absurd h1 (by decide)
  have dc : ¬ cb = ds := fun h => by
    have h1 := p1.2
    rw [h, p8.2] at h1
    exact absurd h1 (by decide)
  have mc : ¬ cb = ms := fun h => by
    have h1 := p1.2
    rw [h, p12.2] at h1
    exact absurd h1 (by decide)
  have facts := fun k => itr_shf (ds := ds) (di := di) (ms := ms) (mi := mi) (p := p) (m := sI b cb s 1 (Int32.ofNat (n - 1))) hne k
  have run := itr_run (w := 2) (p := 156) (pc := 56) (L := fun k => [(0, aR (some (cb, s))), (3, aR q), (4, aI (Int32.ofNat (p + k)))]) (f := shf1 ds di ms mi p) (m := sI b cb s 1 (Int32.ofNat (n - 1))) (z := z) (n := n - 1 - p) (fun k hk => by
    obtain ⟨i1, i2, i3, i4⟩ := facts k
    have g1 : (Int32.ofNat (p + k)).toNatClampNeg = p + k := o_ix (by omega)
    have g2 : ¬ Int32.ofNat (p + k) < 0 := o_lt0 (by omega)
    have g3 : ¬ Int32.ofNat (n - 1) ≤ Int32.ofNat (p + k) := by rw [o_le (by omega) (by omega)]; omega
    have g4 : (Int32.ofNat (p + k + 1)).toNatClampNeg = p + k + 1 := o_ix (by omega)
    have g5 : ¬ Int32.ofNat (p + k + 1) < 0 := o_lt0 (by omega)
    have y1 : tI (itr (shf1 ds di ms mi p) k (sI b cb s 1 (Int32.ofNat (n - 1)))) cb s 1 = Int32.ofNat (n - 1) := by rw [i1, if_neg (fun q => dc q.1), tI_sI, if_pos ⟨rfl, rfl, rfl⟩]
    have y2 : tR (itr (shf1 ds di ms mi p) k (sI b cb s 1 (Int32.ofNat (n - 1)))) cb s 2 = some (ds, di) := by rw [i2, if_neg (fun q => mc q.1)]; exact p7
    have y3 : tR (itr (shf1 ds di ms mi p) k (sI b cb s 1 (Int32.ofNat (n - 1)))) cb s 3 = some (ms, mi) := by rw [i2, if_neg (fun q => mc q.1)]; exact p11
    have y4 : s < tN (itr (shf1 ds di ms mi p) k (sI b cb s 1 (Int32.ofNat (n - 1)))) cb := by rw [i3]; exact p2
    have y5 : di < tN (itr (shf1 ds di ms mi p) k (sI b cb s 1 (Int32.ofNat (n - 1)))) ds := by rw [i3]; exact p9
    have y6 : mi < tN (itr (shf1 ds di ms mi p) k (sI b cb s 1 (Int32.ofNat (n - 1)))) ms := by rw [i3]; exact p13
    have y7 : p + k < tZ (itr (shf1 ds di ms mi p) k (sI b cb s 1 (Int32.ofNat (n - 1)))) ds di := by rw [i4, tZ_sI, p10]; omega
    have y8 : p + k < tZ (itr (shf1 ds di ms mi p) k (sI b cb s 1 (Int32.ofNat (n - 1)))) ms mi := by rw [i4, tZ_sI, p14]; omega
    have y7' : p + k + 1 < tZ (itr (shf1 ds di ms mi p) k (sI b cb s 1 (Int32.ofNat (n - 1)))) ds di := by rw [i4, tZ_sI, p10]; omega
    have y8' : p + k + 1 < tZ (itr (shf1 ds di ms mi p) k (sI b cb s 1 (Int32.ofNat (n - 1)))) ms mi := by rw [i4, tZ_sI, p14]; omega
    obtain ⟨q', q1, q2, q3⟩ := p18 (p + k + 1) (by omega)
    have y13 : tR (itr (shf1 ds di ms mi p) k (sI b cb s 1 (Int32.ofNat (n - 1)))) ms mi (p + k + 1) = some q' := by rw [i2, if_neg (fun q => by omega)]; exact q1
    have y14 : q'.2 < tN (itr (shf1 ds di ms mi p) k (sI b cb s 1 (Int32.ofNat (n - 1)))) q'.1 := by rw [i3]; exact q3
    show Ru 156 56 _ [] _ = Ru 156 56 _ [] (enc 2 (shf1 ds di ms mi p (itr (shf1 ds di ms mi p) k (sI b cb s 1 (Int32.ofNat (n - 1)))) k) z)
    rw [lf_156_56]
    generalize itr (shf1 ds di ms mi p) k (sI b cb s 1 (Int32.ofNat (n - 1))) = mm at *
    have y15 : okV 2 (sI mm ds di (p + k) (tI mm ds di (p + k + 1))) ms (some q') := okV_q p12 q2 y14
    unfold shf1
    simp (config := {decide := true}) only [gfI_enc, gfL_enc, gfR_enc, pfI_enc, pfL_enc, pfR_enc, Option.bind_some, cI_v, cL_v, cF_v, cD_v, cR_v, cV_v, cI_x, cL_x, cR_x, cV_x, gz_0, gz_1, acc_enc, tI_sI, tL_sI, tR_sI, tN_sI, tZ_sI, tC_sI, tc_sI, tz_sI, tI_sL, tL_sL, tR_sL, tN_sL, tZ_sL, tC_sL, tc_sL, tz_sL, tI_sR, tL_sR, tR_sR, tN_sR, tZ_sR, tC_sR, tc_sR, tz_sR, tI_sZ, tL_sZ, tR_sZ, tN_sZ, tZ_sZ, tC_sZ, tc_sZ, tz_sZ, tI_sC, tL_sC, tR_sC, tN_sC, tZ_sC, tC_sC, tc_sC, tz_sC, tI_aC, tL_aC, tR_aC, tN_aC, tZ_aC, tC_aC, tc_aC, tz_aC, tI_rmL, tL_rmL, tR_rmL, tN_rmL, tZ_rmL, tC_rmL, tc_rmL, tz_rmL, tI_mk, tL_mk, tR_mk, tN_mk, tZ_mk, tC_mk, tc_mk, tz_mk, tI_pushL, tL_pushL, tR_pushL, tN_pushL, tZ_pushL, tC_pushL, tc_pushL, tz_pushL, tI_pushB, tL_pushB, tR_pushB, tN_pushB, tZ_pushB, tC_pushB, tc_pushB, tz_pushB, tI_cpL, tL_cpL, tR_cpL, tN_cpL, tZ_cpL, tC_cpL, tc_cpL, tz_cpL, eq_self, true_and, and_true, false_and, and_false, if_true, if_false, reduceIte, ite_true, ite_false, not_true_eq_false, not_false_eq_true, gI_o p1, gR_o p1, y4, y1, y2, y3, g1, g2, g3, g4, g5, gaI_o p8, y5, y7, y7', paI_o p8, gaR_o p12, y6, y8, y8', y13, paR_o p12, y15, dc, mc, o_s]
    rfl)
  have run' : Ru 156 56 [(0, aR (some (cb, s))), (3, aR q), (4, aI (Int32.ofNat p))] [] (enc 2 (sI b cb s 1 (Int32.ofNat (n - 1))) z) = _ := run
  rw [run', show p + (n - 1 - p) = n - 1 by omega, lf_156_56]
  unfold takn
  obtain ⟨i1, i2, i3, i4⟩ := facts (n - 1 - p)
  have y1 : tI (itr (shf1 ds di ms mi p) (n - 1 - p) (sI b cb s 1 (Int32.ofNat (n - 1)))) cb s 1 = Int32.ofNat (n - 1) := by rw [i1, if_neg (fun q => dc q.1), tI_sI, if_pos ⟨rfl, rfl, rfl⟩]
  have y3 : tR (itr (shf1 ds di ms mi p) (n - 1 - p) (sI b cb s 1 (Int32.ofNat (n - 1)))) cb s 3 = some (ms, mi) := by rw [i2, if_neg (fun q => mc q.1)]; exact p11
  have y4 : s < tN (itr (shf1 ds di ms mi p) (n - 1 - p) (sI b cb s 1 (Int32.ofNat (n - 1)))) cb := by rw [i3]; exact p2
  have y6 : mi < tN (itr (shf1 ds di ms mi p) (n - 1 - p) (sI b cb s 1 (Int32.ofNat (n - 1)))) ms := by rw [i3]; exact p13
  have y8 : n - 1 < tZ (itr (shf1 ds di ms mi p) (n - 1 - p) (sI b cb s 1 (Int32.ofNat (n - 1)))) ms mi := by rw [i4, tZ_sI, p14]; omega
  have g1 : (Int32.ofNat (n - 1)).toNatClampNeg = n - 1 := o_ix (by omega)
  have g2 : ¬ Int32.ofNat (n - 1) < 0 := o_lt0 (by omega)
  have g3 : Int32.ofNat (n - 1) ≤ Int32.ofNat (n - 1) := Int32.le_refl _
  generalize itr (shf1 ds di ms mi p) (n - 1 - p) (sI b cb s 1 (Int32.ofNat (n - 1))) = mm at *
  have y15 : okV 2 mm ms none := okV_n p12 (by decide)
  simp (config := {decide := true}) only [gfI_enc, gfL_enc, gfR_enc, pfI_enc, pfL_enc, pfR_enc, Option.bind_some, cI_v, cL_v, cF_v, cD_v, cR_v, cV_v, cI_x, cL_x, cR_x, cV_x, gz_0, gz_1, acc_enc, tI_sI, tL_sI, tR_sI, tN_sI, tZ_sI, tC_sI, tc_sI, tz_sI, tI_sL, tL_sL, tR_sL, tN_sL, tZ_sL, tC_sL, tc_sL, tz_sL, tI_sR, tL_sR, tR_sR, tN_sR, tZ_sR, tC_sR, tc_sR, tz_sR, tI_sZ, tL_sZ, tR_sZ, tN_sZ, tZ_sZ, tC_sZ, tc_sZ, tz_sZ, tI_sC, tL_sC, tR_sC, tN_sC, tZ_sC, tC_sC, tc_sC, tz_sC, tI_aC, tL_aC, tR_aC, tN_aC, tZ_aC, tC_aC, tc_aC, tz_aC, tI_rmL, tL_rmL, tR_rmL, tN_rmL, tZ_rmL, tC_rmL, tc_rmL, tz_rmL, tI_mk, tL_mk, tR_mk, tN_mk, tZ_mk, tC_mk, tc_mk, tz_mk, tI_pushL, tL_pushL, tR_pushL, tN_pushL, tZ_pushL, tC_pushL, tc_pushL, tz_pushL, tI_pushB, tL_pushB, tR_pushB, tN_pushB, tZ_pushB, tC_pushB, tc_pushB, tz_pushB, tI_cpL, tL_cpL, tR_cpL, tN_cpL, tZ_cpL, tC_cpL, tc_cpL, tz_cpL, eq_self, true_and, and_true, false_and, and_false, if_true, if_false, reduceIte, ite_true, ite_false, not_true_eq_false, not_false_eq_true, gI_o p1, gR_o p1, y4, y1, y3, g1, g2, g3, paR_o p12, y6, y8, y15]
/-- the search for the first entry that comes -/
theorem x156_2 {b : TS} {z : Hp} {cb s f n ds di ms mi cap : Nat} {t : Int32} (hP : CbP b cb s f n ds di ms mi cap) : ∀ k p : Nat, p + k ≤ n → (∀ j, p ≤ j → j < p + k → tI b ds di j ≠ t) →
    Ru 156 2 [(0, aR (some (cb, s))), (1, aI t), (2, aI (Int32.ofNat p))] [] (enc 2 b z) = Ru 156 2 [(0, aR (some (cb, s))), (1, aI t), (2, aI (Int32.ofNat (p + k)))] [] (enc 2 b z) := by
  obtain ⟨p1, p2, p3, p4, p5, p6, p7, p8, p9, p10, p11, p12, p13, p14, p15, p16, p17, p18⟩ := hP
  intro k
  induction k with
  | zero => exact fun _ _ _ => rfl
  | succ k ih =>
    intro p hk hj
    rw [ih p (by omega) (fun j h1 h2 => hj j h1 (by omega)), lf_156_2]
    have g1 : (Int32.ofNat (p + k)).toNatClampNeg = p + k := o_ix (by omega)
    have g2 : ¬ Int32.ofNat (p + k) < 0 := o_lt0 (by omega)
    have g3 : ¬ Int32.ofNat n ≤ Int32.ofNat (p + k) := by rw [o_le (by omega) (by omega)]; omega
    have g4 : p + k < tZ b ds di := by omega
    have g5 : tI b ds di (p + k) ≠ t := hj (p + k) (by omega) (by omega)
    simp (config := {decide := true}) only [gfI_enc, gfL_enc, gfR_enc, pfI_enc, pfL_enc, pfR_enc, Option.bind_some, cI_v, cL_v, cF_v, cD_v, cR_v, cV_v, cI_x, cL_x, cR_x, cV_x, gz_0, gz_1, acc_enc, tI_sI, tL_sI, tR_sI, tN_sI, tZ_sI, tC_sI, tc_sI, tz_sI, tI_sL, tL_sL, tR_sL, tN_sL, tZ_sL, tC_sL, tc_sL, tz_sL, tI_sR, tL_sR, tR_sR, tN_sR, tZ_sR, tC_sR, tc_sR, tz_sR, tI_sZ, tL_sZ, tR_sZ, tN_sZ, tZ_sZ, tC_sZ, tc_sZ, tz_sZ, tI_sC, tL_sC, tR_sC, tN_sC, tZ_sC, tC_sC, tc_sC, tz_sC, tI_aC, tL_aC, tR_aC, tN_aC, tZ_aC, tC_aC, tc_aC, tz_aC, tI_rmL, tL_rmL, tR_rmL, tN_rmL, tZ_rmL, tC_rmL, tc_rmL, tz_rmL, tI_mk, tL_mk, tR_mk, tN_mk, tZ_mk, tC_mk, tc_mk, tz_mk, tI_pushL, tL_pushL, tR_pushL, tN_pushL, tZ_pushL, tC_pushL, tc_pushL, tz_pushL, tI_pushB, tL_pushB, tR_pushB, tN_pushB, tZ_pushB, tC_pushB, tc_pushB, tz_pushB, tI_cpL, tL_cpL, tR_cpL, tN_cpL, tZ_cpL, tC_cpL, tc_cpL, tz_cpL, eq_self, true_and, and_true, false_and, and_false, if_true, if_false, reduceIte, ite_true, ite_false, not_true_eq_false, not_false_eq_true, gI_o p1, gR_o p1, p2, p6, p7, gaI_o p8, p9, g1, g2, g3, g4, g5, o_s]
    rfl
theorem vR_at {b : TS} {ds di ms mi n k : Nat} (h : k < n) : (vR b ds di ms mi n)[k]? = some (tI b ds di k, qv b (tR b ms mi k)) := by
  unfold vR
  rw [List.getElem?_map, List.getElem?_range h]
  rfl
theorem x156_n {b : TS} {n c : Nat} {t : Int32} (hT : CaT b n) (hc : c < n) (h : ∀ e ∈ vQ b c, e.1 ≠ t) (z : Hp) : Ex 156 [aR (some (74 + c % 2, c / 2)), aI t] (enc 2 b z) = some (.inl (some (aR none)), enc 2 b z) := by
  obtain ⟨m, ds, di, ms, mi, cap, hP, -, -⟩ := hT.1 c hc
  have hP0 := hP
  rw [vQ_of hP] at h
  obtain ⟨p1, p2, p3, p4, p5, p6, p7, p8, p9, p10, p11, p12, p13, p14, p15, p16, p17, p18⟩ := hP
  refine (X_o p1 (by decide +kernel) p2 rfl).trans ((lf_156_0 ..).trans ?_)
  have := x156_2 (z := z) (t := t) hP0 m 0 (by omega) (fun j _ hj => h _ (List.mem_of_getElem? (vR_at (by omega))))
  rw [Nat.zero_add] at this
  show Ru 156 2 [(0, aR (some (74 + c % 2, c / 2))), (1, aI t), (2, aI (Int32.ofNat 0))] [] (enc 2 b z) = _
  rw [this, lf_156_2]
  have g3 : Int32.ofNat m ≤ Int32.ofNat m := Int32.le_refl _
  simp (config := {decide := true}) only [gfI_enc, gfL_enc, gfR_enc, pfI_enc, pfL_enc, pfR_enc, Option.bind_some, cI_v, cL_v, cF_v, cD_v, cR_v, cV_v, cI_x, cL_x, cR_x, cV_x, gz_0, gz_1, acc_enc, tI_sI, tL_sI, tR_sI, tN_sI, tZ_sI, tC_sI, tc_sI, tz_sI, tI_sL, tL_sL, tR_sL, tN_sL, tZ_sL, tC_sL, tc_sL, tz_sL, tI_sR, tL_sR, tR_sR, tN_sR, tZ_sR, tC_sR, tc_sR, tz_sR, tI_sZ, tL_sZ, tR_sZ, tN_sZ, tZ_sZ, tC_sZ, tc_sZ, tz_sZ, tI_sC, tL_sC, tR_sC, tN_sC, tZ_sC, tC_sC, tc_sC, tz_sC, tI_aC, tL_aC, tR_aC, tN_aC, tZ_aC, tC_aC, tc_aC, tz_aC, tI_rmL, tL_rmL, tR_rmL, tN_rmL, tZ_rmL, tC_rmL, tc_rmL, tz_rmL, tI_mk, tL_mk, tR_mk, tN_mk, tZ_mk, tC_mk, tc_mk, tz_mk, tI_pushL, tL_pushL, tR_pushL, tN_pushL, tZ_pushL, tC_pushL, tc_pushL, tz_pushL, tI_pushB, tL_pushB, tR_pushB, tN_pushB, tZ_pushB, tC_pushB, tc_pushB, tz_pushB, tI_cpL, tL_cpL, tR_cpL, tN_cpL, tZ_cpL, tC_cpL, tc_cpL, tz_cpL, eq_self, true_and, and_true, false_and, and_false, if_true, if_false, reduceIte, ite_true, ite_false, not_true_eq_false, not_false_eq_true, gI_o p1, p2, p6, g3]
/-- what a take does -/
def CtK (b b' : TS) (n c : Nat) (l : List (Int32 × (Nat → Int32))) : Prop :=
  CaT b' n ∧ vQ b' c = l ∧ (∀ c', c' < n → c' ≠ c → vQ b' c' = vQ b c') ∧ chg [49, 50, 51, 52, 74, 75] b b' ∧ (∀ t, tN b' t = tN b t) ∧ (∀ t i, tZ b' t i = tZ b t i) ∧ Wr b b' ∧ (∀ c', capc b' c' = capc b c') ∧ S5 b' = S5 b
theorem itr_chg {D : List Nat} {f : TS → Nat → TS} (hf : ∀ m k, chg D m (f m k)) : ∀ (k : Nat) (m : TS), chg D m (itr f k m)
  | 0, m => chg_r _ _
  | k + 1, m => chg_t (itr_chg hf k m) (hf _ _)
set_option maxHeartbeats 4000000 in
theorem x156_s {b : TS} {n c : Nat} {t : Int32} {pre post : List (Int32 × (Nat → Int32))} {g : Nat → Int32} (hT : CaT b n) (hc : c < n) (hv : vQ b c = pre ++ (t, g) :: post) (h : ∀ e ∈ pre, e.1 ≠ t) :
    ∃ b' q, (∀ z, Ex 156 [aR (some (74 + c % 2, c / 2)), aI t] (enc 2 b z) = some (.inl (some (aR (some q))), enc 2 b' z)) ∧ isQ q.1 ∧ q.2 < tN b q.1 ∧ qv b (some q) = g ∧ CtK b b' n c (pre ++ post) := by
  obtain ⟨h1, h2⟩ := hT
  obtain ⟨m, ds, di, ms, mi, cap, hP, hds, hms⟩ := h1 c hc
  have hP0 := hP
  rw [vQ_of hP] at hv
  have hlen : m = pre.length + (post.length + 1) := by
    have := congrArg List.length hv
    rw [vR_len, List.length_append, List.length_cons] at this
    exact this
  have at_pre : ∀ j, j < pre.length → pre[j]? = some (tI b ds di j, qv b (tR b ms mi j)) := fun j hj => by
    have := vR_at (b := b) (ds := ds) (di := di) (ms := ms) (mi := mi) (n := m) (k := j) (by omega)
    rw [hv, List.getElem?_append_left hj] at this
    exact this
  have at_p : (t, g) = (tI b ds di pre.length, qv b (tR b ms mi pre.length)) := by
    have := vR_at (b := b) (ds := ds) (di := di) (ms := ms) (mi := mi) (n := m) (k := pre.length) (by omega)
    rw [hv, List.getElem?_append_right (Nat.le_refl _), Nat.sub_self] at this
    exact Option.some.inj this
  have at_post : ∀ j, j < post.length → post[j]? = some (tI b ds di (pre.length + 1 + j), qv b (tR b ms mi (pre.length + 1 + j))) := fun j hj => by
    have := vR_at (b := b) (ds := ds) (di := di) (ms := ms) (mi := mi) (n := m) (k := pre.length + 1 + j) (by omega)
    rw [hv, List.getElem?_append_right (by omega), show pre.length + 1 + j - pre.length = j + 1 by omega, List.getElem?_cons_succ] at this
    exact this
  obtain ⟨p1, p2, p3, p4, p5, p6, p7, p8, p9, p10, p11, p12, p13, p14, p15, p16, p17, p18⟩ := hP
  obtain ⟨q, q1, q2, q3⟩ := p18 pre.length (by omega)
  have e1 : tI b ds di pre.length = t := (congrArg Prod.fst at_p).symm
  have e2 : qv b (some q) = g := by rw [← q1]; exact (congrArg Prod.snd at_p).symm
  have hne : ds ≠ ms := fun e => by
    have h1 := p8.2
    rw [e, p12.2] at h1
    exact absurd h1 (by decide)
  have dc : ¬ 74 + c % 2 = ds := by omega
  have mc : ¬ 74 + c % 2 = ms := by omega
  refine ⟨takn b (74 + c % 2) (c / 2) m ds di ms mi pre.length, q, fun z => ?_, q2, q3, e2, ?_⟩
  · refine (X_o p1 (by decide +kernel) p2 rfl).trans ((lf_156_0 ..).trans ?_)
    have := x156_2 (z := z) (t := t) hP0 pre.length 0 (by omega) (fun j _ hj => by
      have := h _ (List.mem_of_getElem? (at_pre j (by omega)))
      exact this)
    rw [Nat.zero_add] at this
    show Ru 156 2 [(0, aR (some (74 + c % 2, c / 2))), (1, aI t), (2, aI (Int32.ofNat 0))] [] (enc 2 b z) = _
    rw [this, lf_156_2]
    have g1 : (Int32.ofNat pre.length).toNatClampNeg = pre.length := o_ix (by omega)
    have g2 : ¬ Int32.ofNat pre.length < 0 := o_lt0 (by omega)
    have g3 : ¬ Int32.ofNat m ≤ Int32.ofNat pre.length := by rw [o_le (by omega) (by omega)]; omega
    have g4 : ¬ Int32.ofNat pre.length = Int32.ofNat m := fun e => by have := o_inj (by omega) (by omega) e; omega
    have g5 : pre.length < tZ b ds di := by omega
    have g6 : pre.length < tZ b ms mi := by omega
    have g7 := o_sub (n := m) (by omega)
    simp (config := {decide := true}) only [gfI_enc, gfL_enc, gfR_enc, pfI_enc, pfL_enc, pfR_enc, Option.bind_some, cI_v, cL_v, cF_v, cD_v, cR_v, cV_v, cI_x, cL_x, cR_x, cV_x, gz_0, gz_1, acc_enc, tI_sI, tL_sI, tR_sI, tN_sI, tZ_sI, tC_sI, tc_sI, tz_sI, tI_sL, tL_sL, tR_sL, tN_sL, tZ_sL, tC_sL, tc_sL, tz_sL, tI_sR, tL_sR, tR_sR, tN_sR, tZ_sR, tC_sR, tc_sR, tz_sR, tI_sZ, tL_sZ, tR_sZ, tN_sZ, tZ_sZ, tC_sZ, tc_sZ, tz_sZ, tI_sC, tL_sC, tR_sC, tN_sC, tZ_sC, tC_sC, tc_sC, tz_sC, tI_aC, tL_aC, tR_aC, tN_aC, tZ_aC, tC_aC, tc_aC, tz_aC, tI_rmL, tL_rmL, tR_rmL, tN_rmL, tZ_rmL, tC_rmL, tc_rmL, tz_rmL, tI_mk, tL_mk, tR_mk, tN_mk, tZ_mk, tC_mk, tc_mk, tz_mk, tI_pushL, tL_pushL, tR_pushL, tN_pushL, tZ_pushL, tC_pushL, tc_pushL, tz_pushL, tI_pushB, tL_pushB, tR_pushB, tN_pushB, tZ_pushB, tC_pushB, tc_pushB, tz_pushB, tI_cpL, tL_cpL, tR_cpL, tN_cpL, tZ_cpL, tC_cpL, tc_cpL, tz_cpL, eq_self, true_and, and_true, false_and, and_false, if_true, if_false, reduceIte, ite_true, ite_false, not_true_eq_false, not_false_eq_true, gI_o p1, gR_o p1, pI_o p1, p2, p6, p7, p11, gaI_o p8, gaR_o p12, p9, p13, g1, g2, g3, g4, g5, g6, e1, g7, q1]
    exact x156_56 hP0 (by omega)
  · obtain ⟨i1, i2, i3, i4⟩ := itr_shf (ds := ds) (di := di) (ms := ms) (mi := mi) (p := pre.length) (m := sI b (74 + c % 2) (c / 2) 1 (Int32.ofNat (m - 1))) hne (m - 1 - pre.length)
    have eI : ∀ s i j, tI (takn b (74 + c % 2) (c / 2) m ds di ms mi pre.length) s i j = if s = ds ∧ i = di ∧ pre.length ≤ j ∧ j < m - 1 then tI b ds di (j + 1) else if s = 74 + c % 2 ∧ i = c / 2 ∧ j = 1 then Int32.ofNat (m - 1) else tI b s i j := fun s i j => by
      unfold takn
      rw [tI_sR, i1, show pre.length + (m - 1 - pre.length) = m - 1 by omega, tI_sI, if_neg (c := ds = 74 + c % 2 ∧ di = c / 2 ∧ j + 1 = 1) (fun q => dc q.1.symm), tI_sI]
    have eR : ∀ s i j, tR (takn b (74 + c % 2) (c / 2) m ds di ms mi pre.length) s i j = if s = ms ∧ i = mi ∧ j = m - 1 then none else if s = ms ∧ i = mi ∧ pre.length ≤ j ∧ j < m - 1 then tR b ms mi (j + 1) else tR b s i j := fun s i j => by
      unfold takn
      rw [tR_sR, i2, show pre.length + (m - 1 - pre.length) = m - 1 by omega]
      rfl
    have eN : ∀ s, tN (takn b (74 + c % 2) (c / 2) m ds di ms mi pre.length) s = tN b s := fun s => i3 s
    have eZ : ∀ s i, tZ (takn b (74 + c % 2) (c / 2) m ds di ms mi pre.length) s i = tZ b s i := fun s i => i4 s i
    have eC : chg [49, 50, 51, 52, 74, 75] b (takn b (74 + c % 2) (c / 2) m ds di ms mi pre.length) := by
      unfold takn
      refine chg_sR (by simp only [List.mem_cons, List.not_mem_nil, or_false]; omega) (chg_t ?_ (itr_chg (fun M k => ?_) _ _))
      · exact chg_sI (by simp only [List.mem_cons, List.not_mem_nil, or_false]; omega) (chg_r _ _)
      · exact chg_sR (by simp only [List.mem_cons, List.not_mem_nil, or_false]; omega) (chg_sI (by simp only [List.mem_cons, List.not_mem_nil, or_false]; omega) (chg_r _ _))
    have hst : Wr b (takn b (74 + c % 2) (c / 2) m ds di ms mi pre.length) := by
      unfold takn
      exact Wr.cR _ _ _ _ (((Wr.rf b).cI _ _ _ _).t (itr_stp (fun m k => ((Wr.rf m).cI _ _ _ _).cR _ _ _ _) _ _))
    generalize takn b (74 + c % 2) (c / 2) m ds di ms mi pre.length = b' at *
    have mqv : ∀ q' : Nat × Nat, isQ q'.1 → qv b' (some q') = qv b (some q') := fun q' hq' => qv_congr (fun k => (eC q'.1 (by
      have t1 := isO_ne hq' (t := 49) (by decide +kernel)
      have t2 := isO_ne hq' (t := 50) (by decide +kernel)
      have t3 := isO_ne hq' (t := 51) (by decide +kernel)
      have t4 := isO_ne hq' (t := 52) (by decide +kernel)
      have t5 := isO_ne hq' (t := 74) (by decide +kernel)
      have t6 := isO_ne hq' (t := 75) (by decide +kernel)
      simp only [List.mem_cons, List.not_mem_nil, or_false]
      omega)).1 _ _)
    have hO : ∀ c' f m2 ds2 di2 ms2 mi2 cap2, c' < n → c' ≠ c → CbQ b (74 + c' % 2) (c' / 2) f m2 ds2 di2 ms2 mi2 cap2 → CbQ b' (74 + c' % 2) (c' / 2) f m2 ds2 di2 ms2 mi2 cap2 ∧ vR b' ds2 di2 ms2 mi2 m2 = vR b ds2 di2 ms2 mi2 m2 := by
      intro c' f m2 ds2 di2 ms2 mi2 cap2 hc' hne hQ
      obtain ⟨⟨q1, q2, q3, q4, q5, q6, q7, q8, q9, q10, q11, q12, q13, q14, q15, q16, q17, q18⟩, r1, r2⟩ := hQ
      obtain ⟨n1, n2⟩ := h2 c' c hc' hc hne
      rw [q7, p7] at n1
      rw [q11, p11] at n2
      have m1 : ¬ (ms2 = ms ∧ mi2 = mi) := fun q => n2 (by rw [q.1, q.2])
      have m2' : ¬ (ds2 = ds ∧ di2 = di) := fun q => n1 (by rw [q.1, q.2])
      have u1 : ¬ 74 + c' % 2 = ms := n_ms hms
      have u2 : ¬ 74 + c' % 2 = ds := n_ds hds
      have u3 : ¬ (74 + c' % 2 = 74 + c % 2 ∧ c' / 2 = c / 2) := cb_ne hne
      have u4 : ¬ ds2 = 74 + c % 2 := fun e => n_ds (c := c) r1 e.symm
      have sI : ∀ k, tI b' (74 + c' % 2) (c' / 2) k = tI b (74 + c' % 2) (c' / 2) k := fun k => by rw [eI, if_neg (fun q => u2 q.1), if_neg (fun q => u3 ⟨q.1, q.2.1⟩)]
      have sR : ∀ k, tR b' (74 + c' % 2) (c' / 2) k = tR b (74 + c' % 2) (c' / 2) k := fun k => by rw [eR, if_neg (fun q => u1 q.1), if_neg (fun q => u1 q.1)]
      refine ⟨⟨⟨q1, by rw [eN]; exact q2, by rw [sR]; exact q3, by rw [eN]; exact q4, by rw [eZ]; exact q5, by rw [sI]; exact q6, by rw [sR]; exact q7, q8, by rw [eN]; exact q9, by rw [eZ]; exact q10, by rw [sR]; exact q11, q12, by rw [eN]; exact q13, by rw [eZ]; exact q14, q15, q16, q17, fun k hk => ?_⟩, r1, r2⟩, ?_⟩
      · obtain ⟨q, s1, s2, s3⟩ := q18 k hk
        exact ⟨q, by rw [eR, if_neg (fun q => m1 ⟨q.1, q.2.1⟩), if_neg (fun q => m1 ⟨q.1, q.2.1⟩)]; exact s1, s2, by rw [eN]; exact s3⟩
      · unfold vR
        refine List.map_congr_left (fun k hk => ?_)
        obtain ⟨q, s1, s2, s3⟩ := q18 k (List.mem_range.mp hk)
        rw [eI, if_neg (fun q => m2' ⟨q.1, q.2.1⟩), if_neg (fun q => u4 q.1), eR, if_neg (fun q => m1 ⟨q.1, q.2.1⟩), if_neg (fun q => m1 ⟨q.1, q.2.1⟩), s1, mqv q s2]
    have own : CbQ b' (74 + c % 2) (c / 2) c (m - 1) ds di ms mi cap := by
      refine ⟨⟨p1, by rw [eN]; exact p2, by rw [eR, if_neg (fun q => mc q.1), if_neg (fun q => mc q.1)]; exact p3, by rw [eN]; exact p4, by rw [eZ]; exact p5, by rw [eI, if_neg (fun q => dc q.1), if_pos ⟨rfl, rfl, rfl⟩], by rw [eR, if_neg (fun q => mc q.1), if_neg (fun q => mc q.1)]; exact p7, p8, by rw [eN]; exact p9, by rw [eZ]; exact p10, by rw [eR, if_neg (fun q => mc q.1), if_neg (fun q => mc q.1)]; exact p11, p12, by rw [eN]; exact p13, by rw [eZ]; exact p14, by omega, p16, p17, fun k hk => ?_⟩, hds, hms⟩
      by_cases e : pre.length ≤ k
      · obtain ⟨q, s1, s2, s3⟩ := p18 (k + 1) (by omega)
        exact ⟨q, by rw [eR, if_neg (fun q => by omega), if_pos ⟨rfl, rfl, e, hk⟩]; exact s1, s2, by rw [eN]; exact s3⟩
      · obtain ⟨q, s1, s2, s3⟩ := p18 k (by omega)
        exact ⟨q, by rw [eR, if_neg (fun q => by omega), if_neg (fun q => e q.2.2.1)]; exact s1, s2, by rw [eN]; exact s3⟩
    refine ⟨⟨fun c' hc' => ?_, fun c1 c2 hc1 hc2 hne => ?_⟩, ?_, fun c' hc' hne => ?_, eC, eN, eZ, hst, fun c' => ?_, ?_⟩
    · by_cases e : c' = c
      · subst e
        exact ⟨_, _, _, _, _, _, own⟩
      · obtain ⟨m2, ds2, di2, ms2, mi2, cap2, hQ⟩ := h1 c' hc'
        exact ⟨_, _, _, _, _, _, (hO c' _ _ _ _ _ _ _ hc' e hQ).1⟩
    · have := h2 c1 c2 hc1 hc2 hne
      have sR : ∀ c k, tR b' (74 + c % 2) (c / 2) k = tR b (74 + c % 2) (c / 2) k := fun c k => by
        have u1 : ¬ 74 + c % 2 = ms := n_ms hms
        rw [eR, if_neg (fun q => u1 q.1), if_neg (fun q => u1 q.1)]
      rw [sR, sR, sR, sR]
      exact this
    · rw [vQ_of own.1]
      apply List.ext_getElem?
      intro j
      by_cases hj : j < m - 1
      · rw [vR_at hj]
        by_cases e : j < pre.length
        · rw [List.getElem?_append_left e, at_pre j e]
          obtain ⟨q, s1, s2, s3⟩ := p18 j (by omega)
          rw [eI, if_neg (fun q => by omega), if_neg (fun q => dc q.1.symm), eR, if_neg (fun q => by omega), if_neg (fun q => by omega), s1, mqv q s2]
        · rw [List.getElem?_append_right (by omega), at_post (j - pre.length) (by omega), show pre.length + 1 + (j - pre.length) = j + 1 by omega]
          obtain ⟨q, s1, s2, s3⟩ := p18 (j + 1) (by omega)
          rw [eI, if_pos ⟨rfl, rfl, by omega, hj⟩, eR, if_neg (fun q => by omega), if_pos ⟨rfl, rfl, by omega, hj⟩, s1, mqv q s2]
      · rw [List.getElem?_eq_none (by rw [vR_len]; omega), List.getElem?_eq_none (by rw [List.length_append]; omega)]
    · obtain ⟨m2, ds2, di2, ms2, mi2, cap2, hQ⟩ := h1 c' hc'
      obtain ⟨g1, g2⟩ := hO c' _ _ _ _ _ _ _ hc' hne hQ
      rw [vQ_of g1.1, vQ_of hQ.1, g2]
    · have u1 : ¬ 74 + c' % 2 = ms := n_ms hms
      unfold capc capo
      rw [eR, if_neg (fun q => u1 q.1), if_neg (fun q => u1 q.1)]
      cases tR b (74 + c' % 2) (c' / 2) 2 with
      | none => rfl
      | some p => exact eZ _ _
    · unfold S5
      rw [s5_eq (eN 51) (fun i _ => eZ 51 i), s5_eq (eN 52) (fun i _ => eZ 52 i)]
