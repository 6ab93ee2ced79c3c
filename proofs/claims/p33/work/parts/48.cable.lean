/-! ===== the reference's cables ===== -/
theorem okA_o {w K s t : Nat} (h : isO w K s) (hk : (Nat.ble 1000 K && Nat.blt K 2000 && Nat.beq (elT K 0) t) = true) : okA w s K t = true := by
  unfold okA
  rw [h.1, h.2, beq_tt rfl, beq_tt rfl]
  simp only [Bool.and_eq_true] at hk ⊢
  exact ⟨⟨⟨⟨trivial, trivial⟩, hk.1.1⟩, hk.1.2⟩, hk.2⟩
theorem okQ_o {w K s : Nat} (h : isO w K s) (hk : (Nat.ble 1010 K && Nat.blt K 2000) = true) : okQ w s = true := by
  unfold okQ
  rw [h.1, h.2, beq_tt rfl]
  simp only [Bool.and_eq_true] at hk ⊢
  exact ⟨⟨trivial, hk.1⟩, hk.2⟩
theorem gaI_o {w K s i : Nat} {m : TS} {z : Hp} {x : Int32} (h : isO w K s) (hi : i < tN m s) (h0 : ¬ x < 0) (hx : x.toNatClampNeg < tZ m s i) (hk : (Nat.ble 1000 K && Nat.blt K 2000 && Nat.beq (elT K 0) 0) = true) : gaI (enc w m z) (some (s, i)) K x = some (tI m s i x.toNatClampNeg) := gaI_enc (okA_o h hk) hi h0 hx
theorem paI_o {w K s i : Nat} {m : TS} {z : Hp} {x v : Int32} (h : isO w K s) (hi : i < tN m s) (h0 : ¬ x < 0) (hx : x.toNatClampNeg < tZ m s i) (hw : w ≠ 0) (hk : (Nat.ble 1000 K && Nat.blt K 2000 && Nat.beq (elT K 0) 0) = true) : pa (enc w m z) (some (s, i)) K x (aI v) = some (enc w (sI m s i x.toNatClampNeg v) z) := paI_enc hw (okA_o h hk) hi h0 hx
theorem gaR_o {w K s i : Nat} {m : TS} {z : Hp} {x : Int32} (h : isO w K s) (hi : i < tN m s) (h0 : ¬ x < 0) (hx : x.toNatClampNeg < tZ m s i) (hk : (Nat.ble 1010 K && Nat.blt K 2000) = true) : gaR (enc w m z) (some (s, i)) x = some (tR m s i x.toNatClampNeg) := gaR_enc (okQ_o h hk) hi h0 hx
theorem paR_o {w K s i : Nat} {m : TS} {z : Hp} {x : Int32} {v : Option (Nat × Nat)} (h : isO w K s) (hi : i < tN m s) (h0 : ¬ x < 0) (hx : x.toNatClampNeg < tZ m s i) (hv : okV w m s v) (hw : w ≠ 0) (hk : (Nat.ble 1010 K && Nat.blt K 2000) = true) : paR (enc w m z) (some (s, i)) x v = some (enc w (sR m s i x.toNatClampNeg v) z) := paR_enc hw (okQ_o h hk) hi h0 hx hv
theorem len_o {w K s i : Nat} {m : TS} {z : Hp} (h : isO w K s) (hi : i < tN m s) (hk : (Nat.ble 1000 K && Nat.blt K 2000) = true) : len (enc w m z) (some (s, i)) = some (Int32.ofNat (tZ m s i)) := by
  simp only [Bool.and_eq_true] at hk
  exact len_enc h.1 (by rw [h.2]; exact Nat.le_of_ble_eq_true hk.1) (by rw [h.2]; exact Nat.le_of_ble_eq_true hk.2) hi
theorem okV_q {b : TS} {s : Nat} {q : Nat × Nat} (h : isO 2 1028 s) (hq : isQ q.1) (hi : q.2 < tN b q.1) : okV 2 b s (some q) := ⟨hq.1, hi, by rw [hq.2]; decide, by rw [h.2, hq.2]⟩
theorem okV_n {w K : Nat} {b : TS} {s : Nat} (h : isO w K s) (hk : Nat.blt K 1900 = true) : okV w b s none := by
  show kd s < 1900
  rw [h.2]
  exact Nat.le_of_ble_eq_true hk
/-- a counting loop's store -/
def itr (f : TS → Nat → TS) : Nat → TS → TS
  | 0, m => m
  | k + 1, m => f (itr f k m) k
theorem itr_run {w p pc : Nat} {L : Nat → LV} {f : TS → Nat → TS} {m : TS} {z : Hp} {n : Nat} (h : ∀ k, k < n → Ru p pc (L k) [] (enc w (itr f k m) z) = Ru p pc (L (k + 1)) [] (enc w (itr f (k + 1) m) z)) : Ru p pc (L 0) [] (enc w m z) = Ru p pc (L n) [] (enc w (itr f n m) z) := by
  induction n with
  | zero => rfl
  | succ n ih => rw [ih (fun k hk => h k (by omega)), h n (by omega)]
/-- a cable: its parts -/
def CbP (b : TS) (cb s f n ds di ms mi cap : Nat) : Prop :=
  isO 2 13 cb ∧ s < tN b cb ∧ tR b cb s 0 = some (48, f) ∧ f < tN b 48 ∧ tZ b 48 f = 3 ∧ tI b cb s 1 = Int32.ofNat n ∧ tR b cb s 2 = some (ds, di) ∧ isO 2 1000 ds ∧ di < tN b ds ∧ tZ b ds di = cap ∧
  tR b cb s 3 = some (ms, mi) ∧ isO 2 1028 ms ∧ mi < tN b ms ∧ tZ b ms mi = cap ∧ n ≤ cap ∧ 8 ≤ cap ∧ cap < 2 ^ 28 ∧ ∀ k, k < n → ∃ q, tR b ms mi k = some q ∧ isQ q.1 ∧ q.2 < tN b q.1
/-- a mail's contents -/
def qv (b : TS) (o : Option (Nat × Nat)) : Nat → Int32 := match o with
  | some q => fun f => if f < 14 then tI b q.1 q.2 f else 0
  | none => fun _ => 0
/-- a cable's entries -/
def vR (b : TS) (ds di ms mi n : Nat) : List (Int32 × (Nat → Int32)) := (List.range n).map (fun k => (tI b ds di k, qv b (tR b ms mi k)))
/-- the row of a cable is made longer -/
def cpy1 (di' mi' ds di ms mi : Nat) (m : TS) (k : Nat) : TS := sR (sI m 51 di' k (tI m ds di k)) 52 mi' k (tR m ms mi k)
def grow (b : TS) (cb s n ds di ms mi : Nat) : TS :=
  let m0 := mk (mk b 51 (2 * n) 0 (2 * n)) 52 (2 * n) 0 (2 * n)
  sR (sR (itr (cpy1 (tN b 51) (tN b 52) ds di ms mi) n m0) cb s 2 (some (51, tN b 51))) cb s 3 (some (52, tN b 52))
def lays (b : TS) (cb s n ds di ms mi cap : Nat) (d : Int32) (q : Nat × Nat) : TS :=
  if n = cap then sI (sR (sI (grow b cb s n ds di ms mi) 51 (tN b 51) n d) 52 (tN b 52) n (some q)) cb s 1 (Int32.ofNat (n + 1))
  else sI (sR (sI b ds di n d) ms mi n (some q)) cb s 1 (Int32.ofNat (n + 1))
theorem itr_cpy {di' mi' ds di ms mi : Nat} {m : TS} (h1 : ¬ (ds = 51 ∧ di = di')) (h2 : ¬ (ms = 52 ∧ mi = mi')) : ∀ k : Nat, (∀ s i j, tI (itr (cpy1 di' mi' ds di ms mi) k m) s i j = if s = 51 ∧ i = di' ∧ j < k then tI m ds di j else tI m s i j) ∧ (∀ s i j, tR (itr (cpy1 di' mi' ds di ms mi) k m) s i j = if s = 52 ∧ i = mi' ∧ j < k then tR m ms mi j else tR m s i j) ∧ (itr (cpy1 di' mi' ds di ms mi) k m).2.1 = m.2.1 ∧ (itr (cpy1 di' mi' ds di ms mi) k m).2.2.2 = m.2.2.2 := by
  intro k
  induction k with
  | zero => exact ⟨fun s i j => (if_neg (fun q => absurd q.2.2 (by omega))).symm, fun s i j => (if_neg (fun q => absurd q.2.2 (by omega))).symm, rfl, rfl⟩
  | succ k ih =>
    obtain ⟨i1, i2, i3, i4⟩ := ih
    refine ⟨fun s i j => ?_, fun s i j => ?_, i3, i4⟩
    · have e0 : ∀ M, cpy1 di' mi' ds di ms mi M k = sR (sI M 51 di' k (tI M ds di k)) 52 mi' k (tR M ms mi k) := fun _ => rfl
      show tI (cpy1 di' mi' ds di ms mi (itr (cpy1 di' mi' ds di ms mi) k m) k) s i j = _
      rw [e0, tI_sR, tI_sI, i1, i1]
      rw [if_neg (c := ds = 51 ∧ di = di' ∧ k < k) (fun q => by omega)]
      by_cases e : s = 51 ∧ i = di'
      · by_cases e2 : j = k
        · rw [if_pos ⟨e.1, e.2, e2⟩, if_pos ⟨e.1, e.2, by omega⟩, e2]
        · rw [if_neg (c := s = 51 ∧ i = di' ∧ j = k) (fun q => e2 q.2.2)]
          by_cases e3 : j < k
          · rw [if_pos ⟨e.1, e.2, e3⟩, if_pos ⟨e.1, e.2, by omega⟩]
          · rw [if_neg (fun q => e3 q.2.2), if_neg (fun q => by omega)]
      · rw [if_neg (fun q => e ⟨q.1, q.2.1⟩), if_neg (fun q => e ⟨q.1, q.2.1⟩), if_neg (fun q => e ⟨q.1, q.2.1⟩)]
    · have e0 : ∀ M, cpy1 di' mi' ds di ms mi M k = sR (sI M 51 di' k (tI M ds di k)) 52 mi' k (tR M ms mi k) := fun _ => rfl
      show tR (cpy1 di' mi' ds di ms mi (itr (cpy1 di' mi' ds di ms mi) k m) k) s i j = _
      rw [e0, tR_sR, tR_sI, i2, i2]
      rw [if_neg (c := ms = 52 ∧ mi = mi' ∧ k < k) (fun q => by omega)]
      by_cases e : s = 52 ∧ i = mi'
      · by_cases e2 : j = k
        · rw [if_pos ⟨e.1, e.2, e2⟩, if_pos ⟨e.1, e.2, by omega⟩, e2]
        · rw [if_neg (c := s = 52 ∧ i = mi' ∧ j = k) (fun q => e2 q.2.2)]
          by_cases e3 : j < k
          · rw [if_pos ⟨e.1, e.2, e3⟩, if_pos ⟨e.1, e.2, by omega⟩]
          · rw [if_neg (fun q => e3 q.2.2), if_neg (fun q => by omega)]
      · rw [if_neg (fun q => e ⟨q.1, q.2.1⟩), if_neg (fun q => e ⟨q.1, q.2.1⟩), if_neg (fun q => e ⟨q.1, q.2.1⟩)]
theorem itr_cpyN {di' mi' ds di ms mi : Nat} {m : TS} (k s : Nat) : tN (itr (cpy1 di' mi' ds di ms mi) k m) s = tN m s := by
  induction k with
  | zero => rfl
  | succ k ih => exact ih
theorem itr_cpyZ {di' mi' ds di ms mi : Nat} {m : TS} (k s i : Nat) : tZ (itr (cpy1 di' mi' ds di ms mi) k m) s i = tZ m s i := by
  induction k with
  | zero => rfl
  | succ k ih => exact ih
theorem two_o {n : Nat} : (2 : Int32) * Int32.ofNat n = Int32.ofNat (2 * n) := (Int32.ofNat_mul 2 n).symm
set_option maxHeartbeats 4000000 in
theorem x154 {b : TS} {z : Hp} {cb s f n ds di ms mi cap : Nat} {d : Int32} {q : Nat × Nat} (hP : CbP b cb s f n ds di ms mi cap) (hq : isQ q.1) (hqi : q.2 < tN b q.1) :
    Ex 154 [aR (some (cb, s)), aI d, aR (some q)] (enc 2 b z) = some (.inl none, enc 2 (lays b cb s n ds di ms mi cap d q) z) := by
  obtain ⟨p1, p2, p3, p4, p5, p6, p7, p8, p9, p10, p11, p12, p13, p14, p15, p16, p17, p18⟩ := hP
  have b1 : (Int32.ofNat n).toNatClampNeg = n := o_ix (by omega)
  have b2 : ¬ Int32.ofNat n < 0 := o_lt0 (by omega)
  refine (X_o p1 (by decide +kernel) p2 rfl).trans ((lf_154_0 ..).trans ?_)
  simp (config := {decide := true}) only [gfI_enc, gfL_enc, gfR_enc, pfI_enc, pfL_enc, pfR_enc, Option.bind_some, cI_v, cL_v, cF_v, cD_v, cR_v, cV_v, cI_x, cL_x, cR_x, cV_x, gz_0, gz_1, acc_enc, tI_sI, tL_sI, tR_sI, tN_sI, tZ_sI, tC_sI, tc_sI, tz_sI, tI_sL, tL_sL, tR_sL, tN_sL, tZ_sL, tC_sL, tc_sL, tz_sL, tI_sR, tL_sR, tR_sR, tN_sR, tZ_sR, tC_sR, tc_sR, tz_sR, tI_sZ, tL_sZ, tR_sZ, tN_sZ, tZ_sZ, tC_sZ, tc_sZ, tz_sZ, tI_sC, tL_sC, tR_sC, tN_sC, tZ_sC, tC_sC, tc_sC, tz_sC, tI_aC, tL_aC, tR_aC, tN_aC, tZ_aC, tC_aC, tc_aC, tz_aC, tI_rmL, tL_rmL, tR_rmL, tN_rmL, tZ_rmL, tC_rmL, tc_rmL, tz_rmL, tI_mk, tL_mk, tR_mk, tN_mk, tZ_mk, tC_mk, tc_mk, tz_mk, tI_pushL, tL_pushL, tR_pushL, tN_pushL, tZ_pushL, tC_pushL, tc_pushL, tz_pushL, tI_pushB, tL_pushB, tR_pushB, tN_pushB, tZ_pushB, tC_pushB, tc_pushB, tz_pushB, tI_cpL, tL_cpL, tR_cpL, tN_cpL, tZ_cpL, tC_cpL, tc_cpL, tz_cpL, eq_self, true_and, and_true, false_and, and_false, if_true, if_false, reduceIte, ite_true, ite_false, not_true_eq_false, not_false_eq_true, gI_o p1, gR_o p1, p2, p6, p7, len_o p8, p9, p10]
  unfold lays
  by_cases e : n = cap
  · rw [if_pos (congrArg Int32.ofNat e), if_pos e]
    have b3 : (Int32.ofNat (2 * n)).toNatClampNeg = 2 * n := o_ix (by omega)
    have b4 : ¬ Int32.ofNat (2 * n) < 0 := o_lt0 (by omega)
    have c1 : ¬ cb = 51 := isO_ne p1 (by decide +kernel)
    have c2 : ¬ cb = 52 := isO_ne p1 (by decide +kernel)
    rw [two_o, nwa_enc (t := 0) (by decide +kernel) b4 (fun _ => rfl)]
    simp (config := {decide := true}) only [gfI_enc, gfL_enc, gfR_enc, pfI_enc, pfL_enc, pfR_enc, Option.bind_some, cI_v, cL_v, cF_v, cD_v, cR_v, cV_v, cI_x, cL_x, cR_x, cV_x, gz_0, gz_1, acc_enc, tI_sI, tL_sI, tR_sI, tN_sI, tZ_sI, tC_sI, tc_sI, tz_sI, tI_sL, tL_sL, tR_sL, tN_sL, tZ_sL, tC_sL, tc_sL, tz_sL, tI_sR, tL_sR, tR_sR, tN_sR, tZ_sR, tC_sR, tc_sR, tz_sR, tI_sZ, tL_sZ, tR_sZ, tN_sZ, tZ_sZ, tC_sZ, tc_sZ, tz_sZ, tI_sC, tL_sC, tR_sC, tN_sC, tZ_sC, tC_sC, tc_sC, tz_sC, tI_aC, tL_aC, tR_aC, tN_aC, tZ_aC, tC_aC, tc_aC, tz_aC, tI_rmL, tL_rmL, tR_rmL, tN_rmL, tZ_rmL, tC_rmL, tc_rmL, tz_rmL, tI_mk, tL_mk, tR_mk, tN_mk, tZ_mk, tC_mk, tc_mk, tz_mk, tI_pushL, tL_pushL, tR_pushL, tN_pushL, tZ_pushL, tC_pushL, tc_pushL, tz_pushL, tI_pushB, tL_pushB, tR_pushB, tN_pushB, tZ_pushB, tC_pushB, tc_pushB, tz_pushB, tI_cpL, tL_cpL, tR_cpL, tN_cpL, tZ_cpL, tC_cpL, tc_cpL, tz_cpL, eq_self, true_and, and_true, false_and, and_false, if_true, if_false, reduceIte, ite_true, ite_false, not_true_eq_false, not_false_eq_true, gI_o p1, p2, p6, b3, c1, two_o]
    rw [nwa_enc (t := 4) (by decide +kernel) b4 (fun _ => rfl)]
    simp (config := {decide := true}) only [gfI_enc, gfL_enc, gfR_enc, pfI_enc, pfL_enc, pfR_enc, Option.bind_some, cI_v, cL_v, cF_v, cD_v, cR_v, cV_v, cI_x, cL_x, cR_x, cV_x, gz_0, gz_1, acc_enc, tI_sI, tL_sI, tR_sI, tN_sI, tZ_sI, tC_sI, tc_sI, tz_sI, tI_sL, tL_sL, tR_sL, tN_sL, tZ_sL, tC_sL, tc_sL, tz_sL, tI_sR, tL_sR, tR_sR, tN_sR, tZ_sR, tC_sR, tc_sR, tz_sR, tI_sZ, tL_sZ, tR_sZ, tN_sZ, tZ_sZ, tC_sZ, tc_sZ, tz_sZ, tI_sC, tL_sC, tR_sC, tN_sC, tZ_sC, tC_sC, tc_sC, tz_sC, tI_aC, tL_aC, tR_aC, tN_aC, tZ_aC, tC_aC, tc_aC, tz_aC, tI_rmL, tL_rmL, tR_rmL, tN_rmL, tZ_rmL, tC_rmL, tc_rmL, tz_rmL, tI_mk, tL_mk, tR_mk, tN_mk, tZ_mk, tC_mk, tc_mk, tz_mk, tI_pushL, tL_pushL, tR_pushL, tN_pushL, tZ_pushL, tC_pushL, tc_pushL, tz_pushL, tI_pushB, tL_pushB, tR_pushB, tN_pushB, tZ_pushB, tC_pushB, tc_pushB, tz_pushB, tI_cpL, tL_cpL, tR_cpL, tN_cpL, tZ_cpL, tC_cpL, tc_cpL, tz_cpL, eq_self, true_and, and_true, false_and, and_false, if_true, if_false, reduceIte, ite_true, ite_false, not_true_eq_false, not_false_eq_true, b3]
    have ne1 : ¬ (ds = 51 ∧ di = tN b 51) := fun q => by rw [q.1, q.2] at p9; exact Nat.lt_irrefl _ p9
    have ne2 : ¬ (ms = 52 ∧ mi = tN b 52) := fun q => by rw [q.1, q.2] at p13; exact Nat.lt_irrefl _ p13
    have ne3 : ¬ ds = 52 := isO_ne p8 (by decide +kernel)
    have ne4 : ¬ ms = 51 := isO_ne p12 (by decide +kernel)
    have q51 : ¬ q.1 = 51 := isO_ne hq (by decide +kernel)
    have q52 : ¬ q.1 = 52 := isO_ne hq (by decide +kernel)
    have o51 : isO 2 1000 51 := ⟨by decide +kernel, by decide +kernel⟩
    have o52 : isO 2 1028 52 := ⟨by decide +kernel, by decide +kernel⟩
    let m0 := mk (mk b 51 (2 * n) 0 (2 * n)) 52 (2 * n) 0 (2 * n)
    have hN : ∀ k t, tN (itr (cpy1 (tN b 51) (tN b 52) ds di ms mi) k m0) t = if t = 52 then tN b 52 + 1 else if t = 51 then tN b 51 + 1 else tN b t := fun k t => by
      rw [itr_cpyN]
      show tN (mk (mk b 51 (2 * n) 0 (2 * n)) 52 (2 * n) 0 (2 * n)) t = _
      rw [tN_mk, tN_mk, tN_mk, if_neg (c := (52 : Nat) = 51) (by decide)]
    have hZ : ∀ k t i, tZ (itr (cpy1 (tN b 51) (tN b 52) ds di ms mi) k m0) t i = if t = 52 ∧ i = tN b 52 then 2 * n else if t = 51 ∧ i = tN b 51 then 2 * n else tZ b t i := fun k t i => by
      rw [itr_cpyZ]
      show tZ (mk (mk b 51 (2 * n) 0 (2 * n)) 52 (2 * n) 0 (2 * n)) t i = _
      rw [tZ_mk, tZ_mk, tN_mk, if_neg (c := (52 : Nat) = 51) (by decide)]
    have hI0 : ∀ t i k, ¬ (t = 51 ∧ i = tN b 51) → ¬ (t = 52 ∧ i = tN b 52) → tI m0 t i k = tI b t i k := fun t i k g1 g2 => by
      show tI (mk (mk b 51 (2 * n) 0 (2 * n)) 52 (2 * n) 0 (2 * n)) t i k = _
      rw [tI_mk, tN_mk, if_neg (c := (52 : Nat) = 51) (by decide), if_neg g2, tI_mk, if_neg g1]
    have hR0 : ∀ t i k, ¬ (t = 51 ∧ i = tN b 51) → ¬ (t = 52 ∧ i = tN b 52) → tR m0 t i k = tR b t i k := fun t i k g1 g2 => by
      show tR (mk (mk b 51 (2 * n) 0 (2 * n)) 52 (2 * n) 0 (2 * n)) t i k = _
      rw [tR_mk, tN_mk, if_neg (c := (52 : Nat) = 51) (by decide), if_neg g2, tR_mk, if_neg g1]
    have hI : ∀ k t i j, ¬ (t = 51 ∧ i = tN b 51) → ¬ (t = 52 ∧ i = tN b 52) → tI (itr (cpy1 (tN b 51) (tN b 52) ds di ms mi) k m0) t i j = tI b t i j := fun k t i j g1 g2 => by
      rw [(itr_cpy ne1 ne2 k).1, if_neg (fun q => g1 ⟨q.1, q.2.1⟩), hI0 t i j g1 g2]
    have hR : ∀ k t i j, ¬ (t = 51 ∧ i = tN b 51) → ¬ (t = 52 ∧ i = tN b 52) → tR (itr (cpy1 (tN b 51) (tN b 52) ds di ms mi) k m0) t i j = tR b t i j := fun k t i j g1 g2 => by
      rw [(itr_cpy ne1 ne2 k).2.1, if_neg (fun q => g2 ⟨q.1, q.2.1⟩), hR0 t i j g1 g2]
    have run := itr_run (w := 2) (p := 154) (pc := 35) (L := fun k => [(0, aR (some (cb, s))), (1, aI d), (2, aR (some q)), (3, aR (some (51, tN b 51))), (4, aR (some (52, tN b 52))), (5, aI (Int32.ofNat k))]) (f := cpy1 (tN b 51) (tN b 52) ds di ms mi) (m := m0) (z := z) (n := n) (fun k hk => by
      have g1 : (Int32.ofNat k).toNatClampNeg = k := o_ix (by omega)
      have g2 : ¬ Int32.ofNat k < 0 := o_lt0 (by omega)
      have g3 : ¬ Int32.ofNat n ≤ Int32.ofNat k := by rw [o_le (by omega) (by omega)]; omega
      obtain ⟨q', q1, q2, q3⟩ := p18 k hk
      have y1 : tI (itr (cpy1 (tN b 51) (tN b 52) ds di ms mi) k m0) cb s 1 = Int32.ofNat n := by rw [hI _ _ _ _ (fun q => c1 q.1) (fun q => c2 q.1)]; exact p6
      have y2 : tR (itr (cpy1 (tN b 51) (tN b 52) ds di ms mi) k m0) cb s 2 = some (ds, di) := by rw [hR _ _ _ _ (fun q => c1 q.1) (fun q => c2 q.1)]; exact p7
      have y3 : tR (itr (cpy1 (tN b 51) (tN b 52) ds di ms mi) k m0) cb s 3 = some (ms, mi) := by rw [hR _ _ _ _ (fun q => c1 q.1) (fun q => c2 q.1)]; exact p11
      have y4 : s < tN (itr (cpy1 (tN b 51) (tN b 52) ds di ms mi) k m0) cb := by rw [hN, if_neg c2, if_neg c1]; exact p2
      have y5 : di < tN (itr (cpy1 (tN b 51) (tN b 52) ds di ms mi) k m0) ds := by
        rw [hN, if_neg ne3]
        split
        · rename_i h; rw [h] at p9; omega
        · exact p9
      have y6 : mi < tN (itr (cpy1 (tN b 51) (tN b 52) ds di ms mi) k m0) ms := by
        rw [hN]
        by_cases h : ms = 52
        · rw [if_pos h]; rw [h] at p13; omega
        · rw [if_neg h, if_neg ne4]; exact p13
      have y7 : k < tZ (itr (cpy1 (tN b 51) (tN b 52) ds di ms mi) k m0) ds di := by rw [hZ, if_neg (fun q => ne3 q.1), if_neg ne1]; omega
      have y8 : k < tZ (itr (cpy1 (tN b 51) (tN b 52) ds di ms mi) k m0) ms mi := by rw [hZ, if_neg ne2, if_neg (fun q => ne4 q.1)]; omega
      have y9 : k < tZ (itr (cpy1 (tN b 51) (tN b 52) ds di ms mi) k m0) 51 (tN b 51) := by rw [hZ, if_neg (fun q => absurd q.1 (by decide)), if_pos ⟨rfl, rfl⟩]; omega
      have y10 : k < tZ (itr (cpy1 (tN b 51) (tN b 52) ds di ms mi) k m0) 52 (tN b 52) := by rw [hZ, if_pos ⟨rfl, rfl⟩]; omega
      have y11 : tN b 51 < tN (itr (cpy1 (tN b 51) (tN b 52) ds di ms mi) k m0) 51 := by rw [hN, if_neg (by decide), if_pos rfl]; omega
      have y12 : tN b 52 < tN (itr (cpy1 (tN b 51) (tN b 52) ds di ms mi) k m0) 52 := by rw [hN, if_pos rfl]; omega
      have y13 : tR (itr (cpy1 (tN b 51) (tN b 52) ds di ms mi) k m0) ms mi k = some q' := by rw [hR _ _ _ _ (fun q => ne4 q.1) ne2]; exact q1
      have y14 : q'.2 < tN (itr (cpy1 (tN b 51) (tN b 52) ds di ms mi) k m0) q'.1 := by rw [hN, if_neg (isO_ne q2 (by decide +kernel)), if_neg (isO_ne q2 (by decide +kernel))]; exact q3
      show Ru 154 35 _ [] _ = Ru 154 35 _ [] (enc 2 (cpy1 (tN b 51) (tN b 52) ds di ms mi (itr (cpy1 (tN b 51) (tN b 52) ds di ms mi) k m0) k) z)
      rw [lf_154_35]
      generalize itr (cpy1 (tN b 51) (tN b 52) ds di ms mi) k m0 = mm at *
      have y15 : okV 2 (sI mm 51 (tN b 51) k (tI mm ds di k)) 52 (some q') := okV_q o52 q2 y14
      unfold cpy1
      simp (config := {decide := true}) only [gfI_enc, gfL_enc, gfR_enc, pfI_enc, pfL_enc, pfR_enc, Option.bind_some, cI_v, cL_v, cF_v, cD_v, cR_v, cV_v, cI_x, cL_x, cR_x, cV_x, gz_0, gz_1, acc_enc, tI_sI, tL_sI, tR_sI, tN_sI, tZ_sI, tC_sI, tc_sI, tz_sI, tI_sL, tL_sL, tR_sL, tN_sL, tZ_sL, tC_sL, tc_sL, tz_sL, tI_sR, tL_sR, tR_sR, tN_sR, tZ_sR, tC_sR, tc_sR, tz_sR, tI_sZ, tL_sZ, tR_sZ, tN_sZ, tZ_sZ, tC_sZ, tc_sZ, tz_sZ, tI_sC, tL_sC, tR_sC, tN_sC, tZ_sC, tC_sC, tc_sC, tz_sC, tI_aC, tL_aC, tR_aC, tN_aC, tZ_aC, tC_aC, tc_aC, tz_aC, tI_rmL, tL_rmL, tR_rmL, tN_rmL, tZ_rmL, tC_rmL, tc_rmL, tz_rmL, tI_mk, tL_mk, tR_mk, tN_mk, tZ_mk, tC_mk, tc_mk, tz_mk, tI_pushL, tL_pushL, tR_pushL, tN_pushL, tZ_pushL, tC_pushL, tc_pushL, tz_pushL, tI_pushB, tL_pushB, tR_pushB, tN_pushB, tZ_pushB, tC_pushB, tc_pushB, tz_pushB, tI_cpL, tL_cpL, tR_cpL, tN_cpL, tZ_cpL, tC_cpL, tc_cpL, tz_cpL, eq_self, true_and, and_true, false_and, and_false, if_true, if_false, reduceIte, ite_true, ite_false, not_true_eq_false, not_false_eq_true, gI_o p1, gR_o p1, y4, y1, y2, y3, g1, g2, g3, gaI_o p8, y5, y7, paI_o o51, y11, y9, gaR_o p12, y6, y8, y13, paR_o o52, y12, y10, y15, o_s])
    have run' : Ru 154 35 [(0, aR (some (cb, s))), (1, aI d), (2, aR (some q)), (3, aR (some (51, tN b 51))), (4, aR (some (52, tN b 52))), (5, aI 0)] [] (enc 2 m0 z) = _ := run
    rw [run', lf_154_35]
    unfold grow
    dsimp only
    have y1 : tI (itr (cpy1 (tN b 51) (tN b 52) ds di ms mi) n m0) cb s 1 = Int32.ofNat n := by rw [hI _ _ _ _ (fun q => c1 q.1) (fun q => c2 q.1)]; exact p6
    have y4 : s < tN (itr (cpy1 (tN b 51) (tN b 52) ds di ms mi) n m0) cb := by rw [hN, if_neg c2, if_neg c1]; exact p2
    have y9 : n < tZ (itr (cpy1 (tN b 51) (tN b 52) ds di ms mi) n m0) 51 (tN b 51) := by rw [hZ, if_neg (fun q => absurd q.1 (by decide)), if_pos ⟨rfl, rfl⟩]; omega
    have y10 : n < tZ (itr (cpy1 (tN b 51) (tN b 52) ds di ms mi) n m0) 52 (tN b 52) := by rw [hZ, if_pos ⟨rfl, rfl⟩]; omega
    have y11 : tN b 51 < tN (itr (cpy1 (tN b 51) (tN b 52) ds di ms mi) n m0) 51 := by rw [hN, if_neg (by decide), if_pos rfl]; omega
    have y12 : tN b 52 < tN (itr (cpy1 (tN b 51) (tN b 52) ds di ms mi) n m0) 52 := by rw [hN, if_pos rfl]; omega
    have y14 : q.2 < tN (itr (cpy1 (tN b 51) (tN b 52) ds di ms mi) n m0) q.1 := by rw [hN, if_neg q52, if_neg q51]; exact hqi
    show _ = some (Sum.inl none, enc 2 (sI (sR (sI (sR (sR (itr (cpy1 (tN b 51) (tN b 52) ds di ms mi) n m0) cb s 2 (some (51, tN b 51))) cb s 3 (some (52, tN b 52))) 51 (tN b 51) n d) 52 (tN b 52) n (some q)) cb s 1 (Int32.ofNat (n + 1))) z)
    generalize itr (cpy1 (tN b 51) (tN b 52) ds di ms mi) n m0 = mm at *
    have y15 : okV 2 (sI (sR (sR mm cb s 2 (some (51, tN b 51))) cb s 3 (some (52, tN b 52))) 51 (tN b 51) n d) 52 (some q) := okV_q o52 hq y14
    have y16 : Int32.ofNat n ≤ Int32.ofNat n := Int32.le_refl _
    simp (config := {decide := true}) only [gfI_enc, gfL_enc, gfR_enc, pfI_enc, pfL_enc, pfR_enc, Option.bind_some, cI_v, cL_v, cF_v, cD_v, cR_v, cV_v, cI_x, cL_x, cR_x, cV_x, gz_0, gz_1, acc_enc, tI_sI, tL_sI, tR_sI, tN_sI, tZ_sI, tC_sI, tc_sI, tz_sI, tI_sL, tL_sL, tR_sL, tN_sL, tZ_sL, tC_sL, tc_sL, tz_sL, tI_sR, tL_sR, tR_sR, tN_sR, tZ_sR, tC_sR, tc_sR, tz_sR, tI_sZ, tL_sZ, tR_sZ, tN_sZ, tZ_sZ, tC_sZ, tc_sZ, tz_sZ, tI_sC, tL_sC, tR_sC, tN_sC, tZ_sC, tC_sC, tc_sC, tz_sC, tI_aC, tL_aC, tR_aC, tN_aC, tZ_aC, tC_aC, tc_aC, tz_aC, tI_rmL, tL_rmL, tR_rmL, tN_rmL, tZ_rmL, tC_rmL, tc_rmL, tz_rmL, tI_mk, tL_mk, tR_mk, tN_mk, tZ_mk, tC_mk, tc_mk, tz_mk, tI_pushL, tL_pushL, tR_pushL, tN_pushL, tZ_pushL, tC_pushL, tc_pushL, tz_pushL, tI_pushB, tL_pushB, tR_pushB, tN_pushB, tZ_pushB, tC_pushB, tc_pushB, tz_pushB, tI_cpL, tL_cpL, tR_cpL, tN_cpL, tZ_cpL, tC_cpL, tc_cpL, tz_cpL, eq_self, true_and, and_true, false_and, and_false, if_true, if_false, reduceIte, ite_true, ite_false, not_true_eq_false, not_false_eq_true, gI_o p1, gR_o p1, pR_o p1, pI_o p1, y4, y1, y16, b1, b2, paI_o o51, y11, y9, paR_o o52, y12, y10, y15, c1, c2, o_s]
  · rw [if_neg (fun h => e (o_inj (by omega) (by omega) h)), if_neg e]
    have c3 : ¬ cb = ds := fun h => by
      have h1 := p1.2
      rw [h, p8.2] at h1
      exact absurd h1 (by decide)
    have y7 : n < tZ b ds di := by omega
    have y8 : n < tZ b ms mi := by omega
    have y15 : okV 2 (sI b ds di n d) ms (some q) := okV_q p12 hq hqi
    simp (config := {decide := true}) only [gfI_enc, gfL_enc, gfR_enc, pfI_enc, pfL_enc, pfR_enc, Option.bind_some, cI_v, cL_v, cF_v, cD_v, cR_v, cV_v, cI_x, cL_x, cR_x, cV_x, gz_0, gz_1, acc_enc, tI_sI, tL_sI, tR_sI, tN_sI, tZ_sI, tC_sI, tc_sI, tz_sI, tI_sL, tL_sL, tR_sL, tN_sL, tZ_sL, tC_sL, tc_sL, tz_sL, tI_sR, tL_sR, tR_sR, tN_sR, tZ_sR, tC_sR, tc_sR, tz_sR, tI_sZ, tL_sZ, tR_sZ, tN_sZ, tZ_sZ, tC_sZ, tc_sZ, tz_sZ, tI_sC, tL_sC, tR_sC, tN_sC, tZ_sC, tC_sC, tc_sC, tz_sC, tI_aC, tL_aC, tR_aC, tN_aC, tZ_aC, tC_aC, tc_aC, tz_aC, tI_rmL, tL_rmL, tR_rmL, tN_rmL, tZ_rmL, tC_rmL, tc_rmL, tz_rmL, tI_mk, tL_mk, tR_mk, tN_mk, tZ_mk, tC_mk, tc_mk, tz_mk, tI_pushL, tL_pushL, tR_pushL, tN_pushL, tZ_pushL, tC_pushL, tc_pushL, tz_pushL, tI_pushB, tL_pushB, tR_pushB, tN_pushB, tZ_pushB, tC_pushB, tc_pushB, tz_pushB, tI_cpL, tL_cpL, tR_cpL, tN_cpL, tZ_cpL, tC_cpL, tc_cpL, tz_cpL, eq_self, true_and, and_true, false_and, and_false, if_true, if_false, reduceIte, ite_true, ite_false, not_true_eq_false, not_false_eq_true, gI_o p1, gR_o p1, pI_o p1, p2, p6, p7, p11, b1, b2, paI_o p8, p9, y7, paR_o p12, p13, y8, y15, c3, o_s]
