/-! ===== messages and lines of the class ===== -/
def iniM (so p : Int32) : Nat → Int32 := fun k => match k with
  | 0 => so
  | 1 => p
  | 2 => -1
  | 3 => -1
  | 12 => -1
  | 13 => -1
  | _ => 0
theorem x40 {a : TS} {z : Hp} {s i : Nat} (so p : Int32) (hs : isM s) (hi : i < tN a s) : Ex 40 [aR (some (s, i)), aI so, aI p] (enc 1 a z) = some (.inl none, enc 1 (cpL a s i (iniM so p) [2, 3, 4, 5, 6, 7, 8, 9, 10, 11, 12, 13, 14, 0, 1]) z) := by
  refine (X_o hs (by decide +kernel) hi rfl).trans ((lf_40_0 ..).trans ?_)
  simp (config := {decide := true}) only [gfI_enc, gfL_enc, gfR_enc, pfI_enc, pfL_enc, pfR_enc, Option.bind_some, cI_v, cL_v, cF_v, cD_v, cR_v, cV_v, cI_x, cL_x, cR_x, cV_x, gz_0, gz_1, acc_enc, tI_sI, tL_sI, tR_sI, tN_sI, tZ_sI, tC_sI, tc_sI, tz_sI, tI_sL, tL_sL, tR_sL, tN_sL, tZ_sL, tC_sL, tc_sL, tz_sL, tI_sR, tL_sR, tR_sR, tN_sR, tZ_sR, tC_sR, tc_sR, tz_sR, tI_sZ, tL_sZ, tR_sZ, tN_sZ, tZ_sZ, tC_sZ, tc_sZ, tz_sZ, tI_sC, tL_sC, tR_sC, tN_sC, tZ_sC, tC_sC, tc_sC, tz_sC, tI_aC, tL_aC, tR_aC, tN_aC, tZ_aC, tC_aC, tc_aC, tz_aC, tI_rmL, tL_rmL, tR_rmL, tN_rmL, tZ_rmL, tC_rmL, tc_rmL, tz_rmL, tI_mk, tL_mk, tR_mk, tN_mk, tZ_mk, tC_mk, tc_mk, tz_mk, tI_pushL, tL_pushL, tR_pushL, tN_pushL, tZ_pushL, tC_pushL, tc_pushL, tz_pushL, tI_pushB, tL_pushB, tR_pushB, tN_pushB, tZ_pushB, tC_pushB, tc_pushB, tz_pushB, tI_cpL, tL_cpL, tR_cpL, tN_cpL, tZ_cpL, tC_cpL, tc_cpL, tz_cpL, eq_self, true_and, and_true, false_and, and_false, if_true, if_false, reduceIte, ite_true, ite_false, not_true_eq_false, not_false_eq_true, pm hs, X420 hs.1, hi]
  rfl
theorem x41 {a : TS} {z : Hp} {s i s' i' : Nat} (hs : isM s) (hi : i < tN a s) (hs' : isM s') (hi' : i' < tN a s') (hb : bitOk (tI a s' i' 14) = true) : Ex 41 [aR (some (s, i)), aR (some (s', i'))] (enc 1 a z) = some (.inl (some (aR (some (s, i)))), enc 1 (cpL a s i (tI a s' i') [0, 1, 2, 3, 4, 5, 6, 7, 8, 9, 10, 11, 14]) z) := by
  refine (X_o hs (by decide +kernel) hi rfl).trans ((lf_41_0 ..).trans ?_)
  simp (config := {decide := true}) only [gfI_enc, gfL_enc, gfR_enc, pfI_enc, pfL_enc, pfR_enc, Option.bind_some, cI_v, cL_v, cF_v, cD_v, cR_v, cV_v, cI_x, cL_x, cR_x, cV_x, gz_0, gz_1, acc_enc, tI_sI, tL_sI, tR_sI, tN_sI, tZ_sI, tC_sI, tc_sI, tz_sI, tI_sL, tL_sL, tR_sL, tN_sL, tZ_sL, tC_sL, tc_sL, tz_sL, tI_sR, tL_sR, tR_sR, tN_sR, tZ_sR, tC_sR, tc_sR, tz_sR, tI_sZ, tL_sZ, tR_sZ, tN_sZ, tZ_sZ, tC_sZ, tc_sZ, tz_sZ, tI_sC, tL_sC, tR_sC, tN_sC, tZ_sC, tC_sC, tc_sC, tz_sC, tI_aC, tL_aC, tR_aC, tN_aC, tZ_aC, tC_aC, tc_aC, tz_aC, tI_rmL, tL_rmL, tR_rmL, tN_rmL, tZ_rmL, tC_rmL, tc_rmL, tz_rmL, tI_mk, tL_mk, tR_mk, tN_mk, tZ_mk, tC_mk, tc_mk, tz_mk, tI_pushL, tL_pushL, tR_pushL, tN_pushL, tZ_pushL, tC_pushL, tc_pushL, tz_pushL, tI_pushB, tL_pushB, tR_pushB, tN_pushB, tZ_pushB, tC_pushB, tc_pushB, tz_pushB, tI_cpL, tL_cpL, tR_cpL, tN_cpL, tZ_cpL, tC_cpL, tc_cpL, tz_cpL, eq_self, true_and, and_true, false_and, and_false, if_true, if_false, reduceIte, ite_true, ite_false, not_true_eq_false, not_false_eq_true, gm hs', pm hs, hi, hi', gz_b hb]
  rfl
/-- which fault takes the next message, and the faults behind it -/
def fltK (a : TS) (f : Nat) : Int32 := if tI a 8 f 0 ≤ 0 then (if tI a 8 f 1 ≤ 0 then (if tI a 8 f 2 ≤ 0 then -1 else 2) else 1) else 0
def fltS (a : TS) (f : Nat) : TS := if tI a 8 f 0 ≤ 0 then (if tI a 8 f 1 ≤ 0 then (if tI a 8 f 2 ≤ 0 then a else sI a 8 f 2 (tI a 8 f 2 - 1)) else sI a 8 f 1 (tI a 8 f 1 - 1)) else sI a 8 f 0 (tI a 8 f 0 - 1)
theorem x38_2 {a : TS} {z : Hp} {sl j f k : Nat} (hs : isO 1 5 sl) (hj : j < tN a sl) (hR : tR a sl j 1 = some (8, f)) (hf : f < tN a 8) (hz : tZ a 8 f = 3) (hk : k < 3) : Ru 38 2 [(0, aR (some (sl, j))), (1, aI (Int32.ofNat k))] [] (enc 1 a z) =
    if tI a 8 f k ≤ 0 then Ru 38 2 [(0, aR (some (sl, j))), (1, aI (Int32.ofNat (k + 1)))] [] (enc 1 a z) else some (.inl (some (aI (Int32.ofNat k))), enc 1 (sI a 8 f k (tI a 8 f k - 1)) z) := by
  have h1 : ¬ Int32.ofNat 3 ≤ Int32.ofNat k := by rw [o_le (by decide) (by omega)]; omega
  have h2 : (Int32.ofNat k).toNatClampNeg = k := o_ix (by omega)
  have h3 : ¬ Int32.ofNat k < 0 := o_lt0 (by omega)
  rw [lf_38_2]
  simp (config := {decide := true}) only [gfI_enc, gfL_enc, gfR_enc, pfI_enc, pfL_enc, pfR_enc, Option.bind_some, cI_v, cL_v, cF_v, cD_v, cR_v, cV_v, cI_x, cL_x, cR_x, cV_x, gz_0, gz_1, acc_enc, tI_sI, tL_sI, tR_sI, tN_sI, tZ_sI, tC_sI, tc_sI, tz_sI, tI_sL, tL_sL, tR_sL, tN_sL, tZ_sL, tC_sL, tc_sL, tz_sL, tI_sR, tL_sR, tR_sR, tN_sR, tZ_sR, tC_sR, tc_sR, tz_sR, tI_sZ, tL_sZ, tR_sZ, tN_sZ, tZ_sZ, tC_sZ, tc_sZ, tz_sZ, tI_sC, tL_sC, tR_sC, tN_sC, tZ_sC, tC_sC, tc_sC, tz_sC, tI_aC, tL_aC, tR_aC, tN_aC, tZ_aC, tC_aC, tc_aC, tz_aC, tI_rmL, tL_rmL, tR_rmL, tN_rmL, tZ_rmL, tC_rmL, tc_rmL, tz_rmL, tI_mk, tL_mk, tR_mk, tN_mk, tZ_mk, tC_mk, tc_mk, tz_mk, tI_pushL, tL_pushL, tR_pushL, tN_pushL, tZ_pushL, tC_pushL, tc_pushL, tz_pushL, tI_pushB, tL_pushB, tR_pushB, tN_pushB, tZ_pushB, tC_pushB, tc_pushB, tz_pushB, tI_cpL, tL_cpL, tR_cpL, tN_cpL, tZ_cpL, tC_cpL, tc_cpL, tz_cpL, eq_self, true_and, and_true, false_and, and_false, if_true, if_false, reduceIte, ite_true, ite_false, not_true_eq_false, not_false_eq_true, gR_o hs, hj, hR, len_enc, gaI_enc, paI_enc, hf, hz, h1, h2, h3, hk, o_s]
theorem x38 {a : TS} {z : Hp} {sl j f : Nat} (hs : isO 1 5 sl) (hj : j < tN a sl) (hR : tR a sl j 1 = some (8, f)) (hf : f < tN a 8) (hz : tZ a 8 f = 3) : Ex 38 [aR (some (sl, j))] (enc 1 a z) = some (.inl (some (aI (fltK a f))), enc 1 (fltS a f) z) := by
  refine (X_o hs (by decide +kernel) hj rfl).trans ((lf_38_0 ..).trans ?_)
  show Ru 38 2 [(0, aR (some (sl, j))), (1, aI (Int32.ofNat 0))] [] (enc 1 a z) = _
  unfold fltK fltS
  rw [x38_2 hs hj hR hf hz (by decide)]
  by_cases h0 : tI a 8 f 0 ≤ 0
  · rw [if_pos h0, if_pos h0, if_pos h0, x38_2 hs hj hR hf hz (by decide)]
    by_cases h1 : tI a 8 f 1 ≤ 0
    · rw [if_pos h1, if_pos h1, if_pos h1, x38_2 hs hj hR hf hz (by decide)]
      by_cases h2 : tI a 8 f 2 ≤ 0
      · rw [if_pos h2, if_pos h2, if_pos h2, lf_38_2]
        simp (config := {decide := true}) only [gfI_enc, gfL_enc, gfR_enc, pfI_enc, pfL_enc, pfR_enc, Option.bind_some, cI_v, cL_v, cF_v, cD_v, cR_v, cV_v, cI_x, cL_x, cR_x, cV_x, gz_0, gz_1, acc_enc, tI_sI, tL_sI, tR_sI, tN_sI, tZ_sI, tC_sI, tc_sI, tz_sI, tI_sL, tL_sL, tR_sL, tN_sL, tZ_sL, tC_sL, tc_sL, tz_sL, tI_sR, tL_sR, tR_sR, tN_sR, tZ_sR, tC_sR, tc_sR, tz_sR, tI_sZ, tL_sZ, tR_sZ, tN_sZ, tZ_sZ, tC_sZ, tc_sZ, tz_sZ, tI_sC, tL_sC, tR_sC, tN_sC, tZ_sC, tC_sC, tc_sC, tz_sC, tI_aC, tL_aC, tR_aC, tN_aC, tZ_aC, tC_aC, tc_aC, tz_aC, tI_rmL, tL_rmL, tR_rmL, tN_rmL, tZ_rmL, tC_rmL, tc_rmL, tz_rmL, tI_mk, tL_mk, tR_mk, tN_mk, tZ_mk, tC_mk, tc_mk, tz_mk, tI_pushL, tL_pushL, tR_pushL, tN_pushL, tZ_pushL, tC_pushL, tc_pushL, tz_pushL, tI_pushB, tL_pushB, tR_pushB, tN_pushB, tZ_pushB, tC_pushB, tc_pushB, tz_pushB, tI_cpL, tL_cpL, tR_cpL, tN_cpL, tZ_cpL, tC_cpL, tc_cpL, tz_cpL, eq_self, true_and, and_true, false_and, and_false, if_true, if_false, reduceIte, ite_true, ite_false, not_true_eq_false, not_false_eq_true, gR_o hs, hj, hR, len_enc, hf, hz]
      · rw [if_neg h2, if_neg h2, if_neg h2]
        rfl
    · rw [if_neg h1, if_neg h1, if_neg h1]
      rfl
  · rw [if_neg h0, if_neg h0, if_neg h0]
    rfl
/-- what a message says: its fields but for two of the way -/
def mv (a : TS) (s i : Nat) : Nat → Int32 := fun f => if (f < 12 ∧ f ≠ 3) ∨ f = 14 then tI a s i f else 0
/-- an entry of a line: when it comes, and what it says -/
def eC (a : TS) (o : Option (Nat × Nat)) : Int32 × (Nat → Int32) := match o with
  | some q => (tI a q.1 q.2 12, mv a q.1 q.2)
  | none => (0, fun _ => 0)
/-- a line's entries -/
def vL (a : TS) (c n : Nat) : List (Int32 × (Nat → Int32)) := (List.range n).map (fun k => eC a (tR a 9 c k))
/-- the lines' slots -/
def LO (a : TS) : Prop := (∀ c, c < tN a 9 → ∀ k, k < tZ a 9 c → ∃ r, r < tN a 10 ∧ tR a 9 c k = some (10, r)) ∧ (∀ c c' k k', c < tN a 9 → c' < tN a 9 → k < tZ a 9 c → k' < tZ a 9 c' → tR a 9 c k = tR a 9 c' k' → c = c' ∧ k = k') ∧ ∀ c, c < tN a 9 → tZ a 9 c ≤ tC a 9 c ∧ tC a 9 c < 50000 ∧ (tC a 9 c = 0 ∨ 10 ≤ tC a 9 c)
/-- a line object: its parts -/
def LnP (a : TS) (sl j c f : Nat) : Prop := isO 1 5 sl ∧ j < tN a sl ∧ tR a sl j 0 = some (25, 0) ∧ 0 < tN a 25 ∧ tR a sl j 1 = some (8, f) ∧ f < tN a 8 ∧ tZ a 8 f = 3 ∧ tR a sl j 2 = some (9, c) ∧ c < tN a 9
/-- a free slot at the line's end, made if there is none -/
def slot (a : TS) (c n : Nat) : TS := if n < tZ a 9 c then a else pushL (cpL (mk a 10 0 0 15) 10 (tN a 10) (iniM 0 (-1)) [2, 3, 4, 5, 6, 7, 8, 9, 10, 11, 12, 13, 14, 0, 1]) 9 c (some (10, tN a 10))
/-- one message is laid on a line -/
def lay (a : TS) (sl j c n s i : Nat) (late : Int32) : TS :=
  let a1 := slot a c n
  let r := match tR a1 9 c n with | some q => q.2 | none => 0
  let a2 := cpL a1 10 r (tI a1 s i) [0, 1, 2, 3, 4, 5, 6, 7, 8, 9, 10, 11, 14]
  sI (sI a2 10 r 12 (tI a 25 0 0 + tI a 25 0 2 + late)) sl j 3 (Int32.ofNat (n + 1))
/-- the rest of a lay, behind the slot -/
noncomputable def tl37 (o v1 : Option (Nat × Nat)) (v2 v3 v4 : Int32) (h3 : Hp) : Res :=
  (gfR h3 o 5 2).bind (fun x5 =>
  (gfI h3 o 5 3).bind (fun x6 =>
  cR (Ex 402 [aR x5, aI x6] h3) (fun x8 h7 =>
  acc x8 6 h7 (
  cR (Ex 41 [aR x8, aR v1] h7) (fun x10 h9 =>
  (gfR h9 o 5 0).bind (fun x11 =>
  (gfI h9 x11 2 0).bind (fun x12 =>
  (gfR h9 o 5 0).bind (fun x13 =>
  (gfI h9 x13 2 2).bind (fun x14 =>
  if v2 = (2 : Int32) then
    (pf h9 x10 6 12 (aI ((x12 + x14) + (4 : Int32)))).bind (fun h15 =>
    (gfI h15 o 5 3).bind (fun x16 =>
    (pf h15 o 5 3 (aI (x16 + (1 : Int32)))).bind (fun h17 =>
    Ru 37 27 [(0, aR o), (1, aR v1), (2, aI v2), (3, aI v3), (4, aI (v4 + (1 : Int32)))] [] h17)))
  else
    (pf h9 x10 6 12 (aI ((x12 + x14) + (0 : Int32)))).bind (fun h18 =>
    (gfI h18 o 5 3).bind (fun x19 =>
    (pf h18 o 5 3 (aI (x19 + (1 : Int32)))).bind (fun h20 =>
    Ru 37 27 [(0, aR o), (1, aR v1), (2, aI v2), (3, aI v3), (4, aI (v4 + (1 : Int32)))] [] h20)))))))) xT)) xT))
theorem lnF (a : TS) (z : Hp) (o v1 : Option (Nat × Nat)) (v2 v3 v4 : Int32) (hv : ¬ v3 ≤ v4) : Ru 37 27 [(0, aR o), (1, aR v1), (2, aI v2), (3, aI v3), (4, aI v4)] [] (enc 1 a z) =
    (gfI (enc 1 a z) o 5 3).bind (fun x1 =>
      (gfR (enc 1 a z) o 5 2).bind (fun x2 =>
      cI (Ex 405 [aR x2] (enc 1 a z)) (fun x4 h3 =>
      if x1 < x4 then tl37 o v1 v2 v3 v4 h3
      else
        (gfR h3 o 5 2).bind (fun x21 =>
        cV (Ex 40 [aR (nob h3 10 6 [0, 0, 0, 0, 0, 0, 0, 0, 0, 0, 0, 0, 0, 0, 0]).1, aI (0 : Int32), aI (-1 : Int32)] (nob h3 10 6 [0, 0, 0, 0, 0, 0, 0, 0, 0, 0, 0, 0, 0, 0, 0]).2) (fun h22 =>
        cI (Ex 401 [aR x21, aR (nob h3 10 6 [0, 0, 0, 0, 0, 0, 0, 0, 0, 0, 0, 0, 0, 0, 0]).1] h22) (fun _ h23 => tl37 o v1 v2 v3 v4 h23) xT) xT)) xT)) := by
  rw [lf_37_27, if_neg hv]
  rfl
theorem isO_ne {w K s t : Nat} (h : isO w K s) (ht : (Nat.beq (kd t) K && Nat.beq (ow t) w) = false) : ¬ s = t := fun e => by
  subst e
  rw [h.1, h.2, beq_tt rfl, beq_tt rfl] at ht
  cases ht
theorem tl37_x {a : TS} {z : Hp} {sl j c f n r s i : Nat} {v2 v3 v4 : Int32} (hP : LnP a sl j c f) (hn : tI a sl j 3 = Int32.ofNat n) (hn2 : n < 2 ^ 31) (hr : tR a 9 c n = some (10, r)) (hr2 : r < tN a 10) (hz : n < tZ a 9 c) (hs : isM s) (hi : i < tN a s) (hb : bitOk (tI a s i 14) = true) :
    tl37 (some (sl, j)) (some (s, i)) v2 v3 v4 (enc 1 a z) = Ru 37 27 [(0, aR (some (sl, j))), (1, aR (some (s, i))), (2, aI v2), (3, aI v3), (4, aI (v4 + 1))] [] (enc 1 (sI (sI (cpL a 10 r (tI a s i) [0, 1, 2, 3, 4, 5, 6, 7, 8, 9, 10, 11, 14]) 10 r 12 (tI a 25 0 0 + tI a 25 0 2 + (if v2 = 2 then 4 else 0))) sl j 3 (Int32.ofNat (n + 1))) z) := by
  obtain ⟨p1, p2, p3, p4, p5, p6, p7, p8, p9⟩ := hP
  have e1 : ¬ sl = 10 := isO_ne p1 (by decide +kernel)
  have e2 : (Int32.ofNat n).toNatClampNeg = n := o_ix hn2
  have e3 : ¬ Int32.ofNat n < 0 := o_lt0 hn2
  have i10 : isM 10 := ⟨by decide +kernel, by decide +kernel⟩
  have x41' := fun z => x41 (a := a) (z := z) i10 hr2 hs hi hb
  unfold tl37
  simp (config := {decide := true}) only [gfI_enc, gfL_enc, gfR_enc, pfI_enc, pfL_enc, pfR_enc, Option.bind_some, cI_v, cL_v, cF_v, cD_v, cR_v, cV_v, cI_x, cL_x, cR_x, cV_x, gz_0, gz_1, acc_enc, tI_sI, tL_sI, tR_sI, tN_sI, tZ_sI, tC_sI, tc_sI, tz_sI, tI_sL, tL_sL, tR_sL, tN_sL, tZ_sL, tC_sL, tc_sL, tz_sL, tI_sR, tL_sR, tR_sR, tN_sR, tZ_sR, tC_sR, tc_sR, tz_sR, tI_sZ, tL_sZ, tR_sZ, tN_sZ, tZ_sZ, tC_sZ, tc_sZ, tz_sZ, tI_sC, tL_sC, tR_sC, tN_sC, tZ_sC, tC_sC, tc_sC, tz_sC, tI_aC, tL_aC, tR_aC, tN_aC, tZ_aC, tC_aC, tc_aC, tz_aC, tI_rmL, tL_rmL, tR_rmL, tN_rmL, tZ_rmL, tC_rmL, tc_rmL, tz_rmL, tI_mk, tL_mk, tR_mk, tN_mk, tZ_mk, tC_mk, tc_mk, tz_mk, tI_pushL, tL_pushL, tR_pushL, tN_pushL, tZ_pushL, tC_pushL, tc_pushL, tz_pushL, tI_pushB, tL_pushB, tR_pushB, tN_pushB, tZ_pushB, tC_pushB, tc_pushB, tz_pushB, tI_cpL, tL_cpL, tR_cpL, tN_cpL, tZ_cpL, tC_cpL, tc_cpL, tz_cpL, eq_self, true_and, and_true, false_and, and_false, if_true, if_false, reduceIte, ite_true, ite_false, not_true_eq_false, not_false_eq_true, gR_o p1, gI_o p1, pI_o p1, p2, p3, p4, p8, p9, hn, X402, e2, e3, hz, hr, acc_m i10, hr2, x41', e1, pm i10, o_s]
  by_cases hv : v2 = 2
  · simp (config := {decide := true}) only [gfI_enc, gfL_enc, gfR_enc, pfI_enc, pfL_enc, pfR_enc, Option.bind_some, cI_v, cL_v, cF_v, cD_v, cR_v, cV_v, cI_x, cL_x, cR_x, cV_x, gz_0, gz_1, acc_enc, tI_sI, tL_sI, tR_sI, tN_sI, tZ_sI, tC_sI, tc_sI, tz_sI, tI_sL, tL_sL, tR_sL, tN_sL, tZ_sL, tC_sL, tc_sL, tz_sL, tI_sR, tL_sR, tR_sR, tN_sR, tZ_sR, tC_sR, tc_sR, tz_sR, tI_sZ, tL_sZ, tR_sZ, tN_sZ, tZ_sZ, tC_sZ, tc_sZ, tz_sZ, tI_sC, tL_sC, tR_sC, tN_sC, tZ_sC, tC_sC, tc_sC, tz_sC, tI_aC, tL_aC, tR_aC, tN_aC, tZ_aC, tC_aC, tc_aC, tz_aC, tI_rmL, tL_rmL, tR_rmL, tN_rmL, tZ_rmL, tC_rmL, tc_rmL, tz_rmL, tI_mk, tL_mk, tR_mk, tN_mk, tZ_mk, tC_mk, tc_mk, tz_mk, tI_pushL, tL_pushL, tR_pushL, tN_pushL, tZ_pushL, tC_pushL, tc_pushL, tz_pushL, tI_pushB, tL_pushB, tR_pushB, tN_pushB, tZ_pushB, tC_pushB, tc_pushB, tz_pushB, tI_cpL, tL_cpL, tR_cpL, tN_cpL, tZ_cpL, tC_cpL, tc_cpL, tz_cpL, eq_self, true_and, and_true, false_and, and_false, if_true, if_false, reduceIte, ite_true, ite_false, not_true_eq_false, not_false_eq_true, hv]
  · simp (config := {decide := true}) only [gfI_enc, gfL_enc, gfR_enc, pfI_enc, pfL_enc, pfR_enc, Option.bind_some, cI_v, cL_v, cF_v, cD_v, cR_v, cV_v, cI_x, cL_x, cR_x, cV_x, gz_0, gz_1, acc_enc, tI_sI, tL_sI, tR_sI, tN_sI, tZ_sI, tC_sI, tc_sI, tz_sI, tI_sL, tL_sL, tR_sL, tN_sL, tZ_sL, tC_sL, tc_sL, tz_sL, tI_sR, tL_sR, tR_sR, tN_sR, tZ_sR, tC_sR, tc_sR, tz_sR, tI_sZ, tL_sZ, tR_sZ, tN_sZ, tZ_sZ, tC_sZ, tc_sZ, tz_sZ, tI_sC, tL_sC, tR_sC, tN_sC, tZ_sC, tC_sC, tc_sC, tz_sC, tI_aC, tL_aC, tR_aC, tN_aC, tZ_aC, tC_aC, tc_aC, tz_aC, tI_rmL, tL_rmL, tR_rmL, tN_rmL, tZ_rmL, tC_rmL, tc_rmL, tz_rmL, tI_mk, tL_mk, tR_mk, tN_mk, tZ_mk, tC_mk, tc_mk, tz_mk, tI_pushL, tL_pushL, tR_pushL, tN_pushL, tZ_pushL, tC_pushL, tc_pushL, tz_pushL, tI_pushB, tL_pushB, tR_pushB, tN_pushB, tZ_pushB, tC_pushB, tc_pushB, tz_pushB, tI_cpL, tL_cpL, tR_cpL, tN_cpL, tZ_cpL, tC_cpL, tc_cpL, tz_cpL, eq_self, true_and, and_true, false_and, and_false, if_true, if_false, reduceIte, ite_true, ite_false, not_true_eq_false, not_false_eq_true, hv]
theorem lay_x {a : TS} {z : Hp} {sl j c f n s i : Nat} {v2 v3 v4 : Int32} (hP : LnP a sl j c f) (hL : LO a) (hn : tI a sl j 3 = Int32.ofNat n) (hn2 : n ≤ tZ a 9 c) (hz : tZ a 9 c < 29999) (hs : isM s) (hi : i < tN a s) (hb : bitOk (tI a s i 14) = true) (hv : ¬ v3 ≤ v4) :
    Ru 37 27 [(0, aR (some (sl, j))), (1, aR (some (s, i))), (2, aI v2), (3, aI v3), (4, aI v4)] [] (enc 1 a z) = Ru 37 27 [(0, aR (some (sl, j))), (1, aR (some (s, i))), (2, aI v2), (3, aI v3), (4, aI (v4 + 1))] [] (enc 1 (lay a sl j c n s i (if v2 = 2 then 4 else 0)) z) := by
  have hP0 := hP
  obtain ⟨p1, p2, p3, p4, p5, p6, p7, p8, p9⟩ := hP
  obtain ⟨l1, l2, l3⟩ := hL
  rw [lnF _ _ _ _ _ _ _ hv]
  simp (config := {decide := true}) only [gfI_enc, gfL_enc, gfR_enc, pfI_enc, pfL_enc, pfR_enc, Option.bind_some, cI_v, cL_v, cF_v, cD_v, cR_v, cV_v, cI_x, cL_x, cR_x, cV_x, gz_0, gz_1, acc_enc, tI_sI, tL_sI, tR_sI, tN_sI, tZ_sI, tC_sI, tc_sI, tz_sI, tI_sL, tL_sL, tR_sL, tN_sL, tZ_sL, tC_sL, tc_sL, tz_sL, tI_sR, tL_sR, tR_sR, tN_sR, tZ_sR, tC_sR, tc_sR, tz_sR, tI_sZ, tL_sZ, tR_sZ, tN_sZ, tZ_sZ, tC_sZ, tc_sZ, tz_sZ, tI_sC, tL_sC, tR_sC, tN_sC, tZ_sC, tC_sC, tc_sC, tz_sC, tI_aC, tL_aC, tR_aC, tN_aC, tZ_aC, tC_aC, tc_aC, tz_aC, tI_rmL, tL_rmL, tR_rmL, tN_rmL, tZ_rmL, tC_rmL, tc_rmL, tz_rmL, tI_mk, tL_mk, tR_mk, tN_mk, tZ_mk, tC_mk, tc_mk, tz_mk, tI_pushL, tL_pushL, tR_pushL, tN_pushL, tZ_pushL, tC_pushL, tc_pushL, tz_pushL, tI_pushB, tL_pushB, tR_pushB, tN_pushB, tZ_pushB, tC_pushB, tc_pushB, tz_pushB, tI_cpL, tL_cpL, tR_cpL, tN_cpL, tZ_cpL, tC_cpL, tc_cpL, tz_cpL, eq_self, true_and, and_true, false_and, and_false, if_true, if_false, reduceIte, ite_true, ite_false, not_true_eq_false, not_false_eq_true, gR_o p1, gI_o p1, p2, p8, p9, hn, X405]
  by_cases h : n < tZ a 9 c
  · have h' : Int32.ofNat n < Int32.ofNat (tZ a 9 c) := by rw [o_lt (by omega) (by omega)]; exact h
    obtain ⟨r, r1, r2⟩ := l1 c p9 n h
    rw [if_pos h', tl37_x hP0 hn (by omega) r2 r1 h hs hi hb]
    unfold lay slot
    rw [if_pos h]
    dsimp only
    rw [r2]
  · have h' : ¬ Int32.ofNat n < Int32.ofNat (tZ a 9 c) := by rw [o_lt (by omega) (by omega)]; exact h
    have hnz : n = tZ a 9 c := by omega
    have e1 : ¬ sl = 10 := isO_ne p1 (by decide +kernel)
    have e9 : ¬ sl = 9 := isO_ne p1 (by decide +kernel)
    have i10 : isM 10 := ⟨by decide +kernel, by decide +kernel⟩
    obtain ⟨l3a, l3b, -⟩ := l3 c p9
    rw [if_neg h']
    rw [nob_enc (by decide +kernel)]
    have x40' := fun z => x40 (a := mk a 10 0 0 15) (z := z) (i := tN a 10) 0 (-1) i10 (by rw [tN_mk, if_pos rfl]; omega)
    have hnF : nF 6 = 15 := rfl
    simp (config := {decide := true}) only [gfI_enc, gfL_enc, gfR_enc, pfI_enc, pfL_enc, pfR_enc, Option.bind_some, cI_v, cL_v, cF_v, cD_v, cR_v, cV_v, cI_x, cL_x, cR_x, cV_x, gz_0, gz_1, acc_enc, tI_sI, tL_sI, tR_sI, tN_sI, tZ_sI, tC_sI, tc_sI, tz_sI, tI_sL, tL_sL, tR_sL, tN_sL, tZ_sL, tC_sL, tc_sL, tz_sL, tI_sR, tL_sR, tR_sR, tN_sR, tZ_sR, tC_sR, tc_sR, tz_sR, tI_sZ, tL_sZ, tR_sZ, tN_sZ, tZ_sZ, tC_sZ, tc_sZ, tz_sZ, tI_sC, tL_sC, tR_sC, tN_sC, tZ_sC, tC_sC, tc_sC, tz_sC, tI_aC, tL_aC, tR_aC, tN_aC, tZ_aC, tC_aC, tc_aC, tz_aC, tI_rmL, tL_rmL, tR_rmL, tN_rmL, tZ_rmL, tC_rmL, tc_rmL, tz_rmL, tI_mk, tL_mk, tR_mk, tN_mk, tZ_mk, tC_mk, tc_mk, tz_mk, tI_pushL, tL_pushL, tR_pushL, tN_pushL, tZ_pushL, tC_pushL, tc_pushL, tz_pushL, tI_pushB, tL_pushB, tR_pushB, tN_pushB, tZ_pushB, tC_pushB, tc_pushB, tz_pushB, tI_cpL, tL_cpL, tR_cpL, tN_cpL, tZ_cpL, tC_cpL, tc_cpL, tz_cpL, eq_self, true_and, and_true, false_and, and_false, if_true, if_false, reduceIte, ite_true, ite_false, not_true_eq_false, not_false_eq_true, hnF, x40']
    rw [X401 (by decide +kernel) (by simp (config := {decide := true}) only [gfI_enc, gfL_enc, gfR_enc, pfI_enc, pfL_enc, pfR_enc, Option.bind_some, cI_v, cL_v, cF_v, cD_v, cR_v, cV_v, cI_x, cL_x, cR_x, cV_x, gz_0, gz_1, acc_enc, tI_sI, tL_sI, tR_sI, tN_sI, tZ_sI, tC_sI, tc_sI, tz_sI, tI_sL, tL_sL, tR_sL, tN_sL, tZ_sL, tC_sL, tc_sL, tz_sL, tI_sR, tL_sR, tR_sR, tN_sR, tZ_sR, tC_sR, tc_sR, tz_sR, tI_sZ, tL_sZ, tR_sZ, tN_sZ, tZ_sZ, tC_sZ, tc_sZ, tz_sZ, tI_sC, tL_sC, tR_sC, tN_sC, tZ_sC, tC_sC, tc_sC, tz_sC, tI_aC, tL_aC, tR_aC, tN_aC, tZ_aC, tC_aC, tc_aC, tz_aC, tI_rmL, tL_rmL, tR_rmL, tN_rmL, tZ_rmL, tC_rmL, tc_rmL, tz_rmL, tI_mk, tL_mk, tR_mk, tN_mk, tZ_mk, tC_mk, tc_mk, tz_mk, tI_pushL, tL_pushL, tR_pushL, tN_pushL, tZ_pushL, tC_pushL, tc_pushL, tz_pushL, tI_pushB, tL_pushB, tR_pushB, tN_pushB, tZ_pushB, tC_pushB, tc_pushB, tz_pushB, tI_cpL, tL_cpL, tR_cpL, tN_cpL, tZ_cpL, tC_cpL, tc_cpL, tz_cpL, eq_self, true_and, and_true, false_and, and_false, if_true, if_false, reduceIte, ite_true, ite_false, not_true_eq_false, not_false_eq_true, p9]) (by simp (config := {decide := true}) only [gfI_enc, gfL_enc, gfR_enc, pfI_enc, pfL_enc, pfR_enc, Option.bind_some, cI_v, cL_v, cF_v, cD_v, cR_v, cV_v, cI_x, cL_x, cR_x, cV_x, gz_0, gz_1, acc_enc, tI_sI, tL_sI, tR_sI, tN_sI, tZ_sI, tC_sI, tc_sI, tz_sI, tI_sL, tL_sL, tR_sL, tN_sL, tZ_sL, tC_sL, tc_sL, tz_sL, tI_sR, tL_sR, tR_sR, tN_sR, tZ_sR, tC_sR, tc_sR, tz_sR, tI_sZ, tL_sZ, tR_sZ, tN_sZ, tZ_sZ, tC_sZ, tc_sZ, tz_sZ, tI_sC, tL_sC, tR_sC, tN_sC, tZ_sC, tC_sC, tc_sC, tz_sC, tI_aC, tL_aC, tR_aC, tN_aC, tZ_aC, tC_aC, tc_aC, tz_aC, tI_rmL, tL_rmL, tR_rmL, tN_rmL, tZ_rmL, tC_rmL, tc_rmL, tz_rmL, tI_mk, tL_mk, tR_mk, tN_mk, tZ_mk, tC_mk, tc_mk, tz_mk, tI_pushL, tL_pushL, tR_pushL, tN_pushL, tZ_pushL, tC_pushL, tc_pushL, tz_pushL, tI_pushB, tL_pushB, tR_pushB, tN_pushB, tZ_pushB, tC_pushB, tc_pushB, tz_pushB, tI_cpL, tL_cpL, tR_cpL, tN_cpL, tZ_cpL, tC_cpL, tc_cpL, tz_cpL, eq_self, true_and, and_true, false_and, and_false, if_true, if_false, reduceIte, ite_true, ite_false, not_true_eq_false, not_false_eq_true]; omega) (by simp (config := {decide := true}) only [gfI_enc, gfL_enc, gfR_enc, pfI_enc, pfL_enc, pfR_enc, Option.bind_some, cI_v, cL_v, cF_v, cD_v, cR_v, cV_v, cI_x, cL_x, cR_x, cV_x, gz_0, gz_1, acc_enc, tI_sI, tL_sI, tR_sI, tN_sI, tZ_sI, tC_sI, tc_sI, tz_sI, tI_sL, tL_sL, tR_sL, tN_sL, tZ_sL, tC_sL, tc_sL, tz_sL, tI_sR, tL_sR, tR_sR, tN_sR, tZ_sR, tC_sR, tc_sR, tz_sR, tI_sZ, tL_sZ, tR_sZ, tN_sZ, tZ_sZ, tC_sZ, tc_sZ, tz_sZ, tI_sC, tL_sC, tR_sC, tN_sC, tZ_sC, tC_sC, tc_sC, tz_sC, tI_aC, tL_aC, tR_aC, tN_aC, tZ_aC, tC_aC, tc_aC, tz_aC, tI_rmL, tL_rmL, tR_rmL, tN_rmL, tZ_rmL, tC_rmL, tc_rmL, tz_rmL, tI_mk, tL_mk, tR_mk, tN_mk, tZ_mk, tC_mk, tc_mk, tz_mk, tI_pushL, tL_pushL, tR_pushL, tN_pushL, tZ_pushL, tC_pushL, tc_pushL, tz_pushL, tI_pushB, tL_pushB, tR_pushB, tN_pushB, tZ_pushB, tC_pushB, tc_pushB, tz_pushB, tI_cpL, tL_cpL, tR_cpL, tN_cpL, tZ_cpL, tC_cpL, tc_cpL, tz_cpL, eq_self, true_and, and_true, false_and, and_false, if_true, if_false, reduceIte, ite_true, ite_false, not_true_eq_false, not_false_eq_true]; exact l3a) (by simp (config := {decide := true}) only [gfI_enc, gfL_enc, gfR_enc, pfI_enc, pfL_enc, pfR_enc, Option.bind_some, cI_v, cL_v, cF_v, cD_v, cR_v, cV_v, cI_x, cL_x, cR_x, cV_x, gz_0, gz_1, acc_enc, tI_sI, tL_sI, tR_sI, tN_sI, tZ_sI, tC_sI, tc_sI, tz_sI, tI_sL, tL_sL, tR_sL, tN_sL, tZ_sL, tC_sL, tc_sL, tz_sL, tI_sR, tL_sR, tR_sR, tN_sR, tZ_sR, tC_sR, tc_sR, tz_sR, tI_sZ, tL_sZ, tR_sZ, tN_sZ, tZ_sZ, tC_sZ, tc_sZ, tz_sZ, tI_sC, tL_sC, tR_sC, tN_sC, tZ_sC, tC_sC, tc_sC, tz_sC, tI_aC, tL_aC, tR_aC, tN_aC, tZ_aC, tC_aC, tc_aC, tz_aC, tI_rmL, tL_rmL, tR_rmL, tN_rmL, tZ_rmL, tC_rmL, tc_rmL, tz_rmL, tI_mk, tL_mk, tR_mk, tN_mk, tZ_mk, tC_mk, tc_mk, tz_mk, tI_pushL, tL_pushL, tR_pushL, tN_pushL, tZ_pushL, tC_pushL, tc_pushL, tz_pushL, tI_pushB, tL_pushB, tR_pushB, tN_pushB, tZ_pushB, tC_pushB, tc_pushB, tz_pushB, tI_cpL, tL_cpL, tR_cpL, tN_cpL, tZ_cpL, tC_cpL, tc_cpL, tz_cpL, eq_self, true_and, and_true, false_and, and_false, if_true, if_false, reduceIte, ite_true, ite_false, not_true_eq_false, not_false_eq_true]; exact l3b) (by rfl)]
    simp (config := {decide := true}) only [gfI_enc, gfL_enc, gfR_enc, pfI_enc, pfL_enc, pfR_enc, Option.bind_some, cI_v, cL_v, cF_v, cD_v, cR_v, cV_v, cI_x, cL_x, cR_x, cV_x, gz_0, gz_1, acc_enc, tI_sI, tL_sI, tR_sI, tN_sI, tZ_sI, tC_sI, tc_sI, tz_sI, tI_sL, tL_sL, tR_sL, tN_sL, tZ_sL, tC_sL, tc_sL, tz_sL, tI_sR, tL_sR, tR_sR, tN_sR, tZ_sR, tC_sR, tc_sR, tz_sR, tI_sZ, tL_sZ, tR_sZ, tN_sZ, tZ_sZ, tC_sZ, tc_sZ, tz_sZ, tI_sC, tL_sC, tR_sC, tN_sC, tZ_sC, tC_sC, tc_sC, tz_sC, tI_aC, tL_aC, tR_aC, tN_aC, tZ_aC, tC_aC, tc_aC, tz_aC, tI_rmL, tL_rmL, tR_rmL, tN_rmL, tZ_rmL, tC_rmL, tc_rmL, tz_rmL, tI_mk, tL_mk, tR_mk, tN_mk, tZ_mk, tC_mk, tc_mk, tz_mk, tI_pushL, tL_pushL, tR_pushL, tN_pushL, tZ_pushL, tC_pushL, tc_pushL, tz_pushL, tI_pushB, tL_pushB, tR_pushB, tN_pushB, tZ_pushB, tC_pushB, tc_pushB, tz_pushB, tI_cpL, tL_cpL, tR_cpL, tN_cpL, tZ_cpL, tC_cpL, tc_cpL, tz_cpL, eq_self, true_and, and_true, false_and, and_false, if_true, if_false, reduceIte, ite_true, ite_false, not_true_eq_false, not_false_eq_true]
    have hsl : slot a c n = pushL (cpL (mk a 10 0 0 15) 10 (tN a 10) (iniM 0 (-1)) [2, 3, 4, 5, 6, 7, 8, 9, 10, 11, 12, 13, 14, 0, 1]) 9 c (some (10, tN a 10)) := by
      unfold slot
      rw [if_neg h]
    unfold lay
    dsimp only
    rw [← hsl]
    have f0 : ∀ s' i', ¬ (s' = 10 ∧ i' = tN a 10) → ∀ k, tI (slot a c n) s' i' k = tI a s' i' k := fun s' i' hh k => by
      rw [hsl, tI_pushL, tI_cpL, if_neg (fun q => hh ⟨q.1, q.2.1⟩), tI_mk, if_neg hh]
    have f1 : ∀ s' , s' ≠ 9 → s' ≠ 10 → ∀ i' k, tR (slot a c n) s' i' k = tR a s' i' k := fun s' h9 h10 i' k => by
      rw [hsl, tR_pushL, if_neg (fun q => h9 q.1), tR_cpL, tR_mk, if_neg (fun q => h10 q.1)]
    have f2 : ∀ s', tN (slot a c n) s' = if s' = 10 then tN a 10 + 1 else tN a s' := fun s' => by
      rw [hsl, tN_pushL, tN_cpL, tN_mk]
    have f3 : tR (slot a c n) 9 c n = some (10, tN a 10) := by
      rw [hsl, tR_pushL, if_pos ⟨rfl, rfl, by simp (config := {decide := true}) only [gfI_enc, gfL_enc, gfR_enc, pfI_enc, pfL_enc, pfR_enc, Option.bind_some, cI_v, cL_v, cF_v, cD_v, cR_v, cV_v, cI_x, cL_x, cR_x, cV_x, gz_0, gz_1, acc_enc, tI_sI, tL_sI, tR_sI, tN_sI, tZ_sI, tC_sI, tc_sI, tz_sI, tI_sL, tL_sL, tR_sL, tN_sL, tZ_sL, tC_sL, tc_sL, tz_sL, tI_sR, tL_sR, tR_sR, tN_sR, tZ_sR, tC_sR, tc_sR, tz_sR, tI_sZ, tL_sZ, tR_sZ, tN_sZ, tZ_sZ, tC_sZ, tc_sZ, tz_sZ, tI_sC, tL_sC, tR_sC, tN_sC, tZ_sC, tC_sC, tc_sC, tz_sC, tI_aC, tL_aC, tR_aC, tN_aC, tZ_aC, tC_aC, tc_aC, tz_aC, tI_rmL, tL_rmL, tR_rmL, tN_rmL, tZ_rmL, tC_rmL, tc_rmL, tz_rmL, tI_mk, tL_mk, tR_mk, tN_mk, tZ_mk, tC_mk, tc_mk, tz_mk, tI_pushL, tL_pushL, tR_pushL, tN_pushL, tZ_pushL, tC_pushL, tc_pushL, tz_pushL, tI_pushB, tL_pushB, tR_pushB, tN_pushB, tZ_pushB, tC_pushB, tc_pushB, tz_pushB, tI_cpL, tL_cpL, tR_cpL, tN_cpL, tZ_cpL, tC_cpL, tc_cpL, tz_cpL, eq_self, true_and, and_true, false_and, and_false, if_true, if_false, reduceIte, ite_true, ite_false, not_true_eq_false, not_false_eq_true]; exact hnz⟩]
    have f4 : tZ (slot a c n) 9 c = tZ a 9 c + 1 := by
      rw [hsl, tZ_pushL, if_pos ⟨rfl, rfl⟩, tZ_cpL, tZ_mk]
      simp (config := {decide := true}) only [gfI_enc, gfL_enc, gfR_enc, pfI_enc, pfL_enc, pfR_enc, Option.bind_some, cI_v, cL_v, cF_v, cD_v, cR_v, cV_v, cI_x, cL_x, cR_x, cV_x, gz_0, gz_1, acc_enc, tI_sI, tL_sI, tR_sI, tN_sI, tZ_sI, tC_sI, tc_sI, tz_sI, tI_sL, tL_sL, tR_sL, tN_sL, tZ_sL, tC_sL, tc_sL, tz_sL, tI_sR, tL_sR, tR_sR, tN_sR, tZ_sR, tC_sR, tc_sR, tz_sR, tI_sZ, tL_sZ, tR_sZ, tN_sZ, tZ_sZ, tC_sZ, tc_sZ, tz_sZ, tI_sC, tL_sC, tR_sC, tN_sC, tZ_sC, tC_sC, tc_sC, tz_sC, tI_aC, tL_aC, tR_aC, tN_aC, tZ_aC, tC_aC, tc_aC, tz_aC, tI_rmL, tL_rmL, tR_rmL, tN_rmL, tZ_rmL, tC_rmL, tc_rmL, tz_rmL, tI_mk, tL_mk, tR_mk, tN_mk, tZ_mk, tC_mk, tc_mk, tz_mk, tI_pushL, tL_pushL, tR_pushL, tN_pushL, tZ_pushL, tC_pushL, tc_pushL, tz_pushL, tI_pushB, tL_pushB, tR_pushB, tN_pushB, tZ_pushB, tC_pushB, tc_pushB, tz_pushB, tI_cpL, tL_cpL, tR_cpL, tN_cpL, tZ_cpL, tC_cpL, tc_cpL, tz_cpL, eq_self, true_and, and_true, false_and, and_false, if_true, if_false, reduceIte, ite_true, ite_false, not_true_eq_false, not_false_eq_true]
    have f5 : tZ (slot a c n) 8 f = tZ a 8 f := by
      rw [hsl, tZ_pushL, tZ_cpL, tZ_mk]
      simp (config := {decide := true}) only [gfI_enc, gfL_enc, gfR_enc, pfI_enc, pfL_enc, pfR_enc, Option.bind_some, cI_v, cL_v, cF_v, cD_v, cR_v, cV_v, cI_x, cL_x, cR_x, cV_x, gz_0, gz_1, acc_enc, tI_sI, tL_sI, tR_sI, tN_sI, tZ_sI, tC_sI, tc_sI, tz_sI, tI_sL, tL_sL, tR_sL, tN_sL, tZ_sL, tC_sL, tc_sL, tz_sL, tI_sR, tL_sR, tR_sR, tN_sR, tZ_sR, tC_sR, tc_sR, tz_sR, tI_sZ, tL_sZ, tR_sZ, tN_sZ, tZ_sZ, tC_sZ, tc_sZ, tz_sZ, tI_sC, tL_sC, tR_sC, tN_sC, tZ_sC, tC_sC, tc_sC, tz_sC, tI_aC, tL_aC, tR_aC, tN_aC, tZ_aC, tC_aC, tc_aC, tz_aC, tI_rmL, tL_rmL, tR_rmL, tN_rmL, tZ_rmL, tC_rmL, tc_rmL, tz_rmL, tI_mk, tL_mk, tR_mk, tN_mk, tZ_mk, tC_mk, tc_mk, tz_mk, tI_pushL, tL_pushL, tR_pushL, tN_pushL, tZ_pushL, tC_pushL, tc_pushL, tz_pushL, tI_pushB, tL_pushB, tR_pushB, tN_pushB, tZ_pushB, tC_pushB, tc_pushB, tz_pushB, tI_cpL, tL_cpL, tR_cpL, tN_cpL, tZ_cpL, tC_cpL, tc_cpL, tz_cpL, eq_self, true_and, and_true, false_and, and_false, if_true, if_false, reduceIte, ite_true, ite_false, not_true_eq_false, not_false_eq_true]
    have hi' : i < tN (slot a c n) s := by
      rw [f2]
      split
      · rename_i q
        rw [q] at hi
        omega
      · exact hi
    have hb' : bitOk (tI (slot a c n) s i 14) = true := by
      rw [f0 s i (fun q => by rw [q.1, q.2] at hi; exact Nat.lt_irrefl _ hi)]
      exact hb
    have hP' : LnP (slot a c n) sl j c f := by
      refine ⟨p1, ?_, ?_, ?_, ?_, ?_, ?_, ?_, ?_⟩
      · rw [f2, if_neg e1]; exact p2
      · rw [f1 sl e9 e1]; exact p3
      · rw [f2, if_neg (by decide)]; exact p4
      · rw [f1 sl e9 e1]; exact p5
      · rw [f2, if_neg (by decide)]; exact p6
      · rw [f5]; exact p7
      · rw [f1 sl e9 e1]; exact p8
      · rw [f2, if_neg (by decide)]; exact p9
    have ev25 : ∀ k, tI (slot a c n) 25 0 k = tI a 25 0 k := f0 25 0 (fun q => absurd q.1 (by decide))
    rw [tl37_x hP' (by rw [f0 sl j (fun q => e1 q.1)]; exact hn) (by omega) f3 (by rw [f2, if_pos rfl]; omega) (by rw [f4]; omega) hs hi' hb']
    rw [f3, ev25, ev25]
