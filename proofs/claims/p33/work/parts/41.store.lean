/-! ===== the typed store: what the cells of a run hold, by site, number and place; two of them (the class's, the reference's) make a heap ===== -/
/-- ints, longs, references by (site, number, place); how many cells a site has; lengths; capacities; cells and slots made -/
abbrev TS : Type := (Nat → Nat → Nat → Int32) × (Nat → Nat → Nat → Int64) × (Nat → Nat → Nat → Option (Nat × Nat)) × (Nat → Nat) × (Nat → Nat → Nat) × (Nat → Nat → Nat) × Nat × Nat
def tI (m : TS) : Nat → Nat → Nat → Int32 := m.1
def tL (m : TS) : Nat → Nat → Nat → Int64 := m.2.1
def tR (m : TS) : Nat → Nat → Nat → Option (Nat × Nat) := m.2.2.1
def tN (m : TS) : Nat → Nat := m.2.2.2.1
def tZ (m : TS) : Nat → Nat → Nat := m.2.2.2.2.1
def tC (m : TS) : Nat → Nat → Nat := m.2.2.2.2.2.1
def tc (m : TS) : Nat := m.2.2.2.2.2.2.1
def tz (m : TS) : Nat := m.2.2.2.2.2.2.2
def uq3 {α : Type} (f : Nat → Nat → Nat → α) (s i k : Nat) (v : α) : Nat → Nat → Nat → α := fun s' i' k' => if s' = s ∧ i' = i ∧ k' = k then v else f s' i' k'
def uq2 {α : Type} (f : Nat → Nat → α) (s i : Nat) (v : α) : Nat → Nat → α := fun s' i' => if s' = s ∧ i' = i then v else f s' i'
def sI (m : TS) (s i k : Nat) (v : Int32) : TS := (uq3 (tI m) s i k v, m.2)
def sL (m : TS) (s i k : Nat) (v : Int64) : TS := (tI m, uq3 (tL m) s i k v, m.2.2)
def sR (m : TS) (s i k : Nat) (v : Option (Nat × Nat)) : TS := (tI m, tL m, uq3 (tR m) s i k v, m.2.2.2)
def sZ (m : TS) (s i n : Nat) : TS := (tI m, tL m, tR m, tN m, uq2 (tZ m) s i n, tC m, tc m, tz m)
def sC (m : TS) (s i n : Nat) : TS := (tI m, tL m, tR m, tN m, tZ m, uq2 (tC m) s i n, tc m, tz m)
def aC (m : TS) (c n : Nat) : TS := (tI m, tL m, tR m, tN m, tZ m, tC m, tc m + c, tz m + n)
/-- a new cell -/
def mk (m : TS) (s z c n : Nat) : TS := (fun s' i' k' => if s' = s ∧ i' = tN m s then 0 else tI m s' i' k', fun s' i' k' => if s' = s ∧ i' = tN m s then 0 else tL m s' i' k', fun s' i' k' => if s' = s ∧ i' = tN m s then none else tR m s' i' k', fun s' => if s' = s then tN m s + 1 else tN m s', uq2 (tZ m) s (tN m s) z, uq2 (tC m) s (tN m s) c, tc m + 1, tz m + n)
/-- one more element of a list -/
def pushL (m : TS) (s i : Nat) (v : Option (Nat × Nat)) : TS :=
  if tZ m s i < tC m s i then sZ (sR m s i (tZ m s i) v) s i (tZ m s i + 1)
  else aC (sC (sZ (sR m s i (tZ m s i) v) s i (tZ m s i + 1)) s i (liC (tC m s i) (tZ m s i))) 1 (liC (tC m s i) (tZ m s i))
/-- an element of a list goes -/
def rmL (m : TS) (s i k : Nat) : TS := (tI m, tL m, fun s' i' k' => if s' = s ∧ i' = i then (if k' < k then tR m s i k' else tR m s i (k' + 1)) else tR m s' i' k', tN m, uq2 (tZ m) s i (tZ m s i - 1), tC m, tc m, tz m)
/-- one more sign of a builder -/
def pushB (m : TS) (s i : Nat) (v : Int32) : TS :=
  if tZ m s i < tC m s i then sZ (sI m s i (tZ m s i) v) s i (tZ m s i + 1)
  else aC (sC (sZ (sI m s i (tZ m s i) v) s i (tZ m s i + 1)) s i (2 * tC m s i + 2)) 1 (2 * tC m s i + 2)
/-! reads behind writes -/
theorem tL_sI (m : TS) (s i k : Nat) (v : Int32) (s' i' k' : Nat) : tL (sI m s i k v) s' i' k' = tL m s' i' k' := id rfl
theorem tR_sI (m : TS) (s i k : Nat) (v : Int32) (s' i' k' : Nat) : tR (sI m s i k v) s' i' k' = tR m s' i' k' := id rfl
theorem tN_sI (m : TS) (s i k : Nat) (v : Int32) (s' : Nat) : tN (sI m s i k v) s' = tN m s' := id rfl
theorem tZ_sI (m : TS) (s i k : Nat) (v : Int32) (s' i' : Nat) : tZ (sI m s i k v) s' i' = tZ m s' i' := id rfl
theorem tC_sI (m : TS) (s i k : Nat) (v : Int32) (s' i' : Nat) : tC (sI m s i k v) s' i' = tC m s' i' := id rfl
theorem tc_sI (m : TS) (s i k : Nat) (v : Int32) : tc (sI m s i k v) = tc m := id rfl
theorem tz_sI (m : TS) (s i k : Nat) (v : Int32) : tz (sI m s i k v) = tz m := id rfl
theorem tI_sL (m : TS) (s i k : Nat) (v : Int64) (s' i' k' : Nat) : tI (sL m s i k v) s' i' k' = tI m s' i' k' := id rfl
theorem tR_sL (m : TS) (s i k : Nat) (v : Int64) (s' i' k' : Nat) : tR (sL m s i k v) s' i' k' = tR m s' i' k' := id rfl
theorem tN_sL (m : TS) (s i k : Nat) (v : Int64) (s' : Nat) : tN (sL m s i k v) s' = tN m s' := id rfl
theorem tZ_sL (m : TS) (s i k : Nat) (v : Int64) (s' i' : Nat) : tZ (sL m s i k v) s' i' = tZ m s' i' := id rfl
theorem tC_sL (m : TS) (s i k : Nat) (v : Int64) (s' i' : Nat) : tC (sL m s i k v) s' i' = tC m s' i' := id rfl
theorem tc_sL (m : TS) (s i k : Nat) (v : Int64) : tc (sL m s i k v) = tc m := id rfl
theorem tz_sL (m : TS) (s i k : Nat) (v : Int64) : tz (sL m s i k v) = tz m := id rfl
theorem tI_sR (m : TS) (s i k : Nat) (v : Option (Nat × Nat)) (s' i' k' : Nat) : tI (sR m s i k v) s' i' k' = tI m s' i' k' := id rfl
theorem tL_sR (m : TS) (s i k : Nat) (v : Option (Nat × Nat)) (s' i' k' : Nat) : tL (sR m s i k v) s' i' k' = tL m s' i' k' := id rfl
theorem tN_sR (m : TS) (s i k : Nat) (v : Option (Nat × Nat)) (s' : Nat) : tN (sR m s i k v) s' = tN m s' := id rfl
theorem tZ_sR (m : TS) (s i k : Nat) (v : Option (Nat × Nat)) (s' i' : Nat) : tZ (sR m s i k v) s' i' = tZ m s' i' := id rfl
theorem tC_sR (m : TS) (s i k : Nat) (v : Option (Nat × Nat)) (s' i' : Nat) : tC (sR m s i k v) s' i' = tC m s' i' := id rfl
theorem tc_sR (m : TS) (s i k : Nat) (v : Option (Nat × Nat)) : tc (sR m s i k v) = tc m := id rfl
theorem tz_sR (m : TS) (s i k : Nat) (v : Option (Nat × Nat)) : tz (sR m s i k v) = tz m := id rfl
theorem tI_sZ (m : TS) (s i n : Nat) (s' i' k' : Nat) : tI (sZ m s i n) s' i' k' = tI m s' i' k' := id rfl
theorem tL_sZ (m : TS) (s i n : Nat) (s' i' k' : Nat) : tL (sZ m s i n) s' i' k' = tL m s' i' k' := id rfl
theorem tR_sZ (m : TS) (s i n : Nat) (s' i' k' : Nat) : tR (sZ m s i n) s' i' k' = tR m s' i' k' := id rfl
theorem tN_sZ (m : TS) (s i n : Nat) (s' : Nat) : tN (sZ m s i n) s' = tN m s' := id rfl
theorem tC_sZ (m : TS) (s i n : Nat) (s' i' : Nat) : tC (sZ m s i n) s' i' = tC m s' i' := id rfl
theorem tc_sZ (m : TS) (s i n : Nat) : tc (sZ m s i n) = tc m := id rfl
theorem tz_sZ (m : TS) (s i n : Nat) : tz (sZ m s i n) = tz m := id rfl
theorem tI_sC (m : TS) (s i n : Nat) (s' i' k' : Nat) : tI (sC m s i n) s' i' k' = tI m s' i' k' := id rfl
theorem tL_sC (m : TS) (s i n : Nat) (s' i' k' : Nat) : tL (sC m s i n) s' i' k' = tL m s' i' k' := id rfl
theorem tR_sC (m : TS) (s i n : Nat) (s' i' k' : Nat) : tR (sC m s i n) s' i' k' = tR m s' i' k' := id rfl
theorem tN_sC (m : TS) (s i n : Nat) (s' : Nat) : tN (sC m s i n) s' = tN m s' := id rfl
theorem tZ_sC (m : TS) (s i n : Nat) (s' i' : Nat) : tZ (sC m s i n) s' i' = tZ m s' i' := id rfl
theorem tc_sC (m : TS) (s i n : Nat) : tc (sC m s i n) = tc m := id rfl
theorem tz_sC (m : TS) (s i n : Nat) : tz (sC m s i n) = tz m := id rfl
theorem tI_aC (m : TS) (c n : Nat) (s' i' k' : Nat) : tI (aC m c n) s' i' k' = tI m s' i' k' := id rfl
theorem tL_aC (m : TS) (c n : Nat) (s' i' k' : Nat) : tL (aC m c n) s' i' k' = tL m s' i' k' := id rfl
theorem tR_aC (m : TS) (c n : Nat) (s' i' k' : Nat) : tR (aC m c n) s' i' k' = tR m s' i' k' := id rfl
theorem tN_aC (m : TS) (c n : Nat) (s' : Nat) : tN (aC m c n) s' = tN m s' := id rfl
theorem tZ_aC (m : TS) (c n : Nat) (s' i' : Nat) : tZ (aC m c n) s' i' = tZ m s' i' := id rfl
theorem tC_aC (m : TS) (c n : Nat) (s' i' : Nat) : tC (aC m c n) s' i' = tC m s' i' := id rfl
theorem tI_rmL (m : TS) (s i k : Nat) (s' i' k' : Nat) : tI (rmL m s i k) s' i' k' = tI m s' i' k' := id rfl
theorem tL_rmL (m : TS) (s i k : Nat) (s' i' k' : Nat) : tL (rmL m s i k) s' i' k' = tL m s' i' k' := id rfl
theorem tN_rmL (m : TS) (s i k : Nat) (s' : Nat) : tN (rmL m s i k) s' = tN m s' := id rfl
theorem tC_rmL (m : TS) (s i k : Nat) (s' i' : Nat) : tC (rmL m s i k) s' i' = tC m s' i' := id rfl
theorem tc_rmL (m : TS) (s i k : Nat) : tc (rmL m s i k) = tc m := id rfl
theorem tz_rmL (m : TS) (s i k : Nat) : tz (rmL m s i k) = tz m := id rfl
theorem tI_sI (m : TS) (s i k : Nat) (v : Int32) (s' i' k' : Nat) : tI (sI m s i k v) s' i' k' = if s' = s ∧ i' = i ∧ k' = k then v else tI m s' i' k' := id rfl
theorem tL_sL (m : TS) (s i k : Nat) (v : Int64) (s' i' k' : Nat) : tL (sL m s i k v) s' i' k' = if s' = s ∧ i' = i ∧ k' = k then v else tL m s' i' k' := id rfl
theorem tR_sR (m : TS) (s i k : Nat) (v : Option (Nat × Nat)) (s' i' k' : Nat) : tR (sR m s i k v) s' i' k' = if s' = s ∧ i' = i ∧ k' = k then v else tR m s' i' k' := id rfl
theorem tZ_sZ (m : TS) (s i n s' i' : Nat) : tZ (sZ m s i n) s' i' = if s' = s ∧ i' = i then n else tZ m s' i' := id rfl
theorem tC_sC (m : TS) (s i n s' i' : Nat) : tC (sC m s i n) s' i' = if s' = s ∧ i' = i then n else tC m s' i' := id rfl
theorem tc_aC (m : TS) (c n : Nat) : tc (aC m c n) = tc m + c := id rfl
theorem tz_aC (m : TS) (c n : Nat) : tz (aC m c n) = tz m + n := id rfl
theorem tI_mk (m : TS) (s z c n s' i' k' : Nat) : tI (mk m s z c n) s' i' k' = if s' = s ∧ i' = tN m s then 0 else tI m s' i' k' := id rfl
theorem tL_mk (m : TS) (s z c n s' i' k' : Nat) : tL (mk m s z c n) s' i' k' = if s' = s ∧ i' = tN m s then 0 else tL m s' i' k' := id rfl
theorem tR_mk (m : TS) (s z c n s' i' k' : Nat) : tR (mk m s z c n) s' i' k' = if s' = s ∧ i' = tN m s then none else tR m s' i' k' := id rfl
theorem tN_mk (m : TS) (s z c n s' : Nat) : tN (mk m s z c n) s' = if s' = s then tN m s + 1 else tN m s' := id rfl
theorem tZ_mk (m : TS) (s z c n s' i' : Nat) : tZ (mk m s z c n) s' i' = if s' = s ∧ i' = tN m s then z else tZ m s' i' := id rfl
theorem tC_mk (m : TS) (s z c n s' i' : Nat) : tC (mk m s z c n) s' i' = if s' = s ∧ i' = tN m s then c else tC m s' i' := id rfl
theorem tc_mk (m : TS) (s z c n : Nat) : tc (mk m s z c n) = tc m + 1 := id rfl
theorem tz_mk (m : TS) (s z c n : Nat) : tz (mk m s z c n) = tz m + n := id rfl
theorem tR_rmL (m : TS) (s i k s' i' k' : Nat) : tR (rmL m s i k) s' i' k' = if s' = s ∧ i' = i then (if k' < k then tR m s i k' else tR m s i (k' + 1)) else tR m s' i' k' := id rfl
theorem tZ_rmL (m : TS) (s i k s' i' : Nat) : tZ (rmL m s i k) s' i' = if s' = s ∧ i' = i then tZ m s i - 1 else tZ m s' i' := id rfl
theorem tI_pushL (m : TS) (s i : Nat) (v : Option (Nat × Nat)) (s' i' k' : Nat) : tI (pushL m s i v) s' i' k' = tI m s' i' k' := by unfold pushL; split <;> rfl
theorem tL_pushL (m : TS) (s i : Nat) (v : Option (Nat × Nat)) (s' i' k' : Nat) : tL (pushL m s i v) s' i' k' = tL m s' i' k' := by unfold pushL; split <;> rfl
theorem tN_pushL (m : TS) (s i : Nat) (v : Option (Nat × Nat)) (s' : Nat) : tN (pushL m s i v) s' = tN m s' := by unfold pushL; split <;> rfl
theorem tR_pushL (m : TS) (s i : Nat) (v : Option (Nat × Nat)) (s' i' k' : Nat) : tR (pushL m s i v) s' i' k' = if s' = s ∧ i' = i ∧ k' = tZ m s i then v else tR m s' i' k' := by unfold pushL; split <;> rfl
theorem tZ_pushL (m : TS) (s i : Nat) (v : Option (Nat × Nat)) (s' i' : Nat) : tZ (pushL m s i v) s' i' = if s' = s ∧ i' = i then tZ m s i + 1 else tZ m s' i' := by unfold pushL; split <;> rfl
theorem tC_pushL (m : TS) (s i : Nat) (v : Option (Nat × Nat)) (s' i' : Nat) : tC (pushL m s i v) s' i' = if s' = s ∧ i' = i then (if tZ m s i < tC m s i then tC m s i else liC (tC m s i) (tZ m s i)) else tC m s' i' := by
  unfold pushL
  by_cases h : tZ m s i < tC m s i
  · rw [if_pos h, if_pos h]
    show tC m s' i' = _
    split
    · rename_i e; rw [e.1, e.2]
    · rfl
  · rw [if_neg h, if_neg h]; rfl
theorem tc_pushL (m : TS) (s i : Nat) (v : Option (Nat × Nat)) : tc (pushL m s i v) = tc m + (if tZ m s i < tC m s i then 0 else 1) := by unfold pushL; split <;> rfl
theorem tz_pushL (m : TS) (s i : Nat) (v : Option (Nat × Nat)) : tz (pushL m s i v) = tz m + (if tZ m s i < tC m s i then 0 else liC (tC m s i) (tZ m s i)) := by unfold pushL; split <;> rfl
theorem tL_pushB (m : TS) (s i : Nat) (v : Int32) (s' i' k' : Nat) : tL (pushB m s i v) s' i' k' = tL m s' i' k' := by unfold pushB; split <;> rfl
theorem tR_pushB (m : TS) (s i : Nat) (v : Int32) (s' i' k' : Nat) : tR (pushB m s i v) s' i' k' = tR m s' i' k' := by unfold pushB; split <;> rfl
theorem tN_pushB (m : TS) (s i : Nat) (v : Int32) (s' : Nat) : tN (pushB m s i v) s' = tN m s' := by unfold pushB; split <;> rfl
theorem tI_pushB (m : TS) (s i : Nat) (v : Int32) (s' i' k' : Nat) : tI (pushB m s i v) s' i' k' = if s' = s ∧ i' = i ∧ k' = tZ m s i then v else tI m s' i' k' := by unfold pushB; split <;> rfl
theorem tZ_pushB (m : TS) (s i : Nat) (v : Int32) (s' i' : Nat) : tZ (pushB m s i v) s' i' = if s' = s ∧ i' = i then tZ m s i + 1 else tZ m s' i' := by unfold pushB; split <;> rfl
theorem tC_pushB (m : TS) (s i : Nat) (v : Int32) (s' i' : Nat) : tC (pushB m s i v) s' i' = if s' = s ∧ i' = i then (if tZ m s i < tC m s i then tC m s i else 2 * tC m s i + 2) else tC m s' i' := by
  unfold pushB
  by_cases h : tZ m s i < tC m s i
  · rw [if_pos h, if_pos h]
    show tC m s' i' = _
    split
    · rename_i e; rw [e.1, e.2]
    · rfl
  · rw [if_neg h, if_neg h]; rfl
theorem tc_pushB (m : TS) (s i : Nat) (v : Int32) : tc (pushB m s i v) = tc m + (if tZ m s i < tC m s i then 0 else 1) := by unfold pushB; split <;> rfl
theorem tz_pushB (m : TS) (s i : Nat) (v : Int32) : tz (pushB m s i v) = tz m + (if tZ m s i < tC m s i then 0 else 2 * tC m s i + 2) := by unfold pushB; split <;> rfl
