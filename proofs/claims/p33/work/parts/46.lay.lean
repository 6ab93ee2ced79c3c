/-! ===== what a lay does to the lines ===== -/
def rsl (a : TS) (c n : Nat) : Nat := match tR (slot a c n) 9 c n with | some q => q.2 | none => 0
theorem n910 {p : Prop} : ¬ ((9 : Nat) = 10 ∧ p) := fun q => absurd q.1 (by decide)
theorem slot_old {a : TS} {c n : Nat} (h : n < tZ a 9 c) : slot a c n = a := by unfold slot; rw [if_pos h]
theorem slot_new {a : TS} {c n : Nat} (h : ¬ n < tZ a 9 c) : slot a c n = pushL (cpL (mk a 10 0 0 15) 10 (tN a 10) (iniM 0 (-1)) [2, 3, 4, 5, 6, 7, 8, 9, 10, 11, 12, 13, 14, 0, 1]) 9 c (some (10, tN a 10)) := by unfold slot; rw [if_neg h]
theorem slot_tI (a : TS) (c n : Nat) {s i : Nat} (h : ¬ (s = 10 ∧ i = tN a 10)) (k : Nat) : tI (slot a c n) s i k = tI a s i k := by
  by_cases e : n < tZ a 9 c
  · rw [slot_old e]
  · rw [slot_new e, tI_pushL, tI_cpL, if_neg (fun q => h ⟨q.1, q.2.1⟩), tI_mk, if_neg h]
theorem slot_tL (a : TS) (c n : Nat) {s : Nat} (h : s ≠ 10) (i k : Nat) : tL (slot a c n) s i k = tL a s i k := by
  by_cases e : n < tZ a 9 c
  · rw [slot_old e]
  · rw [slot_new e, tL_pushL, tL_cpL, tL_mk, if_neg (fun q => h q.1)]
theorem slot_tN (a : TS) (c n s : Nat) : tN (slot a c n) s = if s = 10 ∧ ¬ n < tZ a 9 c then tN a 10 + 1 else tN a s := by
  by_cases e : n < tZ a 9 c
  · rw [slot_old e, if_neg (fun q => q.2 e)]
  · rw [slot_new e, tN_pushL, tN_cpL, tN_mk]
    by_cases h : s = 10
    · rw [if_pos h, if_pos ⟨h, e⟩]
    · rw [if_neg h, if_neg (fun q => h q.1)]
theorem slot_tR (a : TS) (c n : Nat) {s i k : Nat} (h : s ≠ 10) (h2 : ¬ (s = 9 ∧ i = c ∧ k = tZ a 9 c)) : tR (slot a c n) s i k = tR a s i k := by
  by_cases e : n < tZ a 9 c
  · rw [slot_old e]
  · rw [slot_new e, tR_pushL, tZ_cpL, tZ_mk, if_neg n910, if_neg h2, tR_cpL, tR_mk, if_neg (fun q => h q.1)]
theorem slot_tZ (a : TS) (c n s i : Nat) (h : s ≠ 10) : tZ (slot a c n) s i = if s = 9 ∧ i = c ∧ ¬ n < tZ a 9 c then tZ a 9 c + 1 else tZ a s i := by
  by_cases e : n < tZ a 9 c
  · rw [slot_old e, if_neg (fun q => q.2.2 e)]
  · rw [slot_new e, tZ_pushL, tZ_cpL, tZ_mk, tZ_cpL, tZ_mk, if_neg n910, if_neg (c := s = 10 ∧ i = tN a 10) (fun q => h q.1)]
    by_cases h2 : s = 9 ∧ i = c
    · rw [if_pos h2, if_pos ⟨h2.1, h2.2, e⟩]
    · rw [if_neg h2, if_neg (fun q => h2 ⟨q.1, q.2.1⟩)]
theorem slot_at {a : TS} {c n : Nat} (hL : LO a) (hc : c < tN a 9) (hn : n ≤ tZ a 9 c) : tR (slot a c n) 9 c n = some (10, rsl a c n) ∧ rsl a c n < tN (slot a c n) 10 ∧ (n < tZ a 9 c → rsl a c n < tN a 10 ∧ tR a 9 c n = some (10, rsl a c n)) ∧ (¬ n < tZ a 9 c → rsl a c n = tN a 10) := by
  by_cases e : n < tZ a 9 c
  · obtain ⟨r, r1, r2⟩ := hL.1 c hc n e
    have e1 : rsl a c n = r := by
      unfold rsl
      rw [slot_old e, r2]
    rw [slot_old e, e1]
    exact ⟨r2, r1, fun _ => ⟨r1, r2⟩, fun q => absurd e q⟩
  · have hz : n = tZ a 9 c := by omega
    have e0 : tR (slot a c n) 9 c n = some (10, tN a 10) := by
      rw [slot_new e, tR_pushL, tZ_cpL, tZ_mk, if_neg n910, if_pos ⟨rfl, rfl, hz⟩]
    have e1 : rsl a c n = tN a 10 := by
      unfold rsl
      rw [e0]
    rw [e1]
    exact ⟨e0, by rw [slot_tN, if_pos ⟨rfl, e⟩]; omega, fun q => absurd q e, fun _ => rfl⟩
theorem lay_eq (a : TS) (sl j c n s i : Nat) (late : Int32) : lay a sl j c n s i late = sI (sI (cpL (slot a c n) 10 (rsl a c n) (tI (slot a c n) s i) [0, 1, 2, 3, 4, 5, 6, 7, 8, 9, 10, 11, 14]) 10 (rsl a c n) 12 (tI a 25 0 0 + tI a 25 0 2 + late)) sl j 3 (Int32.ofNat (n + 1)) := rfl
theorem mem13 {k : Nat} : k ∈ [0, 1, 2, 3, 4, 5, 6, 7, 8, 9, 10, 11, 14] ↔ k < 12 ∨ k = 14 := by
  simp only [List.mem_cons, List.not_mem_nil, or_false]
  omega
/-- the slot of a place behind others is another slot -/
theorem rsl_ne {a : TS} {c n c' k : Nat} (hL : LO a) (hc : c < tN a 9) (hn : n ≤ tZ a 9 c) (hc' : c' < tN a 9) (hk : k < tZ a 9 c') (h : ¬ (c' = c ∧ k = n)) : ∃ r', r' < tN a 10 ∧ tR a 9 c' k = some (10, r') ∧ r' ≠ rsl a c n := by
  obtain ⟨r', r1, r2⟩ := hL.1 c' hc' k hk
  refine ⟨r', r1, r2, fun q => ?_⟩
  obtain ⟨-, -, s3, s4⟩ := slot_at hL hc hn
  by_cases e : n < tZ a 9 c
  · obtain ⟨t1, t2⟩ := s3 e
    have := hL.2.1 c' c k n hc' hc hk e (by rw [r2, t2, q])
    exact h this
  · have := s4 e
    omega
theorem lay_chg (a : TS) (sl j c n s i : Nat) (late : Int32) : chg [9, 10, sl] a (lay a sl j c n s i late) := by
  rw [lay_eq]
  have h : chg [9, 10, sl] a (slot a c n) := by
    unfold slot
    split
    · exact chg_r _ _
    · exact chg_pushL (by simp) (chg_cpL (by simp) (chg_mk (by simp) (chg_r _ _)))
  exact chg_sI (by simp) (chg_sI (by simp) (chg_cpL (by simp) h))
theorem lay_tI {a : TS} {sl j c n s i : Nat} {late : Int32} {s' i' k : Nat} (h1 : ¬ (s' = sl ∧ i' = j ∧ k = 3)) (h2 : ¬ (s' = 10 ∧ i' = rsl a c n)) (h3 : ¬ (s' = 10 ∧ i' = tN a 10)) : tI (lay a sl j c n s i late) s' i' k = tI a s' i' k := by
  rw [lay_eq, tI_sI, if_neg h1, tI_sI, if_neg (fun q => h2 ⟨q.1, q.2.1⟩), tI_cpL, if_neg (fun q => h2 ⟨q.1, q.2.1⟩), slot_tI _ _ _ h3]
theorem lay_cnt (a : TS) (sl j c n s i : Nat) (late : Int32) : tI (lay a sl j c n s i late) sl j 3 = Int32.ofNat (n + 1) := by
  rw [lay_eq, tI_sI, if_pos ⟨rfl, rfl, rfl⟩]
theorem lay_tR {a : TS} {sl j c n s i : Nat} {late : Int32} {s' i' k : Nat} (h : s' ≠ 10) (h2 : ¬ (s' = 9 ∧ i' = c ∧ k = tZ a 9 c)) : tR (lay a sl j c n s i late) s' i' k = tR a s' i' k := by
  rw [lay_eq, tR_sI, tR_sI, tR_cpL, slot_tR _ _ _ h h2]
theorem lay_tN (a : TS) (sl j c n s i : Nat) (late : Int32) (s' : Nat) : tN (lay a sl j c n s i late) s' = if s' = 10 ∧ ¬ n < tZ a 9 c then tN a 10 + 1 else tN a s' := by
  rw [lay_eq, tN_sI, tN_sI, tN_cpL, slot_tN]
theorem lay_tZ (a : TS) (sl j c n s i : Nat) (late : Int32) {s' : Nat} (i' : Nat) (h : s' ≠ 10) : tZ (lay a sl j c n s i late) s' i' = if s' = 9 ∧ i' = c ∧ ¬ n < tZ a 9 c then tZ a 9 c + 1 else tZ a s' i' := by
  rw [lay_eq, tZ_sI, tZ_sI, tZ_cpL, slot_tZ _ _ _ _ _ h]
theorem lay_tC (a : TS) (sl j c n s i : Nat) (late : Int32) {s' : Nat} (i' : Nat) (h : s' ≠ 10) : tC (lay a sl j c n s i late) s' i' = if s' = 9 ∧ i' = c ∧ ¬ n < tZ a 9 c then (if tZ a 9 c < tC a 9 c then tC a 9 c else liC (tC a 9 c) (tZ a 9 c)) else tC a s' i' := by
  rw [lay_eq, tC_sI, tC_sI, tC_cpL]
  by_cases e : n < tZ a 9 c
  · rw [slot_old e, if_neg (fun q => q.2.2 e)]
  · rw [slot_new e, tC_pushL, tZ_cpL, tZ_mk, tC_cpL, tC_mk, tC_cpL, tC_mk]
    rw [if_neg n910, if_neg n910, if_neg (c := s' = 10 ∧ i' = tN a 10) (fun q => h q.1)]
    by_cases h2 : s' = 9 ∧ i' = c
    · rw [if_pos (c := s' = 9 ∧ i' = c) h2, if_pos (c := s' = 9 ∧ i' = c ∧ ¬ n < tZ a 9 c) ⟨h2.1, h2.2, e⟩]
    · rw [if_neg (c := s' = 9 ∧ i' = c) h2, if_neg (c := s' = 9 ∧ i' = c ∧ ¬ n < tZ a 9 c) (fun q => h2 ⟨q.1, q.2.1⟩)]
theorem liC_le {c n : Nat} (h : n ≤ c) (h2 : ¬ n < c) (h3 : n < 30000) (h4 : c = 0 ∨ 10 ≤ c) : n + 1 ≤ liC c n ∧ liC c n < 50000 ∧ (liC c n = 0 ∨ 10 ≤ liC c n) := by
  unfold liC
  rw [if_neg h2]
  split <;> omega
theorem lay_LO {a : TS} {sl j c n s i : Nat} {late : Int32} (hL : LO a) (hc : c < tN a 9) (hn : n ≤ tZ a 9 c) (hz : tZ a 9 c < 29999) : LO (lay a sl j c n s i late) := by
  have hL0 := hL
  obtain ⟨l1, l2, l3⟩ := hL
  have h9 : tN (lay a sl j c n s i late) 9 = tN a 9 := by rw [lay_tN, if_neg (fun q => absurd q.1 (by decide))]
  have h10 : tN a 10 ≤ tN (lay a sl j c n s i late) 10 := by rw [lay_tN]; split <;> omega
  have old : ∀ c', c' < tN a 9 → ∀ k, k < tZ a 9 c' → tR (lay a sl j c n s i late) 9 c' k = tR a 9 c' k := fun c' hc' k hk => lay_tR (by decide) (fun q => by rw [q.2.1, q.2.2] at hk; exact Nat.lt_irrefl _ hk)
  have new : ¬ n < tZ a 9 c → tR (lay a sl j c n s i late) 9 c (tZ a 9 c) = some (10, tN a 10) := fun e => by
    have hz : n = tZ a 9 c := by omega
    obtain ⟨s1, -, -, s4⟩ := slot_at hL0 hc hn
    rw [lay_eq, tR_sI, tR_sI, tR_cpL, ← hz, s1, s4 e]
  have cs : ∀ c', c' < tN a 9 → ∀ k, k < tZ (lay a sl j c n s i late) 9 c' → k < tZ a 9 c' ∨ (¬ n < tZ a 9 c ∧ c' = c ∧ k = tZ a 9 c) := fun c' hc' k hk => by
    rw [lay_tZ _ _ _ _ _ _ _ _ _ (by decide)] at hk
    by_cases e : c' = c ∧ ¬ n < tZ a 9 c
    · rw [if_pos ⟨rfl, e.1, e.2⟩] at hk
      obtain ⟨e1, e2⟩ := e
      subst e1
      by_cases hk2 : k < tZ a 9 c'
      · exact Or.inl hk2
      · exact Or.inr ⟨e2, rfl, by omega⟩
    · rw [if_neg (fun q => e ⟨q.2.1, q.2.2⟩)] at hk
      exact Or.inl hk
  refine ⟨fun c' hc' k hk => ?_, fun c1 c2 k1 k2 hc1 hc2 hk1 hk2 he => ?_, fun c' hc' => ?_⟩
  · rw [h9] at hc'
    rcases cs c' hc' k hk with hk | ⟨e, rfl, rfl⟩
    · obtain ⟨r, r1, r2⟩ := l1 c' hc' k hk
      exact ⟨r, by omega, by rw [old c' hc' k hk]; exact r2⟩
    · exact ⟨tN a 10, by rw [lay_tN, if_pos ⟨rfl, e⟩]; omega, new e⟩
  · rw [h9] at hc1 hc2
    rcases cs c1 hc1 k1 hk1 with ha1 | ⟨e, e1, e2⟩
    · rcases cs c2 hc2 k2 hk2 with ha2 | ⟨e, e1, e2⟩
      · rw [old c1 hc1 k1 ha1, old c2 hc2 k2 ha2] at he
        exact l2 c1 c2 k1 k2 hc1 hc2 ha1 ha2 he
      · rw [old c1 hc1 k1 ha1, e1, e2, new e] at he
        obtain ⟨r, r1, r2⟩ := l1 c1 hc1 k1 ha1
        rw [r2] at he
        have := (Prod.mk.inj (Option.some.inj he)).2
        omega
    · rcases cs c2 hc2 k2 hk2 with ha2 | ⟨e', e1', e2'⟩
      · rw [old c2 hc2 k2 ha2, e1, e2, new e] at he
        obtain ⟨r, r1, r2⟩ := l1 c2 hc2 k2 ha2
        rw [r2] at he
        have := (Prod.mk.inj (Option.some.inj he)).2
        omega
      · exact ⟨e1.trans e1'.symm, e2.trans e2'.symm⟩
  · rw [h9] at hc'
    obtain ⟨m1, m2, m3⟩ := l3 c' hc'
    rw [lay_tZ _ _ _ _ _ _ _ _ _ (by decide), lay_tC _ _ _ _ _ _ _ _ _ (by decide)]
    by_cases e : c' = c ∧ ¬ n < tZ a 9 c
    · rw [if_pos ⟨rfl, e.1, e.2⟩, if_pos ⟨rfl, e.1, e.2⟩]
      obtain ⟨e1, e2⟩ := e
      subst e1
      split
      · omega
      · rename_i e3
        exact liC_le m1 e3 (by omega) m3
    · rw [if_neg (fun q => e ⟨q.2.1, q.2.2⟩), if_neg (fun q => e ⟨q.2.1, q.2.2⟩)]
      exact ⟨m1, m2, m3⟩
theorem lay_LnP {a : TS} {sl j c n s i sl' j' c' f' : Nat} {late : Int32} (h : isO 1 5 sl) (hP : LnP a sl' j' c' f') : LnP (lay a sl j c n s i late) sl' j' c' f' := by
  obtain ⟨p1, p2, p3, p4, p5, p6, p7, p8, p9⟩ := hP
  have e1 : ¬ sl' = 10 := isO_ne p1 (by decide +kernel)
  have e9 : ¬ sl' = 9 := isO_ne p1 (by decide +kernel)
  refine ⟨p1, ?_, ?_, ?_, ?_, ?_, ?_, ?_, ?_⟩
  · rw [lay_tN, if_neg (fun q => e1 q.1)]; exact p2
  · rw [lay_tR e1 (fun q => e9 q.1)]; exact p3
  · rw [lay_tN, if_neg (fun q => absurd q.1 (by decide))]; exact p4
  · rw [lay_tR e1 (fun q => e9 q.1)]; exact p5
  · rw [lay_tN, if_neg (fun q => absurd q.1 (by decide))]; exact p6
  · rw [lay_tZ _ _ _ _ _ _ _ _ _ (by decide), if_neg (fun q => absurd q.1 (by decide))]; exact p7
  · rw [lay_tR e1 (fun q => e9 q.1)]; exact p8
  · rw [lay_tN, if_neg (fun q => absurd q.1 (by decide))]; exact p9
/-- the fields of another slot -/
theorem lay_slot {a : TS} {sl j c n s i : Nat} {late : Int32} (hs : isO 1 5 sl) (hL : LO a) (hc : c < tN a 9) (hn : n ≤ tZ a 9 c) {c' k : Nat} (hc' : c' < tN a 9) (hk : k < tZ a 9 c') (h : ¬ (c' = c ∧ k = n)) : tR (lay a sl j c n s i late) 9 c' k = tR a 9 c' k ∧ ∃ r', r' < tN a 10 ∧ tR a 9 c' k = some (10, r') ∧ ∀ f, tI (lay a sl j c n s i late) 10 r' f = tI a 10 r' f := by
  have e1 : ¬ sl = 10 := isO_ne hs (by decide +kernel)
  obtain ⟨r', r1, r2, r3⟩ := rsl_ne hL hc hn hc' hk h
  refine ⟨lay_tR (by decide) (fun q => by rw [q.2.1, q.2.2] at hk; exact Nat.lt_irrefl _ hk), r', r1, r2, fun f => ?_⟩
  exact lay_tI (fun q => e1 q.1.symm) (fun q => r3 q.2) (fun q => by omega)
theorem eC_congr {a a' : TS} {r : Nat} (h : ∀ f, tI a' 10 r f = tI a 10 r f) : eC a' (some (10, r)) = eC a (some (10, r)) := by
  unfold eC mv
  dsimp only
  rw [h 12]
  congr 1
  funext f
  rw [h f]
theorem lay_vL_other {a : TS} {sl j c n s i : Nat} {late : Int32} (hs : isO 1 5 sl) (hL : LO a) (hc : c < tN a 9) (hn : n ≤ tZ a 9 c) {c' k : Nat} (hc' : c' < tN a 9) (hk : k ≤ tZ a 9 c') (h : c' ≠ c) : vL (lay a sl j c n s i late) c' k = vL a c' k := by
  unfold vL
  refine List.map_congr_left (fun x hx => ?_)
  have hx := List.mem_range.mp hx
  obtain ⟨h1, r', -, h2, h3⟩ := lay_slot (j := j) (s := s) (i := i) (late := late) hs hL hc hn hc' (k := x) (by omega) (fun q => h q.1)
  rw [h1, h2]
  exact eC_congr h3
theorem lay_vL {a : TS} {sl j c n s i : Nat} {late : Int32} (hs : isO 1 5 sl) (hL : LO a) (hc : c < tN a 9) (hn : n ≤ tZ a 9 c) (hi : i < tN a s) : vL (lay a sl j c n s i late) c (n + 1) = vL a c n ++ [(tI a 25 0 0 + tI a 25 0 2 + late, mv a s i)] := by
  have e1 : ¬ sl = 10 := isO_ne hs (by decide +kernel)
  unfold vL
  rw [List.range_succ, List.map_append]
  congr 1
  · refine List.map_congr_left (fun x hx => ?_)
    have hx := List.mem_range.mp hx
    obtain ⟨h1, r', -, h2, h3⟩ := lay_slot (j := j) (s := s) (i := i) (late := late) hs hL hc hn hc (k := x) (by omega) (fun q => by omega)
    rw [h1, h2]
    exact eC_congr h3
  · show [eC _ _] = [_]
    obtain ⟨s1, s2, s3, s4⟩ := slot_at hL hc hn
    have hr : tR (lay a sl j c n s i late) 9 c n = some (10, rsl a c n) := by
      rw [lay_eq, tR_sI, tR_sI, tR_cpL, s1]
    rw [hr]
    congr 1
    unfold eC
    dsimp only
    refine Prod.ext ?_ ?_
    · show tI (lay a sl j c n s i late) 10 (rsl a c n) 12 = _
      rw [lay_eq, tI_sI, if_neg (fun q => e1 q.1.symm), tI_sI, if_pos ⟨rfl, rfl, rfl⟩]
    · funext f
      show (if (f < 12 ∧ f ≠ 3) ∨ f = 14 then tI (lay a sl j c n s i late) 10 (rsl a c n) f else 0) = (if (f < 12 ∧ f ≠ 3) ∨ f = 14 then tI a s i f else 0)
      by_cases hf : (f < 12 ∧ f ≠ 3) ∨ f = 14
      · rw [if_pos hf, if_pos hf, lay_eq, tI_sI, if_neg (fun q => e1 q.1.symm), tI_sI, if_neg (fun q => by omega), tI_cpL, if_pos ⟨rfl, rfl, mem13.mpr (by omega)⟩, slot_tI]
        intro q
        rw [q.1, q.2] at hi
        exact Nat.lt_irrefl _ hi
      · rw [if_neg hf, if_neg hf]
theorem lay_stp {a : TS} {sl j c n s i : Nat} {late : Int32} (hL : LO a) (hc : c < tN a 9) : Wr a (lay a sl j c n s i late) := by
  rw [lay_eq]
  have h : Wr a (slot a c n) := by
    unfold slot
    split
    · exact Wr.rf _
    · refine Wr.cP _ _ _ (by decide +kernel) (by decide) ?_ ?_ (Wr.cpL (Wr.cM _ _ _ (by decide +kernel) (by decide) (Wr.rf _)) _ _ _ _)
      · rw [tN_cpL, tN_mk, if_neg (by decide)]; exact hc
      · rw [tZ_cpL, tZ_mk, tC_cpL, tC_mk, if_neg n910, if_neg n910]
        exact (hL.2.2 c hc).1
  exact ((h.cpL _ _ _ _).cI _ _ _ _).cI _ _ _ _
