/-! ===== a shop comes: all that is known of the cells ===== -/
def SgA (a a' : TS) (n : Nat) (p0 p1 : Int32) : Prop :=
  chF [8, 9, 18, 19, 20, 21, 22, 27, 36] [] a a' ∧ Wr a a' ∧ (∀ s, tN a' s = if s = 8 ∨ s = 9 then tN a s + 2 else if s = 36 ∨ s = 18 ∨ s = 19 ∨ s = 20 ∨ s = 21 ∨ s = 22 then tN a s + 1 else tN a s) ∧
  (∀ s i, ¬ shNew n s i → s ≠ 27 → (∀ k, tI a' s i k = tI a s i k) ∧ (∀ k, tR a' s i k = tR a s i k) ∧ tZ a' s i = tZ a s i ∧ tC a' s i = tC a s i ∧ (s ≠ 8 → s ≠ 9 → ∀ k, tL a' s i k = tL a s i k)) ∧
  (tZ a' 27 0 = tZ a 27 0 + 1 ∧ (∀ k, tR a' 27 0 k = if k = tZ a 27 0 then some (36, n) else tR a 27 0 k) ∧ tC a' 27 0 = if tZ a 27 0 < tC a 27 0 then tC a 27 0 else liC (tC a 27 0) (tZ a 27 0)) ∧
    (tI a' 36 n 0 = Int32.ofNat n ∧ tI a' 36 n 1 = p0 ∧ tI a' 36 n 2 = p1 ∧ tI a' 36 n 9 = 0 ∧ tI a' 36 n 10 = 0) ∧ (tL a' 36 n 11 = 0 ∧ tL a' 36 n 12 = 0) ∧
    (tR a' 36 n 3 = some (25, 0) ∧ tR a' 36 n 4 = some (21, n) ∧ tR a' 36 n 5 = some (22, n) ∧ tR a' 36 n 6 = some (18, n) ∧ tR a' 36 n 7 = some (19, n) ∧ tR a' 36 n 8 = some (20, n)) ∧
    (tZ a' 18 n = 0 ∧ tC a' 18 n = 0 ∧ tZ a' 19 n = 0 ∧ tC a' 19 n = 0 ∧ tZ a' 20 n = 100 ∧ ∀ k, tI a' 20 n k = 0) ∧
    (tR a' 21 n 0 = some (25, 0) ∧ tR a' 21 n 1 = some (8, 2 * n) ∧ tR a' 21 n 2 = some (9, 2 * n) ∧ tI a' 21 n 3 = 0) ∧
    (tR a' 22 n 0 = some (25, 0) ∧ tR a' 22 n 1 = some (8, 2 * n + 1) ∧ tR a' 22 n 2 = some (9, 2 * n + 1) ∧ tI a' 22 n 3 = 0) ∧
    ((∀ k, tI a' 8 (2 * n) k = 0 ∧ tI a' 8 (2 * n + 1) k = 0) ∧ tZ a' 8 (2 * n) = 3 ∧ tZ a' 8 (2 * n + 1) = 3 ∧ tZ a' 9 (2 * n) = 0 ∧ tZ a' 9 (2 * n + 1) = 0 ∧ tC a' 9 (2 * n) = 0 ∧ tC a' 9 (2 * n + 1) = 0)
theorem shA_all {a : TS} {n : Nat} (p0 p1 : Int32) (h27 : 0 < tN a 27) (hz : tZ a 27 0 ≤ tC a 27 0) (hN : ShN a n) : SgA a (shA a n p0 p1) n p0 p1 := by
  obtain ⟨c, w⟩ := shA_eq p0 p1 h27 hz hN
  have aN := shA_N a n p0 p1
  have ho := shJ_old hN p0 p1
  obtain ⟨h1, h2, h3, h4, h5, h6, h7⟩ := shJ_new hN p0 p1
  obtain ⟨-, o1, o2, o3, -⟩ := ho 27 0 (fun q => by rcases q with ⟨q, -⟩ | ⟨q, -⟩ <;> omega)
  have eI : ∀ s i k, tI (shA a n p0 p1) s i k = tI (shJ a n p0 p1) s i k := fun s i k => by unfold shA; rw [tI_pushL]
  have eL : ∀ s i k, tL (shA a n p0 p1) s i k = tL (shJ a n p0 p1) s i k := fun s i k => by unfold shA; rw [tL_pushL]
  have eR : ∀ s i k, s ≠ 27 → tR (shA a n p0 p1) s i k = tR (shJ a n p0 p1) s i k := fun s i k hs => by unfold shA; rw [tR_pushL, if_neg (fun q => hs q.1)]
  have eZ : ∀ s i, s ≠ 27 → tZ (shA a n p0 p1) s i = tZ (shJ a n p0 p1) s i := fun s i hs => by unfold shA; rw [tZ_pushL, if_neg (fun q => hs q.1)]
  have eC : ∀ s i, s ≠ 27 → tC (shA a n p0 p1) s i = tC (shJ a n p0 p1) s i := fun s i hs => by unfold shA; rw [tC_pushL, if_neg (fun q => hs q.1)]
  have z27 : tZ (shA a n p0 p1) 27 0 = tZ a 27 0 + 1 := by unfold shA; rw [tZ_pushL, if_pos ⟨rfl, rfl⟩, o2]
  have r27 : ∀ k, tR (shA a n p0 p1) 27 0 k = if k = tZ a 27 0 then some (36, n) else tR a 27 0 k := fun k => by
    unfold shA
    rw [tR_pushL, o2]
    by_cases e : k = tZ a 27 0
    · rw [if_pos ⟨rfl, rfl, e⟩, if_pos e]
    · rw [if_neg (fun q => e q.2.2), if_neg e, o1]
  have c27 : tC (shA a n p0 p1) 27 0 = if tZ a 27 0 < tC a 27 0 then tC a 27 0 else liC (tC a 27 0) (tZ a 27 0) := by unfold shA; rw [tC_pushL, if_pos ⟨rfl, rfl⟩, o2, o3]
  generalize shA a n p0 p1 = a' at *
  generalize shJ a n p0 p1 = J at *
  refine ⟨c, w, aN, fun s i hn h27 => ?_, ⟨z27, r27, c27⟩, ?_, ?_, ?_, ?_, ?_, ?_, ?_⟩
  · obtain ⟨q1, q2, q3, q4, q5⟩ := ho s i hn
    exact ⟨fun k => (eI s i k).trans (q1 k), fun k => (eR s i k h27).trans (q2 k), (eZ s i h27).trans q3, (eC s i h27).trans q4, fun h8 h9 k => (eL s i k).trans (q5 h8 h9 k)⟩
  · simp only [eI]; exact h1
  · simp only [eL]; exact h2
  · simp only [eR 36 _ _ (by decide)]; exact h3
  · simp only [eZ 18 _ (by decide), eC 18 _ (by decide), eZ 19 _ (by decide), eC 19 _ (by decide), eZ 20 _ (by decide), eI]; exact h4
  · simp only [eR 21 _ _ (by decide), eI]; exact h5
  · simp only [eR 22 _ _ (by decide), eI]; exact h6
  · simp only [eI, eZ 8 _ (by decide), eZ 9 _ (by decide), eC 9 _ (by decide)]; exact h7
def shB (b : TS) (n : Nat) (p0 p1 : Int32) : TS := sI (shB1 (shB0 b n p0 p1) n (tN b 49) (tN b 50)) 91 0 6 (Int32.ofNat (n + 1))
def SgB (b b' : TS) (n d e : Nat) (p0 p1 : Int32) : Prop :=
  chF [48, 49, 50, 65, 74, 75, 88, 89] [(93, 10), (93, 7), (95, 9), (91, 6)] b b' ∧ Wr b b' ∧ (∀ s, tN b' s = if s = 48 ∨ s = 49 ∨ s = 50 then tN b s + 2 else if s = 74 ∨ s = 75 then tN b s + 1 else tN b s) ∧
  (∀ s i, ¬ cbNew n d e s i → (∀ k, s ≠ 88 → s ≠ 89 → s ≠ 91 → s ≠ 93 → s ≠ 95 → tI b' s i k = tI b s i k) ∧ (∀ k, ¬ (s = 65 ∧ i = 0 ∧ (k = 2 * n ∨ k = 2 * n + 1)) → tR b' s i k = tR b s i k) ∧ tZ b' s i = tZ b s i) ∧
  ((∀ k, tI b' 88 0 k = if k = n then p0 else tI b 88 0 k) ∧ (∀ k, tI b' 89 0 k = if k = n then p1 else tI b 89 0 k) ∧ tI b' 91 0 6 = Int32.ofNat (n + 1) ∧ tI b' 93 0 7 = Int32.ofNat (n + 1) ∧ tI b' 93 0 10 = 0) ∧
    (tR b' 65 0 (2 * n) = some (74, n) ∧ tR b' 65 0 (2 * n + 1) = some (75, n) ∧ tI b' 95 0 9 = Int32.ofNat (n + 1)) ∧
    (tR b' 74 n 0 = some (48, 2 * n) ∧ tR b' 74 n 2 = some (49, d) ∧ tR b' 74 n 3 = some (50, e) ∧ tI b' 74 n 1 = 0) ∧
    (tR b' 75 n 0 = some (48, 2 * n + 1) ∧ tR b' 75 n 2 = some (49, d + 1) ∧ tR b' 75 n 3 = some (50, e + 1) ∧ tI b' 75 n 1 = 0) ∧
    ((∀ k, tI b' 48 (2 * n) k = 0 ∧ tI b' 48 (2 * n + 1) k = 0) ∧ tZ b' 48 (2 * n) = 3 ∧ tZ b' 48 (2 * n + 1) = 3 ∧ tZ b' 49 d = 32 ∧ tZ b' 49 (d + 1) = 32 ∧ tZ b' 50 e = 32 ∧ tZ b' 50 (e + 1) = 32)
theorem shB0_eq (b : TS) (n : Nat) (p0 p1 : Int32) : chF [88, 89] [(93, 10), (93, 7)] b (shB0 b n p0 p1) ∧ Wr b (shB0 b n p0 p1) := by
  unfold shB0
  exact ⟨chF_I (by simp) (chF_I (by simp) (chF_I (by simp) (chF_I (by simp) (chF_r _ _ _)))), ((((Wr.rf _).cI _ _ _ _).cI _ _ _ _).cI _ _ _ _).cI _ _ _ _⟩
theorem shB_all {b : TS} {n : Nat} (p0 p1 : Int32) (hN : CbN b n (tN b 49) (tN b 50)) : SgB b (shB b n p0 p1) n (tN b 49) (tN b 50) p0 p1 := by
  obtain ⟨c0, w0⟩ := shB0_eq b n p0 p1
  have n0 : ∀ s, tN (shB0 b n p0 p1) s = tN b s := fun s => by
    unfold shB0
    simp only [tN_sI]
  have hN0 : CbN (shB0 b n p0 p1) n (tN b 49) (tN b 50) := by
    obtain ⟨q1, q2, q3, -, -⟩ := hN
    exact ⟨(n0 _).trans q1, (n0 _).trans q2, (n0 _).trans q3, n0 _, n0 _⟩
  have k0 : (∀ k, tI (shB0 b n p0 p1) 88 0 k = if k = n then p0 else tI b 88 0 k) ∧ (∀ k, tI (shB0 b n p0 p1) 89 0 k = if k = n then p1 else tI b 89 0 k) ∧ tI (shB0 b n p0 p1) 93 0 7 = Int32.ofNat (n + 1) ∧ tI (shB0 b n p0 p1) 93 0 10 = 0 := by
    unfold shB0
    refine ⟨fun k => ?_, fun k => ?_, ?_, ?_⟩
    · simp (config := {decide := true}) only [tI_sI, true_and, false_and, if_false]
    · simp (config := {decide := true}) only [tI_sI, true_and, false_and, if_false]
    · simp (config := {decide := true}) only [tI_sI, and_self, if_true]
    · simp (config := {decide := true}) only [tI_sI, true_and, false_and, and_false, and_self, if_true, if_false]
  have kI : ∀ s i k, s ≠ 88 → s ≠ 89 → s ≠ 93 → tI (shB0 b n p0 p1) s i k = tI b s i k := fun s i k h1 h2 h3 => (c0 s (by simp; omega)).1 i k (by simp; omega)
  have kR : ∀ s i k, tR (shB0 b n p0 p1) s i k = tR b s i k := fun s i k => by
    unfold shB0
    simp only [tR_sI]
  have kZ : ∀ s i, tZ (shB0 b n p0 p1) s i = tZ b s i := fun s i => by
    unfold shB0
    simp only [tZ_sI]
  obtain ⟨c1, w1⟩ := shB1_eq (shB0 b n p0 p1) n (tN b 49) (tN b 50)
  have n1 := shB1_N (shB0 b n p0 p1) n (tN b 49) (tN b 50)
  have o1 := shB1_old hN0
  obtain ⟨h1, h2, h3, h4⟩ := shB1_new hN0
  unfold shB
  generalize shB0 b n p0 p1 = B at *
  generalize shB1 B n (tN b 49) (tN b 50) = M at *
  have fI : ∀ s i k, s ≠ 91 → tI (sI M 91 0 6 (Int32.ofNat (n + 1))) s i k = tI M s i k := fun s i k hs => by rw [tI_sI, if_neg (fun q => hs q.1)]
  have m88 : ∀ k, tI M 88 0 k = tI B 88 0 k := fun k => (o1 88 0 (fun q => by unfold cbNew at q; omega)).1 k (fun q => absurd q.1 (by decide))
  have m89 : ∀ k, tI M 89 0 k = tI B 89 0 k := fun k => (o1 89 0 (fun q => by unfold cbNew at q; omega)).1 k (fun q => absurd q.1 (by decide))
  have m93 : ∀ k, tI M 93 0 k = tI B 93 0 k := fun k => (o1 93 0 (fun q => by unfold cbNew at q; omega)).1 k (fun q => absurd q.1 (by decide))
  refine ⟨chF_I (by simp) (chF_t (chF_m c0 (by simp) (by simp)) (chF_m c1 (by simp) (by simp))), (w0.t w1).cI _ _ _ _, fun s => ?_, fun s i hn => ⟨fun k q1 q2 q3 q4 q5 => ?_, fun k hk => ?_, ?_⟩, ⟨fun k => ?_, fun k => ?_, ?_, ?_, ?_⟩, ?_, ?_, ?_, ?_⟩
  · rw [tN_sI, n1, n0]
  · rw [fI _ _ _ q3, (o1 s i hn).1 k (fun q => q5 q.1), kI _ _ _ q1 q2 q4]
  · rw [tR_sI, (o1 s i hn).2.1 k hk, kR]
  · rw [tZ_sI, (o1 s i hn).2.2, kZ]
  · rw [fI _ _ _ (by decide), m88, k0.1]
  · rw [fI _ _ _ (by decide), m89, k0.2.1]
  · rw [tI_sI, if_pos ⟨rfl, rfl, rfl⟩]
  · rw [fI _ _ _ (by decide), m93, k0.2.2.1]
  · rw [fI _ _ _ (by decide), m93, k0.2.2.2]
  · simp only [tR_sI, fI 95 _ _ (by decide)]; exact h1
  · simp only [tR_sI, fI 74 _ _ (by decide)]; exact h2
  · simp only [tR_sI, fI 75 _ _ (by decide)]; exact h3
  · simp only [tZ_sI, fI 48 _ _ (by decide)]; exact h4
