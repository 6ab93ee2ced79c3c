/-! ===== a shop comes: the reference's cells, read ===== -/
theorem cbD_old (m : TS) (cb j f d e s i : Nat) (h1 : ¬ (s = cb ∧ i = j)) (h2 : s = 48 → i ≠ tN m 48) (h3 : s = 49 → i ≠ tN m 49) (h4 : s = 50 → i ≠ tN m 50) :
    (∀ k, tI (cbD m cb j f d e) s i k = tI m s i k) ∧ (∀ k, tR (cbD m cb j f d e) s i k = tR m s i k) ∧ tZ (cbD m cb j f d e) s i = tZ m s i := by
  have a0 : ¬ (s = 48 ∧ i = tN m 48) := fun q => h2 q.1 q.2
  have a1 : ¬ (s = 49 ∧ i = tN m 49) := fun q => h3 q.1 q.2
  have a2 : ¬ (s = 50 ∧ i = tN m 50) := fun q => h4 q.1 q.2
  have a3 : ∀ k k' : Nat, ¬ (s = cb ∧ i = j ∧ k = k') := fun k k' q => h1 ⟨q.1, q.2.1⟩
  unfold cbD
  refine ⟨fun k => ?_, fun k => ?_, ?_⟩
  · simp (config := {decide := true}) only [tI_sR, tI_mk, tN_sR, tN_mk, if_false, a0, a1, a2]
  · simp (config := {decide := true}) only [tR_sR, tR_mk, tN_sR, tN_mk, if_false, a0, a1, a2, a3]
  · simp (config := {decide := true}) only [tZ_sR, tZ_mk, tN_sR, tN_mk, if_false, a0, a1, a2]
theorem cbD_new (m : TS) (cb j f d e : Nat) (h8 : cb ≠ 48) (h9 : cb ≠ 49) (h0 : cb ≠ 50) :
    tR (cbD m cb j f d e) cb j 0 = some (48, f) ∧ tR (cbD m cb j f d e) cb j 2 = some (49, d) ∧ tR (cbD m cb j f d e) cb j 3 = some (50, e) ∧ (∀ k, tI (cbD m cb j f d e) cb j k = tI m cb j k) ∧
    (tZ (cbD m cb j f d e) 48 (tN m 48) = 3 ∧ ∀ k, tI (cbD m cb j f d e) 48 (tN m 48) k = 0) ∧ tZ (cbD m cb j f d e) 49 (tN m 49) = 32 ∧ tZ (cbD m cb j f d e) 50 (tN m 50) = 32 := by
  unfold cbD
  refine ⟨?_, ?_, ?_, fun k => ?_, ⟨?_, fun k => ?_⟩, ?_, ?_⟩
  · simp (config := {decide := true}) only [tR_sR, tR_mk, true_and, false_and, and_false, and_self, if_true, if_false, h8, h9, h0]
  · simp (config := {decide := true}) only [tR_sR, tR_mk, true_and, false_and, and_false, and_self, if_true, if_false, h8, h9, h0]
  · simp (config := {decide := true}) only [tR_sR, tR_mk, true_and, false_and, and_false, and_self, if_true, if_false, h8, h9, h0]
  · simp (config := {decide := true}) only [tI_sR, tI_mk, true_and, false_and, and_false, and_self, if_true, if_false, h8, h9, h0]
  · simp (config := {decide := true}) only [tZ_sR, tZ_mk, tN_sR, tN_mk, true_and, false_and, and_false, and_self, if_true, if_false]
  · simp (config := {decide := true}) only [tI_sR, tI_mk, tN_sR, tN_mk, true_and, false_and, and_false, and_self, if_true, if_false]
  · simp (config := {decide := true}) only [tZ_sR, tZ_mk, tN_sR, tN_mk, true_and, false_and, and_false, and_self, if_true, if_false]
  · simp (config := {decide := true}) only [tZ_sR, tZ_mk, tN_sR, tN_mk, true_and, false_and, and_false, and_self, if_true, if_false]
def cbNew (n d e s i : Nat) : Prop := ((s = 74 ∨ s = 75) ∧ i = n) ∨ (s = 48 ∧ (i = 2 * n ∨ i = 2 * n + 1)) ∨ (s = 49 ∧ (i = d ∨ i = d + 1)) ∨ (s = 50 ∧ (i = e ∨ i = e + 1))
theorem shB1_N (m : TS) (n d e s : Nat) : tN (shB1 m n d e) s = if s = 48 ∨ s = 49 ∨ s = 50 then tN m s + 2 else if s = 74 ∨ s = 75 then tN m s + 1 else tN m s := by
  unfold shB1
  simp only [tN_sR, tN_sI, cbD_N, tN_mk]
  by_cases e1 : s = 48
  · subst e1; simp (config := {decide := true}) only [if_true, if_false]
  by_cases e2 : s = 49
  · subst e2; simp (config := {decide := true}) only [if_true, if_false]
  by_cases e3 : s = 50
  · subst e3; simp (config := {decide := true}) only [if_true, if_false]
  by_cases e4 : s = 74
  · subst e4; simp (config := {decide := true}) only [if_true, if_false]
  by_cases e5 : s = 75
  · subst e5; simp (config := {decide := true}) only [if_true, if_false]
  simp only [e1, e2, e3, e4, e5, or_self, if_false]
theorem CbN_s {m : TS} {n d e : Nat} (h : CbN m n d e) : (tN m 74 = n ∧ ∀ s, s ≠ 74 → tN (mk m 74 0 0 4) s = tN m s) ∧ (∀ s, s = 48 ∨ s = 49 ∨ s = 50 → tN (mk (sR (cbD (mk m 74 0 0 4) 74 n (2 * n) d e) 65 0 (2 * n) (some (74, n))) 75 0 0 4) s = tN m s + 1) ∧ tN (sR (cbD (mk m 74 0 0 4) 74 n (2 * n) d e) 65 0 (2 * n) (some (74, n))) 75 = n := by
  obtain ⟨n74, n75, -, -, -⟩ := h
  refine ⟨⟨n74, fun s hs => by rw [tN_mk, if_neg hs]⟩, fun s hs => ?_, ?_⟩
  · rw [tN_mk, if_neg (by omega), tN_sR, cbD_N, if_pos hs, tN_mk, if_neg (by omega)]
  · rw [tN_sR, cbD_N, if_neg (by decide), tN_mk, if_neg (by decide)]
    exact n75
theorem shB1_old {m : TS} {n d e : Nat} (h : CbN m n d e) (s i : Nat) (hn : ¬ cbNew n d e s i) :
    (∀ k, ¬ (s = 95 ∧ i = 0 ∧ k = 9) → tI (shB1 m n d e) s i k = tI m s i k) ∧ (∀ k, ¬ (s = 65 ∧ i = 0 ∧ (k = 2 * n ∨ k = 2 * n + 1)) → tR (shB1 m n d e) s i k = tR m s i k) ∧ tZ (shB1 m n d e) s i = tZ m s i := by
  obtain ⟨⟨e1, e2⟩, e3, e4⟩ := CbN_s h
  obtain ⟨n74, n75, n48, n49, n50⟩ := h
  have a74 : ¬ (s = 74 ∧ i = n) := fun q => hn (Or.inl ⟨Or.inl q.1, q.2⟩)
  have a75 : ¬ (s = 75 ∧ i = n) := fun q => hn (Or.inl ⟨Or.inr q.1, q.2⟩)
  have w8 : s = 48 → i ≠ 2 * n ∧ i ≠ 2 * n + 1 := fun q => ⟨fun q' => hn (Or.inr (Or.inl ⟨q, Or.inl q'⟩)), fun q' => hn (Or.inr (Or.inl ⟨q, Or.inr q'⟩))⟩
  have w9 : s = 49 → i ≠ d ∧ i ≠ d + 1 := fun q => ⟨fun q' => hn (Or.inr (Or.inr (Or.inl ⟨q, Or.inl q'⟩))), fun q' => hn (Or.inr (Or.inr (Or.inl ⟨q, Or.inr q'⟩)))⟩
  have w0 : s = 50 → i ≠ e ∧ i ≠ e + 1 := fun q => ⟨fun q' => hn (Or.inr (Or.inr (Or.inr ⟨q, Or.inl q'⟩))), fun q' => hn (Or.inr (Or.inr (Or.inr ⟨q, Or.inr q'⟩)))⟩
  have k1 : ∀ k, tI (mk m 74 0 0 4) s i k = tI m s i k := fun k => by rw [tI_mk, e1, if_neg a74]
  have k2 : ∀ k, tR (mk m 74 0 0 4) s i k = tR m s i k := fun k => by rw [tR_mk, e1, if_neg a74]
  have k3 : tZ (mk m 74 0 0 4) s i = tZ m s i := by rw [tZ_mk, e1, if_neg a74]
  obtain ⟨l1, l2, l3⟩ := cbD_old (mk m 74 0 0 4) 74 n (2 * n) d e s i a74 (fun q => by rw [e2 48 (by decide), n48]; exact (w8 q).1) (fun q => by rw [e2 49 (by decide), n49]; exact (w9 q).1) (fun q => by rw [e2 50 (by decide), n50]; exact (w0 q).1)
  unfold shB1
  generalize cbD (mk m 74 0 0 4) 74 n (2 * n) d e = L at *
  have m1 : ∀ k, tI (mk (sR L 65 0 (2 * n) (some (74, n))) 75 0 0 4) s i k = tI m s i k := fun k => by rw [tI_mk, e4, if_neg a75, tI_sR, l1, k1]
  have m2 : ∀ k, ¬ (s = 65 ∧ i = 0 ∧ (k = 2 * n ∨ k = 2 * n + 1)) → tR (mk (sR L 65 0 (2 * n) (some (74, n))) 75 0 0 4) s i k = tR m s i k := fun k hk => by rw [tR_mk, e4, if_neg a75, tR_sR, if_neg (fun q => hk ⟨q.1, q.2.1, Or.inl q.2.2⟩), l2, k2]
  have m3 : tZ (mk (sR L 65 0 (2 * n) (some (74, n))) 75 0 0 4) s i = tZ m s i := by rw [tZ_mk, e4, if_neg a75, tZ_sR, l3, k3]
  obtain ⟨p1, p2, p3⟩ := cbD_old (mk (sR L 65 0 (2 * n) (some (74, n))) 75 0 0 4) 75 n (2 * n + 1) (d + 1) (e + 1) s i a75 (fun q => by rw [e3 48 (by simp), n48]; exact (w8 q).2) (fun q => by rw [e3 49 (by simp), n49]; exact (w9 q).2) (fun q => by rw [e3 50 (by simp), n50]; exact (w0 q).2)
  generalize cbD (mk (sR L 65 0 (2 * n) (some (74, n))) 75 0 0 4) 75 n (2 * n + 1) (d + 1) (e + 1) = M at *
  refine ⟨fun k hk => ?_, fun k hk => ?_, ?_⟩
  · rw [tI_sI, if_neg hk, tI_sR, p1, m1]
  · rw [tR_sI, tR_sR, if_neg (fun q => hk ⟨q.1, q.2.1, Or.inr q.2.2⟩), p2, m2 k hk]
  · rw [tZ_sI, tZ_sR, p3, m3]
set_option maxHeartbeats 2000000 in
theorem shB1_new {m : TS} {n d e : Nat} (h : CbN m n d e) :
    (tR (shB1 m n d e) 65 0 (2 * n) = some (74, n) ∧ tR (shB1 m n d e) 65 0 (2 * n + 1) = some (75, n) ∧ tI (shB1 m n d e) 95 0 9 = Int32.ofNat (n + 1)) ∧
    (tR (shB1 m n d e) 74 n 0 = some (48, 2 * n) ∧ tR (shB1 m n d e) 74 n 2 = some (49, d) ∧ tR (shB1 m n d e) 74 n 3 = some (50, e) ∧ tI (shB1 m n d e) 74 n 1 = 0) ∧
    (tR (shB1 m n d e) 75 n 0 = some (48, 2 * n + 1) ∧ tR (shB1 m n d e) 75 n 2 = some (49, d + 1) ∧ tR (shB1 m n d e) 75 n 3 = some (50, e + 1) ∧ tI (shB1 m n d e) 75 n 1 = 0) ∧
    ((∀ k, tI (shB1 m n d e) 48 (2 * n) k = 0 ∧ tI (shB1 m n d e) 48 (2 * n + 1) k = 0) ∧ tZ (shB1 m n d e) 48 (2 * n) = 3 ∧ tZ (shB1 m n d e) 48 (2 * n + 1) = 3 ∧ tZ (shB1 m n d e) 49 d = 32 ∧ tZ (shB1 m n d e) 49 (d + 1) = 32 ∧ tZ (shB1 m n d e) 50 e = 32 ∧ tZ (shB1 m n d e) 50 (e + 1) = 32) := by
  obtain ⟨⟨e1, e2⟩, e3, e4⟩ := CbN_s h
  obtain ⟨n74, n75, n48, n49, n50⟩ := h
  obtain ⟨b0, b2, b3, bI, ⟨bz8, b8⟩, bz9, bz0⟩ := cbD_new (mk m 74 0 0 4) 74 n (2 * n) d e (by decide) (by decide) (by decide)
  have b1 : tI (cbD (mk m 74 0 0 4) 74 n (2 * n) d e) 74 n 1 = 0 := by rw [bI, tI_mk, e1, if_pos ⟨rfl, rfl⟩]
  rw [e2 48 (by decide), n48] at bz8 b8
  rw [e2 49 (by decide), n49] at bz9
  rw [e2 50 (by decide), n50] at bz0
  have e5 := e3 48 (by simp)
  have e6 := e3 49 (by simp)
  have e7 := e3 50 (by simp)
  rw [n48] at e5
  rw [n49] at e6
  rw [n50] at e7
  unfold shB1
  generalize cbD (mk m 74 0 0 4) 74 n (2 * n) d e = L at *
  have dI : ∀ s i k, s ≠ 75 → tI (mk (sR L 65 0 (2 * n) (some (74, n))) 75 0 0 4) s i k = tI L s i k := fun s i k hs => by rw [tI_mk, if_neg (fun q => hs q.1), tI_sR]
  have dR : ∀ s i k, s ≠ 75 → s ≠ 65 → tR (mk (sR L 65 0 (2 * n) (some (74, n))) 75 0 0 4) s i k = tR L s i k := fun s i k hs hs' => by rw [tR_mk, if_neg (fun q => hs q.1), tR_sR, if_neg (fun q => hs' q.1)]
  have dZ : ∀ s i, s ≠ 75 → tZ (mk (sR L 65 0 (2 * n) (some (74, n))) 75 0 0 4) s i = tZ L s i := fun s i hs => by rw [tZ_mk, if_neg (fun q => hs q.1), tZ_sR]
  have d65 : tR (mk (sR L 65 0 (2 * n) (some (74, n))) 75 0 0 4) 65 0 (2 * n) = some (74, n) := by rw [tR_mk, if_neg (fun q => absurd q.1 (by decide)), tR_sR, if_pos ⟨rfl, rfl, rfl⟩]
  have d75 : tI (mk (sR L 65 0 (2 * n) (some (74, n))) 75 0 0 4) 75 n 1 = 0 := by rw [tI_mk, e4, if_pos ⟨rfl, rfl⟩]
  have old := fun s i h1 h2 h3 h4 => cbD_old (mk (sR L 65 0 (2 * n) (some (74, n))) 75 0 0 4) 75 n (2 * n + 1) (d + 1) (e + 1) s i h1 h2 h3 h4
  obtain ⟨c0, c2, c3, cI, ⟨cz8, c8⟩, cz9, cz0⟩ := cbD_new (mk (sR L 65 0 (2 * n) (some (74, n))) 75 0 0 4) 75 n (2 * n + 1) (d + 1) (e + 1) (by decide) (by decide) (by decide)
  rw [e5] at cz8 c8
  rw [e6] at cz9
  rw [e7] at cz0
  rw [e5, e6, e7] at old
  generalize mk (sR L 65 0 (2 * n) (some (74, n))) 75 0 0 4 = N at *
  have o74 := old 74 n (fun q => absurd q.1 (by decide)) (fun q => absurd q (by decide)) (fun q => absurd q (by decide)) (fun q => absurd q (by decide))
  have o48 := old 48 (2 * n) (fun q => absurd q.1 (by decide)) (fun _ => by omega) (fun q => absurd q (by decide)) (fun q => absurd q (by decide))
  have o49 := old 49 d (fun q => absurd q.1 (by decide)) (fun q => absurd q (by decide)) (fun _ => by omega) (fun q => absurd q (by decide))
  have o50 := old 50 e (fun q => absurd q.1 (by decide)) (fun q => absurd q (by decide)) (fun q => absurd q (by decide)) (fun _ => by omega)
  have o65 := old 65 0 (fun q => absurd q.1 (by decide)) (fun q => absurd q (by decide)) (fun q => absurd q (by decide)) (fun q => absurd q (by decide))
  generalize cbD N 75 n (2 * n + 1) (d + 1) (e + 1) = M at *
  have fI : ∀ s i k, s ≠ 95 → tI (sI (sR M 65 0 (2 * n + 1) (some (75, n))) 95 0 9 (Int32.ofNat (n + 1))) s i k = tI M s i k := fun s i k hs => by rw [tI_sI, if_neg (fun q => hs q.1), tI_sR]
  have fR : ∀ s i k, s ≠ 65 → tR (sI (sR M 65 0 (2 * n + 1) (some (75, n))) 95 0 9 (Int32.ofNat (n + 1))) s i k = tR M s i k := fun s i k hs => by rw [tR_sI, tR_sR, if_neg (fun q => hs q.1)]
  have fZ : ∀ s i, tZ (sI (sR M 65 0 (2 * n + 1) (some (75, n))) 95 0 9 (Int32.ofNat (n + 1))) s i = tZ M s i := fun s i => by rw [tZ_sI, tZ_sR]
  refine ⟨⟨?_, ?_, ?_⟩, ⟨?_, ?_, ?_, ?_⟩, ⟨?_, ?_, ?_, ?_⟩, ⟨fun k => ⟨?_, ?_⟩, ?_, ?_, ?_, ?_, ?_, ?_⟩⟩
  · rw [tR_sI, tR_sR, if_neg (fun q => by omega), o65.2.1, d65]
  · rw [tR_sI, tR_sR, if_pos ⟨rfl, rfl, rfl⟩]
  · rw [tI_sI, if_pos ⟨rfl, rfl, rfl⟩]
  · rw [fR _ _ _ (by decide), o74.2.1, dR _ _ _ (by decide) (by decide), b0]
  · rw [fR _ _ _ (by decide), o74.2.1, dR _ _ _ (by decide) (by decide), b2]
  · rw [fR _ _ _ (by decide), o74.2.1, dR _ _ _ (by decide) (by decide), b3]
  · rw [fI _ _ _ (by decide), o74.1, dI _ _ _ (by decide), b1]
  · rw [fR _ _ _ (by decide), c0]
  · rw [fR _ _ _ (by decide), c2]
  · rw [fR _ _ _ (by decide), c3]
  · rw [fI _ _ _ (by decide), cI, d75]
  · rw [fI _ _ _ (by decide), o48.1, dI _ _ _ (by decide), b8]
  · rw [fI _ _ _ (by decide), c8]
  · rw [fZ, o48.2.2, dZ _ _ (by decide), bz8]
  · rw [fZ, cz8]
  · rw [fZ, o49.2.2, dZ _ _ (by decide), bz9]
  · rw [fZ, cz9]
  · rw [fZ, o50.2.2, dZ _ _ (by decide), bz0]
  · rw [fZ, cz0]
