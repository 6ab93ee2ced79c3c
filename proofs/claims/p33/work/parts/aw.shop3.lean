/-! ===== a shop comes: old cells stand, the new ones hold what they should ===== -/
theorem ShN_s {a : TS} {n : Nat} (h : ShN a n) (p0 p1 : Int32) : tN (mk (shI a n p0 p1) 21 0 0 4) 8 = 2 * n ∧ tN (mk (shI a n p0 p1) 21 0 0 4) 9 = 2 * n ∧ tN (shI a n p0 p1) 21 = n ∧ tN (sR (liA (mk (shI a n p0 p1) 21 0 0 4) 21 n (2 * n) (2 * n)) 36 n 4 (some (21, n))) 22 = n ∧
    tN (mk (sR (liA (mk (shI a n p0 p1) 21 0 0 4) 21 n (2 * n) (2 * n)) 36 n 4 (some (21, n))) 22 0 0 4) 8 = 2 * n + 1 ∧ tN (mk (sR (liA (mk (shI a n p0 p1) 21 0 0 4) 21 n (2 * n) (2 * n)) 36 n 4 (some (21, n))) 22 0 0 4) 9 = 2 * n + 1 := by
  obtain ⟨n36, n18, n19, n20, n21, n22, n8, n9⟩ := h
  refine ⟨?_, ?_, ?_, ?_, ?_, ?_⟩
  · rw [tN_mk, if_neg (by decide), shI_N, if_neg (by decide)]; exact n8
  · rw [tN_mk, if_neg (by decide), shI_N, if_neg (by decide)]; exact n9
  · rw [shI_N, if_neg (by decide)]; exact n21
  · rw [tN_sR, liA_N, if_neg (by decide), tN_mk, if_neg (by decide), shI_N, if_neg (by decide)]; exact n22
  · rw [tN_mk, if_neg (by decide), tN_sR, liA_N, if_pos (by decide), tN_mk, if_neg (by decide), shI_N, if_neg (by decide)]; omega
  · rw [tN_mk, if_neg (by decide), tN_sR, liA_N, if_pos (by decide), tN_mk, if_neg (by decide), shI_N, if_neg (by decide)]; omega
/-- a cell that comes with shop n -/
def shNew (n s i : Nat) : Prop := ((s = 36 ∨ s = 18 ∨ s = 19 ∨ s = 20 ∨ s = 21 ∨ s = 22) ∧ i = n) ∨ ((s = 8 ∨ s = 9) ∧ (i = 2 * n ∨ i = 2 * n + 1))
theorem shJ_old {a : TS} {n : Nat} (h : ShN a n) (p0 p1 : Int32) (s i : Nat) (hn : ¬ shNew n s i) :
    (∀ k, tI (shJ a n p0 p1) s i k = tI a s i k) ∧ (∀ k, tR (shJ a n p0 p1) s i k = tR a s i k) ∧ tZ (shJ a n p0 p1) s i = tZ a s i ∧ tC (shJ a n p0 p1) s i = tC a s i ∧ (s ≠ 8 → s ≠ 9 → ∀ k, tL (shJ a n p0 p1) s i k = tL a s i k) := by
  obtain ⟨e1, e2, e3, e4, e5, e6⟩ := ShN_s h p0 p1
  obtain ⟨n36, n18, n19, n20, n21, n22, n8, n9⟩ := h
  have a36 : ¬ (s = 36 ∧ i = n) := fun q => hn (Or.inl ⟨Or.inl q.1, q.2⟩)
  have a21 : ¬ (s = 21 ∧ i = n) := fun q => hn (Or.inl ⟨by omega, q.2⟩)
  have a22 : ¬ (s = 22 ∧ i = n) := fun q => hn (Or.inl ⟨by omega, q.2⟩)
  have ho : (s = 36 ∨ s = 18 ∨ s = 19 ∨ s = 20) → i ≠ n := fun q q' => hn (Or.inl ⟨by omega, q'⟩)
  have w8 : s = 8 → i ≠ 2 * n ∧ i ≠ 2 * n + 1 := fun q => ⟨fun q' => hn (Or.inr ⟨Or.inl q, Or.inl q'⟩), fun q' => hn (Or.inr ⟨Or.inl q, Or.inr q'⟩)⟩
  have w9 : s = 9 → i ≠ 2 * n ∧ i ≠ 2 * n + 1 := fun q => ⟨fun q' => hn (Or.inr ⟨Or.inr q, Or.inl q'⟩), fun q' => hn (Or.inr ⟨Or.inr q, Or.inr q'⟩)⟩
  have hI := fun k => shI_old a n p0 p1 s i k ho n36 n18 n19 n20
  unfold shJ
  generalize shI a n p0 p1 = I at *
  have k1 : ∀ k, tI (mk I 21 0 0 4) s i k = tI a s i k := fun k => by rw [tI_mk, e3, if_neg a21]; exact (hI k).1
  have k2 : ∀ k, tR (mk I 21 0 0 4) s i k = tR a s i k := fun k => by rw [tR_mk, e3, if_neg a21]; exact (hI k).2.2.1
  have k3 : tZ (mk I 21 0 0 4) s i = tZ a s i := by rw [tZ_mk, e3, if_neg a21]; exact (hI 0).2.2.2.1
  have k4 : tC (mk I 21 0 0 4) s i = tC a s i := by rw [tC_mk, e3, if_neg a21]; exact (hI 0).2.2.2.2
  have k5 : ∀ k, tL (mk I 21 0 0 4) s i k = tL a s i k := fun k => by rw [tL_mk, e3, if_neg a21]; exact (hI k).2.1
  generalize mk I 21 0 0 4 = M at *
  have l1 : ∀ k, tI (liA M 21 n (2 * n) (2 * n)) s i k = tI a s i k := fun k => by rw [liA_I _ _ _ _ _ _ _ _ (fun q => by rw [e1]; exact (w8 q).1) (fun q => by rw [e2]; exact (w9 q).1) a21]; exact k1 k
  have l2 : ∀ k, tR (liA M 21 n (2 * n) (2 * n)) s i k = tR a s i k := fun k => by rw [liA_R _ _ _ _ _ _ _ _ (fun q => by rw [e1]; exact (w8 q).1) (fun q => by rw [e2]; exact (w9 q).1) a21]; exact k2 k
  have l3 : tZ (liA M 21 n (2 * n) (2 * n)) s i = tZ a s i := by rw [liA_Z, if_neg (fun q => by rw [e2] at q; exact (w9 q.1).1 q.2), if_neg (fun q => by rw [e1] at q; exact (w8 q.1).1 q.2)]; exact k3
  have l4 : tC (liA M 21 n (2 * n) (2 * n)) s i = tC a s i := by rw [liA_C, if_neg (fun q => by rw [e2] at q; exact (w9 q.1).1 q.2), if_neg (fun q => by rw [e1] at q; exact (w8 q.1).1 q.2)]; exact k4
  have l5 : s ≠ 8 → s ≠ 9 → ∀ k, tL (liA M 21 n (2 * n) (2 * n)) s i k = tL a s i k := fun h8 h9 k => by rw [liA_L _ _ _ _ _ _ _ _ h8 h9]; exact k5 k
  generalize liA M 21 n (2 * n) (2 * n) = L at *
  have m1 : ∀ k, tI (mk (sR L 36 n 4 (some (21, n))) 22 0 0 4) s i k = tI a s i k := fun k => by rw [tI_mk, e4, if_neg a22, tI_sR]; exact l1 k
  have m2 : ∀ k, tR (mk (sR L 36 n 4 (some (21, n))) 22 0 0 4) s i k = tR a s i k := fun k => by rw [tR_mk, e4, if_neg a22, tR_sR, if_neg (fun q => a36 ⟨q.1, q.2.1⟩)]; exact l2 k
  have m3 : tZ (mk (sR L 36 n 4 (some (21, n))) 22 0 0 4) s i = tZ a s i := by rw [tZ_mk, e4, if_neg a22, tZ_sR]; exact l3
  have m4 : tC (mk (sR L 36 n 4 (some (21, n))) 22 0 0 4) s i = tC a s i := by rw [tC_mk, e4, if_neg a22, tC_sR]; exact l4
  have m5 : s ≠ 8 → s ≠ 9 → ∀ k, tL (mk (sR L 36 n 4 (some (21, n))) 22 0 0 4) s i k = tL a s i k := fun h8 h9 k => by rw [tL_mk, e4, if_neg a22, tL_sR]; exact l5 h8 h9 k
  generalize mk (sR L 36 n 4 (some (21, n))) 22 0 0 4 = N at *
  refine ⟨fun k => ?_, fun k => ?_, ?_, ?_, fun h8 h9 k => ?_⟩
  · rw [tI_sR, liA_I _ _ _ _ _ _ _ _ (fun q => by rw [e5]; exact (w8 q).2) (fun q => by rw [e6]; exact (w9 q).2) a22]; exact m1 k
  · rw [tR_sR, if_neg (fun q => a36 ⟨q.1, q.2.1⟩), liA_R _ _ _ _ _ _ _ _ (fun q => by rw [e5]; exact (w8 q).2) (fun q => by rw [e6]; exact (w9 q).2) a22]; exact m2 k
  · rw [tZ_sR, liA_Z, if_neg (fun q => by rw [e6] at q; exact (w9 q.1).2 q.2), if_neg (fun q => by rw [e5] at q; exact (w8 q.1).2 q.2)]; exact m3
  · rw [tC_sR, liA_C, if_neg (fun q => by rw [e6] at q; exact (w9 q.1).2 q.2), if_neg (fun q => by rw [e5] at q; exact (w8 q.1).2 q.2)]; exact m4
  · rw [tL_sR, liA_L _ _ _ _ _ _ _ _ h8 h9]; exact m5 h8 h9 k
set_option maxHeartbeats 2000000 in
theorem shJ_new {a : TS} {n : Nat} (h : ShN a n) (p0 p1 : Int32) :
    (tI (shJ a n p0 p1) 36 n 0 = Int32.ofNat n ∧ tI (shJ a n p0 p1) 36 n 1 = p0 ∧ tI (shJ a n p0 p1) 36 n 2 = p1 ∧ tI (shJ a n p0 p1) 36 n 9 = 0 ∧ tI (shJ a n p0 p1) 36 n 10 = 0) ∧ (tL (shJ a n p0 p1) 36 n 11 = 0 ∧ tL (shJ a n p0 p1) 36 n 12 = 0) ∧
    (tR (shJ a n p0 p1) 36 n 3 = some (25, 0) ∧ tR (shJ a n p0 p1) 36 n 4 = some (21, n) ∧ tR (shJ a n p0 p1) 36 n 5 = some (22, n) ∧ tR (shJ a n p0 p1) 36 n 6 = some (18, n) ∧ tR (shJ a n p0 p1) 36 n 7 = some (19, n) ∧ tR (shJ a n p0 p1) 36 n 8 = some (20, n)) ∧
    (tZ (shJ a n p0 p1) 18 n = 0 ∧ tC (shJ a n p0 p1) 18 n = 0 ∧ tZ (shJ a n p0 p1) 19 n = 0 ∧ tC (shJ a n p0 p1) 19 n = 0 ∧ tZ (shJ a n p0 p1) 20 n = 100 ∧ ∀ k, tI (shJ a n p0 p1) 20 n k = 0) ∧
    (tR (shJ a n p0 p1) 21 n 0 = some (25, 0) ∧ tR (shJ a n p0 p1) 21 n 1 = some (8, 2 * n) ∧ tR (shJ a n p0 p1) 21 n 2 = some (9, 2 * n) ∧ tI (shJ a n p0 p1) 21 n 3 = 0) ∧
    (tR (shJ a n p0 p1) 22 n 0 = some (25, 0) ∧ tR (shJ a n p0 p1) 22 n 1 = some (8, 2 * n + 1) ∧ tR (shJ a n p0 p1) 22 n 2 = some (9, 2 * n + 1) ∧ tI (shJ a n p0 p1) 22 n 3 = 0) ∧
    ((∀ k, tI (shJ a n p0 p1) 8 (2 * n) k = 0 ∧ tI (shJ a n p0 p1) 8 (2 * n + 1) k = 0) ∧ tZ (shJ a n p0 p1) 8 (2 * n) = 3 ∧ tZ (shJ a n p0 p1) 8 (2 * n + 1) = 3 ∧ tZ (shJ a n p0 p1) 9 (2 * n) = 0 ∧ tZ (shJ a n p0 p1) 9 (2 * n + 1) = 0 ∧ tC (shJ a n p0 p1) 9 (2 * n) = 0 ∧ tC (shJ a n p0 p1) 9 (2 * n + 1) = 0) := by
  obtain ⟨e1, e2, e3, e4, e5, e6⟩ := ShN_s h p0 p1
  obtain ⟨n36, n18, n19, n20, n21, n22, n8, n9⟩ := h
  obtain ⟨⟨u0, u1, u2, u9, u10⟩, ⟨v11, v12⟩, ⟨w3, w6, w7, w8⟩, x1, x2, x3, x4, x5, x6⟩ := shI_new a n p0 p1 n36 n18 n19 n20
  unfold shJ
  generalize shI a n p0 p1 = I at *
  -- what is not of a line goes through
  have pI : ∀ s i k, s ≠ 8 → s ≠ 9 → s ≠ 21 → s ≠ 22 → tI (sR (liA (mk (sR (liA (mk I 21 0 0 4) 21 n (2 * n) (2 * n)) 36 n 4 (some (21, n))) 22 0 0 4) 22 n (2 * n + 1) (2 * n + 1)) 36 n 5 (some (22, n))) s i k = tI I s i k := fun s i k h8 h9 h1 h2 => by
    rw [tI_sR, liA_I _ _ _ _ _ _ _ _ (fun q => absurd q h8) (fun q => absurd q h9) (fun q => h2 q.1), tI_mk, if_neg (fun q => h2 q.1), tI_sR, liA_I _ _ _ _ _ _ _ _ (fun q => absurd q h8) (fun q => absurd q h9) (fun q => h1 q.1), tI_mk, if_neg (fun q => h1 q.1)]
  have pL : ∀ i k, tL (sR (liA (mk (sR (liA (mk I 21 0 0 4) 21 n (2 * n) (2 * n)) 36 n 4 (some (21, n))) 22 0 0 4) 22 n (2 * n + 1) (2 * n + 1)) 36 n 5 (some (22, n))) 36 i k = tL I 36 i k := fun i k => by
    rw [tL_sR, liA_L _ _ _ _ _ _ _ _ (by decide) (by decide), tL_mk, if_neg (fun q => absurd q.1 (by decide)), tL_sR, liA_L _ _ _ _ _ _ _ _ (by decide) (by decide), tL_mk, if_neg (fun q => absurd q.1 (by decide))]
  have pR : ∀ k, k ≠ 4 → k ≠ 5 → tR (sR (liA (mk (sR (liA (mk I 21 0 0 4) 21 n (2 * n) (2 * n)) 36 n 4 (some (21, n))) 22 0 0 4) 22 n (2 * n + 1) (2 * n + 1)) 36 n 5 (some (22, n))) 36 n k = tR I 36 n k := fun k h4 h5 => by
    rw [tR_sR, if_neg (fun q => h5 q.2.2), liA_R _ _ _ _ _ _ _ _ (fun q => absurd q (by decide)) (fun q => absurd q (by decide)) (fun q => absurd q.1 (by decide)), tR_mk, if_neg (fun q => absurd q.1 (by decide)), tR_sR, if_neg (fun q => h4 q.2.2), liA_R _ _ _ _ _ _ _ _ (fun q => absurd q (by decide)) (fun q => absurd q (by decide)) (fun q => absurd q.1 (by decide)), tR_mk, if_neg (fun q => absurd q.1 (by decide))]
  have pZ : ∀ s, s ≠ 8 → s ≠ 9 → s ≠ 21 → s ≠ 22 → ∀ i, tZ (sR (liA (mk (sR (liA (mk I 21 0 0 4) 21 n (2 * n) (2 * n)) 36 n 4 (some (21, n))) 22 0 0 4) 22 n (2 * n + 1) (2 * n + 1)) 36 n 5 (some (22, n))) s i = tZ I s i := fun s h8 h9 h1 h2 i => by
    rw [tZ_sR, liA_Z, if_neg (fun q => h9 q.1), if_neg (fun q => h8 q.1), tZ_mk, if_neg (fun q => h2 q.1), tZ_sR, liA_Z, if_neg (fun q => h9 q.1), if_neg (fun q => h8 q.1), tZ_mk, if_neg (fun q => h1 q.1)]
  have pC : ∀ s, s ≠ 8 → s ≠ 9 → s ≠ 21 → s ≠ 22 → ∀ i, tC (sR (liA (mk (sR (liA (mk I 21 0 0 4) 21 n (2 * n) (2 * n)) 36 n 4 (some (21, n))) 22 0 0 4) 22 n (2 * n + 1) (2 * n + 1)) 36 n 5 (some (22, n))) s i = tC I s i := fun s h8 h9 h1 h2 i => by
    rw [tC_sR, liA_C, if_neg (fun q => h9 q.1), if_neg (fun q => h8 q.1), tC_mk, if_neg (fun q => h2 q.1), tC_sR, liA_C, if_neg (fun q => h9 q.1), if_neg (fun q => h8 q.1), tC_mk, if_neg (fun q => h1 q.1)]
  obtain ⟨b0, b1, b2, b3, b8⟩ := liA_at (mk I 21 0 0 4) 21 n (2 * n) (2 * n) (by decide) (by decide)
  have bz8 : tZ (liA (mk I 21 0 0 4) 21 n (2 * n) (2 * n)) 8 (2 * n) = 3 := by rw [liA_Z, if_neg (fun q => absurd q.1 (by decide)), e1, if_pos ⟨rfl, rfl⟩]
  have bz9 : tZ (liA (mk I 21 0 0 4) 21 n (2 * n) (2 * n)) 9 (2 * n) = 0 := by rw [liA_Z, e2, if_pos ⟨rfl, rfl⟩]
  have bc9 : tC (liA (mk I 21 0 0 4) 21 n (2 * n) (2 * n)) 9 (2 * n) = 0 := by rw [liA_C, e2, if_pos ⟨rfl, rfl⟩]
  rw [e1] at b8
  generalize liA (mk I 21 0 0 4) 21 n (2 * n) (2 * n) = L at *
  have d21 : ∀ k, tR (mk (sR L 36 n 4 (some (21, n))) 22 0 0 4) 21 n k = tR L 21 n k := fun k => by rw [tR_mk, if_neg (fun q => absurd q.1 (by decide)), tR_sR, if_neg (fun q => absurd q.1 (by decide))]
  have d21' : ∀ k, tI (mk (sR L 36 n 4 (some (21, n))) 22 0 0 4) 21 n k = tI L 21 n k := fun k => by rw [tI_mk, if_neg (fun q => absurd q.1 (by decide)), tI_sR]
  have d8 : ∀ k, tI (mk (sR L 36 n 4 (some (21, n))) 22 0 0 4) 8 (2 * n) k = 0 := fun k => by rw [tI_mk, if_neg (fun q => absurd q.1 (by decide)), tI_sR]; exact b8 k
  have d4 : tR (mk (sR L 36 n 4 (some (21, n))) 22 0 0 4) 36 n 4 = some (21, n) := by rw [tR_mk, if_neg (fun q => absurd q.1 (by decide)), tR_sR, if_pos ⟨rfl, rfl, rfl⟩]
  have dz8 : tZ (mk (sR L 36 n 4 (some (21, n))) 22 0 0 4) 8 (2 * n) = 3 := by rw [tZ_mk, if_neg (fun q => absurd q.1 (by decide)), tZ_sR]; exact bz8
  have dz9 : tZ (mk (sR L 36 n 4 (some (21, n))) 22 0 0 4) 9 (2 * n) = 0 := by rw [tZ_mk, if_neg (fun q => absurd q.1 (by decide)), tZ_sR]; exact bz9
  have dc9 : tC (mk (sR L 36 n 4 (some (21, n))) 22 0 0 4) 9 (2 * n) = 0 := by rw [tC_mk, if_neg (fun q => absurd q.1 (by decide)), tC_sR]; exact bc9
  obtain ⟨c0, c1, c2, c3, c8⟩ := liA_at (mk (sR L 36 n 4 (some (21, n))) 22 0 0 4) 22 n (2 * n + 1) (2 * n + 1) (by decide) (by decide)
  rw [e5] at c8
  generalize mk (sR L 36 n 4 (some (21, n))) 22 0 0 4 = N at *
  refine ⟨⟨(pI _ _ _ (by decide) (by decide) (by decide) (by decide)).trans u0, (pI _ _ _ (by decide) (by decide) (by decide) (by decide)).trans u1, (pI _ _ _ (by decide) (by decide) (by decide) (by decide)).trans u2, (pI _ _ _ (by decide) (by decide) (by decide) (by decide)).trans u9, (pI _ _ _ (by decide) (by decide) (by decide) (by decide)).trans u10⟩, ⟨(pL _ _).trans v11, (pL _ _).trans v12⟩,
    ⟨(pR _ (by decide) (by decide)).trans w3, ?_, ?_, (pR _ (by decide) (by decide)).trans w6, (pR _ (by decide) (by decide)).trans w7, (pR _ (by decide) (by decide)).trans w8⟩,
    ⟨(pZ _ (by decide) (by decide) (by decide) (by decide) _).trans x1, (pC _ (by decide) (by decide) (by decide) (by decide) _).trans x2, (pZ _ (by decide) (by decide) (by decide) (by decide) _).trans x3, (pC _ (by decide) (by decide) (by decide) (by decide) _).trans x4, (pZ _ (by decide) (by decide) (by decide) (by decide) _).trans x5, fun k => (pI _ _ _ (by decide) (by decide) (by decide) (by decide)).trans (x6 k)⟩, ⟨?_, ?_, ?_, ?_⟩, ⟨?_, ?_, ?_, ?_⟩, ⟨fun k => ⟨?_, ?_⟩, ?_, ?_, ?_, ?_, ?_, ?_⟩⟩
  · rw [tR_sR, if_neg (fun q => absurd q.2.2 (by decide)), liA_R _ _ _ _ _ _ _ _ (fun q => absurd q (by decide)) (fun q => absurd q (by decide)) (fun q => absurd q.1 (by decide))]; exact d4
  · rw [tR_sR, if_pos ⟨rfl, rfl, rfl⟩]
  · rw [tR_sR, if_neg (fun q => absurd q.1 (by decide)), liA_R _ _ _ _ _ _ _ _ (fun q => absurd q (by decide)) (fun q => absurd q (by decide)) (fun q => absurd q.1 (by decide)), d21]; exact b0
  · rw [tR_sR, if_neg (fun q => absurd q.1 (by decide)), liA_R _ _ _ _ _ _ _ _ (fun q => absurd q (by decide)) (fun q => absurd q (by decide)) (fun q => absurd q.1 (by decide)), d21]; exact b1
  · rw [tR_sR, if_neg (fun q => absurd q.1 (by decide)), liA_R _ _ _ _ _ _ _ _ (fun q => absurd q (by decide)) (fun q => absurd q (by decide)) (fun q => absurd q.1 (by decide)), d21]; exact b2
  · rw [tI_sR, liA_I _ _ _ _ _ _ _ _ (fun q => absurd q (by decide)) (fun q => absurd q (by decide)) (fun q => absurd q.1 (by decide)), d21']; exact b3
  · rw [tR_sR, if_neg (fun q => absurd q.1 (by decide))]; exact c0
  · rw [tR_sR, if_neg (fun q => absurd q.1 (by decide))]; exact c1
  · rw [tR_sR, if_neg (fun q => absurd q.1 (by decide))]; exact c2
  · rw [tI_sR]; exact c3
  · rw [tI_sR, liA_I _ _ _ _ _ _ _ _ (fun _ => by rw [e5]; omega) (fun q => absurd q (by decide)) (fun q => absurd q.1 (by decide))]; exact d8 k
  · rw [tI_sR]; exact c8 k
  · rw [tZ_sR, liA_Z, if_neg (fun q => absurd q.1 (by decide)), e5, if_neg (fun q => by omega)]; exact dz8
  · rw [tZ_sR, liA_Z, if_neg (fun q => absurd q.1 (by decide)), e5, if_pos ⟨rfl, rfl⟩]
  · rw [tZ_sR, liA_Z, e6, if_neg (fun q => by omega), if_neg (fun q => absurd q.1 (by decide))]; exact dz9
  · rw [tZ_sR, liA_Z, e6, if_pos ⟨rfl, rfl⟩]
  · rw [tC_sR, liA_C, e6, if_neg (fun q => by omega), if_neg (fun q => absurd q.1 (by decide))]; exact dc9
  · rw [tC_sR, liA_C, e6, if_pos ⟨rfl, rfl⟩]
