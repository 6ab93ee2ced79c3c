/-! ===== a unit of the check: all its acts ===== -/
theorem fiv_s {n B : Nat} (hn : 1759 ≤ n) (hB : B ≤ 1099511627776) {ph : Nat → (Nat → Bool) → Bool} {P : Nat → Prop} {T : Nat → Nat → Prop} (hT : ∀ y v, T y v → v ≠ 0)
    (hph : ∀ (y : Nat → Nat) k, (∀ i, y i < 4 * 4294967296) → ph (lz n y) k = true → (∀ i, i < n → P (y i)) ∧ ∃ l : Nat → Nat, (∀ i, l i < B) ∧ k (lz n l) = true ∧ ∀ i, i < n → ∀ v, T (y i) v → l i = v)
    {y a : Nat → Nat} {u : Nat → Bool} (hy : ∀ i, y i < 4 * 4294967296) (ha : ∀ i, a i < B) (hu : ∀ i, u i = false → a i = 0) {k : Nat → Nat → Bool}
    (h : ph (lz n y) (fun L => insY n (lO n) 1500 (lz n a) (lz n (fun i => ib (u i))) L k) = true) :
    ∃ (a' : Nat → Nat) (u' : Nat → Bool), (∀ i, a' i < B) ∧ (∀ i, u' i = false → a' i = 0) ∧ k (lz n a') (lz n (fun i => ib (u' i))) = true ∧ (∀ i, i < n → P (y i)) ∧ (∀ v, v ≠ 0 → occ n a v → occ n a' v) ∧ ∀ i, i < n → ∀ v, T (y i) v → occ n a' v := by
  obtain ⟨g1, l, g2, g3, g4⟩ := hph y _ hy h
  obtain ⟨a', u', e1, e2, e3, e4⟩ := insY_ok hn hB k 1500 a u l ha g2 hu g3
  exact ⟨a', u', e1, e2, e4, g1, fun v h1 h2 => e3 v h1 (Or.inl h2), fun i hi v hv => e3 v (hT _ _ hv) (Or.inr ⟨i, hi, g4 i hi v hv⟩)⟩
theorem fiv_ok {n B : Nat} (hn : 1759 ≤ n) (hB0 : 0 < B) (hB : B ≤ 1099511627776) {ph : Nat → (Nat → Bool) → Bool} {la : Nat → Bool} {P : Nat → Prop} {T : Nat → Nat → Prop} (hT : ∀ y v, T y v → v ≠ 0)
    (hph : ∀ (y : Nat → Nat) k, (∀ i, y i < 4 * 4294967296) → ph (lz n y) k = true → (∀ i, i < n → P (y i)) ∧ ∃ l : Nat → Nat, (∀ i, l i < B) ∧ k (lz n l) = true ∧ ∀ i, i < n → ∀ v, T (y i) v → l i = v)
    {y1 y2 y3 y4 y5 : Nat → Nat} (h1 : ∀ i, y1 i < 4 * 4294967296) (h2 : ∀ i, y2 i < 4 * 4294967296) (h3 : ∀ i, y3 i < 4 * 4294967296) (h4 : ∀ i, y4 i < 4 * 4294967296) (h5 : ∀ i, y5 i < 4 * 4294967296)
    (h : fiv n (lO n) ph la (lz n y1) (lz n y2) (lz n y3) (lz n y4) (lz n y5) = true) :
    ∃ y6 : Nat → Nat, (∀ i, y6 i < B) ∧ la (lz n y6) = true ∧ ∀ v0, (occ n y1 v0 ∨ occ n y2 v0 ∨ occ n y3 v0 ∨ occ n y4 v0 ∨ occ n y5 v0) → P v0 ∧ ∀ v, T v0 v → occ n y6 v := by
  unfold fiv at h
  rw [show insY n (lO n) 1500 0 0 = insY n (lO n) 1500 (lz n (fun _ => 0)) (lz n (fun _ => ib false)) by rw [lz_null, ← iv_0]] at h
  obtain ⟨a1, u1, b1, c1, k1, p1, o1, t1⟩ := fiv_s hn hB hT hph h1 (a := fun _ => 0) (u := fun _ => false) (fun _ => hB0) (fun _ _ => rfl) h
  obtain ⟨a2, u2, b2, c2, k2, p2, o2, t2⟩ := fiv_s hn hB hT hph h2 b1 c1 k1
  obtain ⟨a3, u3, b3, c3, k3, p3, o3, t3⟩ := fiv_s hn hB hT hph h3 b2 c2 k2
  obtain ⟨a4, u4, b4, c4, k4, p4, o4, t4⟩ := fiv_s hn hB hT hph h4 b3 c3 k3
  obtain ⟨a5, u5, b5, c5, k5, p5, o5, t5⟩ := fiv_s hn hB hT hph h5 b4 c4 k4
  refine ⟨a5, b5, k5, fun v0 hv => ?_⟩
  rcases hv with ⟨i, hi, e⟩ | ⟨i, hi, e⟩ | ⟨i, hi, e⟩ | ⟨i, hi, e⟩ | ⟨i, hi, e⟩ <;> subst e
  · exact ⟨p1 i hi, fun v hv => o5 v (hT _ _ hv) (o4 v (hT _ _ hv) (o3 v (hT _ _ hv) (o2 v (hT _ _ hv) (t1 i hi v hv))))⟩
  · exact ⟨p2 i hi, fun v hv => o5 v (hT _ _ hv) (o4 v (hT _ _ hv) (o3 v (hT _ _ hv) (t2 i hi v hv)))⟩
  · exact ⟨p3 i hi, fun v hv => o5 v (hT _ _ hv) (o4 v (hT _ _ hv) (t3 i hi v hv))⟩
  · exact ⟨p4 i hi, fun v hv => o5 v (hT _ _ hv) (t4 i hi v hv)⟩
  · exact ⟨p5 i hi, fun v hv => t5 i hi v hv⟩
/-- the first state of an act with lost messages, by its place -/
def wq (u q low : Nat) : Nat := 512 * (22 * (u + q) + 15) + low
theorem wq_x {u q low : Nat} (h : low < 512) : xq u (512 * q + low) = wq u q low := by
  unfold xq wq
  omega
theorem raw_s {u : Nat} (hu : u + 6 ≤ 381300) {a : Nat → Nat} {b : Nat → Bool} (ha : ∀ i, a i < 4 * 4294967296) (hb : ∀ i, b i = false → a i = 0) {k : Nat → Nat → Bool} (h : insY 4608 (lO 4608) 1500 (lz 4608 a) (lz 4608 (fun i => ib (b i))) (rawV (lO 3072) u) k = true) :
    ∃ (a' : Nat → Nat) (b' : Nat → Bool), (∀ i, a' i < 4 * 4294967296) ∧ (∀ i, b' i = false → a' i = 0) ∧ k (lz 4608 a') (lz 4608 (fun i => ib (b' i))) = true ∧ (∀ v, v ≠ 0 → occ 4608 a v → occ 4608 a' v) ∧ ∀ q low, q < 6 → low < 512 → rv (wq u q low) ≠ 0 → occ 4608 a' (rv (wq u q low)) := by
  rw [rawV_lz hu] at h
  obtain ⟨a', b', e1, e2, e3, e4⟩ := insY_ok (by decide) (by decide) k 1500 a b _ ha (fun i => by
    split
    · exact Nat.lt_of_lt_of_eq (rv_lt _) (by decide)
    · exact (by decide : (0 : Nat) < 4 * 4294967296)) hb h
  refine ⟨a', b', e1, e2, e4, fun v h1 h2 => e3 v h1 (Or.inl h2), fun q low hq hl hv => e3 _ hv (Or.inr ⟨512 * q + low, by omega, ?_⟩)⟩
  show (if 512 * q + low < 3072 then rv (xq u (512 * q + low)) else 0) = _
  rw [if_pos (by omega), wq_x hl]
theorem wq_add (u c q low : Nat) : wq (Nat.add u c) q low = wq u (c + q) low := by
  unfold wq
  rw [show Nat.add u c + q = u + (c + q) from Nat.add_assoc u c q]
theorem subV_ok {u : Nat} (hu : u + 30 ≤ 381300) {k : Nat → Bool} (h : subV 4608 (lO 4608) (lO 3072) u k = true) :
    ∃ y : Nat → Nat, (∀ i, y i < 4 * 4294967296) ∧ k (lz 4608 y) = true ∧ ∀ q low, q < 30 → low < 512 → rv (wq u q low) ≠ 0 → occ 4608 y (rv (wq u q low)) := by
  unfold subV at h
  rw [show insY 4608 (lO 4608) 1500 0 0 = insY 4608 (lO 4608) 1500 (lz 4608 (fun _ => 0)) (lz 4608 (fun _ => ib false)) by rw [lz_null, ← iv_0]] at h
  have ad : ∀ c, Nat.add u c = u + c := fun _ => rfl
  obtain ⟨a1, u1, b1, c1, k1, o1, t1⟩ := raw_s (by omega) (a := fun _ => 0) (b := fun _ => false) (fun _ => by decide) (fun _ _ => rfl) h
  obtain ⟨a2, u2, b2, c2, k2, o2, t2⟩ := raw_s (by rw [ad]; omega) b1 c1 k1
  obtain ⟨a3, u3, b3, c3, k3, o3, t3⟩ := raw_s (by rw [ad]; omega) b2 c2 k2
  obtain ⟨a4, u4, b4, c4, k4, o4, t4⟩ := raw_s (by rw [ad]; omega) b3 c3 k3
  obtain ⟨a5, u5, b5, c5, k5, o5, t5⟩ := raw_s (by rw [ad]; omega) b4 c4 k4
  refine ⟨a5, b5, k5, fun q low hq hl hv => ?_⟩
  have w : ∀ c, c ≤ q → wq u q low = wq (Nat.add u c) (q - c) low := fun c hc => by rw [wq_add, show c + (q - c) = q by omega]
  by_cases q1 : q < 6
  · exact o5 _ hv (o4 _ hv (o3 _ hv (o2 _ hv (t1 q low q1 hl hv))))
  by_cases q2 : q < 12
  · rw [w 6 (by omega)] at hv ⊢
    exact o5 _ hv (o4 _ hv (o3 _ hv (t2 (q - 6) low (by omega) hl hv)))
  by_cases q3 : q < 18
  · rw [w 12 (by omega)] at hv ⊢
    exact o5 _ hv (o4 _ hv (t3 (q - 12) low (by omega) hl hv))
  by_cases q4 : q < 24
  · rw [w 18 (by omega)] at hv ⊢
    exact o5 _ hv (t4 (q - 18) low (by omega) hl hv)
  · rw [w 24 (by omega)] at hv ⊢
    exact t5 (q - 24) low (by omega) hl hv
