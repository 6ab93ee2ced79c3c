/-! ===== what a unit of the check says ===== -/
def lanM (N W : Nat → Nat) (y : Nat) : Prop := capF N W cMA (vlR y) (vlS y) ∧ ∀ v, goM N W y v → capF N W cMB (vlR v) (vlS v)
def lanZ (N W : Nat → Nat) (K G : Nat → Bool) (y : Nat) : Prop := zF N W K G cZA (vlR y) (vlS y) true ∧ ∀ v, goZ N W K y v → zF N W K G cZB (vlR v) (vlS v) true
theorem four_pos {s : Nat} (r : Nat) (h : 4 ≤ s) : r + s * 4294967296 ≠ 0 := by
  intro e
  have h2 : s * 4294967296 = 0 := Nat.eq_zero_of_add_eq_zero_left e
  rcases Nat.mul_eq_zero.mp h2 with h3 | h3
  · omega
  · cases h3
theorem goM_ne {N W : Nat → Nat} (y v : Nat) (h : goM N W y v) : v ≠ 0 := by
  obtain ⟨h1, -, h2⟩ := h
  rw [h2]
  exact four_pos _ h1
theorem goZ_ne {N W : Nat → Nat} {K : Nat → Bool} (y v : Nat) (h : goZ N W K y v) : v ≠ 0 := by
  obtain ⟨-, h1, h2⟩ := h
  rw [h2]
  exact four_pos _ h1
section
variable {n : Nat} {y1 y2 y3 y4 y5 : Nat → Nat}
theorem lan_M {N W : Nat → Nat} {K G : Nat → Bool} (th : Bool) (hn : 1759 ≤ n) (hA : ActF th true n N W K G) (h1 : ∀ i, y1 i < 4 * 4294967296) (h2 : ∀ i, y2 i < 4 * 4294967296) (h3 : ∀ i, y3 i < 4 * 4294967296) (h4 : ∀ i, y4 i < 4 * 4294967296) (h5 : ∀ i, y5 i < 4 * 4294967296)
    (h : fiv n (lO n) (phM th (lO n)) (fun Y => runM th (lO n) (fun _ _ => true) cMB (getR (lO n) Y) (getS (lO n) Y)) (lz n y1) (lz n y2) (lz n y3) (lz n y4) (lz n y5) = true) :
    ∀ v0, (occ n y1 v0 ∨ occ n y2 v0 ∨ occ n y3 v0 ∨ occ n y4 v0 ∨ occ n y5 v0) → lanM N W v0 := by
  obtain ⟨y6, b6, k6, p6⟩ := fiv_ok (B := 251 * 4294967296) (P := fun y => capF N W cMA (vlR y) (vlS y)) (T := goM N W) hn (by decide) (by decide) (goM_ne (N := N) (W := W)) (fun y k hy hk => phM_ok th hA y hy k hk) h1 h2 h3 h4 h5 h
  have y64 : ∀ i, y6 i < 2 ^ 64 := fun i => Nat.lt_trans (b6 i) (by decide)
  rw [lz_getR y64, lz_getS y64] at k6
  obtain ⟨g1, -⟩ := runM_ok th hA _ cMB _ _ cMB_b (fun i => vlR_lt _) (fun i => Nat.le_of_lt_succ (vlS_lt (b6 i))) k6
  intro v0 hv
  obtain ⟨q1, q2⟩ := p6 v0 hv
  refine ⟨q1, fun v hg => ?_⟩
  obtain ⟨i, hi, e⟩ := q2 v hg
  have := g1 i hi
  rw [e] at this
  exact this
theorem lan_Z {N W : Nat → Nat} {K G : Nat → Bool} (hn : 1759 ≤ n) (hA : ActF false false n N W K G) (h1 : ∀ i, y1 i < 4 * 4294967296) (h2 : ∀ i, y2 i < 4 * 4294967296) (h3 : ∀ i, y3 i < 4 * 4294967296) (h4 : ∀ i, y4 i < 4 * 4294967296) (h5 : ∀ i, y5 i < 4 * 4294967296)
    (h : fiv n (lO n) (phZ (lO n)) (fun Y => runZ (lO n) (fun _ _ _ => true) cZB (getR (lO n) Y) (getS (lO n) Y) (lO n)) (lz n y1) (lz n y2) (lz n y3) (lz n y4) (lz n y5) = true) :
    ∀ v0, (occ n y1 v0 ∨ occ n y2 v0 ∨ occ n y3 v0 ∨ occ n y4 v0 ∨ occ n y5 v0) → lanZ N W K G v0 := by
  obtain ⟨y6, b6, k6, p6⟩ := fiv_ok (B := 98 * 4294967296) (P := fun y => zF N W K G cZA (vlR y) (vlS y) true) (T := goZ N W K) hn (by decide) (by decide) (goZ_ne (N := N) (W := W) (K := K)) (fun y k hy hk => phZ_ok hA y hy k hk) h1 h2 h3 h4 h5 h
  have y64 : ∀ i, y6 i < 2 ^ 64 := fun i => Nat.lt_trans (b6 i) (by decide)
  rw [lz_getR y64, lz_getS y64] at k6
  obtain ⟨g1, -⟩ := runZ_ok hA _ cZB _ _ (fun _ => true) cZB_b (fun i => vlR_lt _) (fun i => by have := vlS_lt (b6 i); show vlS (y6 i) + 3 * 51 ≤ 250; omega) k6
  intro v0 hv
  obtain ⟨q1, q2⟩ := p6 v0 hv
  refine ⟨q1, fun v hg => ?_⟩
  obtain ⟨i, hi, e⟩ := q2 v hg
  have := g1 i hi
  rw [e] at this
  exact this
end
theorem chk_ok {u : Nat} (hu : u < 2542) (h : chk u = true) : ∀ q low, q < 150 → low < 512 → rv (wq (Nat.mul 150 u) q low) ≠ 0 →
    lanM (aN false true) aW (rv (wq (Nat.mul 150 u) q low)) ∧ lanM (aN true true) aW (rv (wq (Nat.mul 150 u) q low)) ∧ lanZ (aN false false) aW aKb aGb (rv (wq (Nat.mul 150 u) q low)) := by
  unfold chk chkU at h
  rw [zO_lz, zO_lz] at h
  have m : Nat.mul 150 u = 150 * u := rfl
  have ad : ∀ c, Nat.add (Nat.mul 150 u) c = 150 * u + c := fun _ => rfl
  obtain ⟨y1, b1, k1, o1⟩ := subV_ok (by rw [m]; omega) h
  obtain ⟨y2, b2, k2, o2⟩ := subV_ok (by rw [ad]; omega) k1
  obtain ⟨y3, b3, k3, o3⟩ := subV_ok (by rw [ad]; omega) k2
  obtain ⟨y4, b4, k4, o4⟩ := subV_ok (by rw [ad]; omega) k3
  obtain ⟨y5, b5, k5, o5⟩ := subV_ok (by rw [ad]; omega) k4
  rw [Bool.and_eq_true, Bool.and_eq_true] at k5
  obtain ⟨c1, c2, c3⟩ := k5
  intro q low hq hl hv
  have w : ∀ c, c ≤ q → wq (Nat.mul 150 u) q low = wq (Nat.add (Nat.mul 150 u) c) (q - c) low := fun c hc => by rw [wq_add, show c + (q - c) = q by omega]
  have oc : occ 4608 y1 (rv (wq (Nat.mul 150 u) q low)) ∨ occ 4608 y2 (rv (wq (Nat.mul 150 u) q low)) ∨ occ 4608 y3 (rv (wq (Nat.mul 150 u) q low)) ∨ occ 4608 y4 (rv (wq (Nat.mul 150 u) q low)) ∨ occ 4608 y5 (rv (wq (Nat.mul 150 u) q low)) := by
    by_cases q1 : q < 30
    · exact Or.inl (o1 q low q1 hl hv)
    by_cases q2 : q < 60
    · rw [w 30 (by omega)] at hv ⊢
      exact Or.inr (Or.inl (o2 (q - 30) low (by omega) hl hv))
    by_cases q3 : q < 90
    · rw [w 60 (by omega)] at hv ⊢
      exact Or.inr (Or.inr (Or.inl (o3 (q - 60) low (by omega) hl hv)))
    by_cases q4 : q < 120
    · rw [w 90 (by omega)] at hv ⊢
      exact Or.inr (Or.inr (Or.inr (Or.inl (o4 (q - 90) low (by omega) hl hv))))
    · rw [w 120 (by omega)] at hv ⊢
      exact Or.inr (Or.inr (Or.inr (Or.inr (o5 (q - 120) low (by omega) hl hv))))
  exact ⟨lan_M false (by decide) (actF false true 4608) b1 b2 b3 b4 b5 c1 _ oc, lan_M true (by decide) (actF true true 4608) b1 b2 b3 b4 b5 c2 _ oc, lan_Z (by decide) (actF false false 4608) b1 b2 b3 b4 b5 c3 _ oc⟩
