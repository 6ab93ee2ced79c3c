/-! ===== a unit of the check, and what it says of each act with lost messages ===== -/
def vlR (y : Nat) : Nat := y % 4294967296
def vlS (y : Nat) : Nat := y / 4294967296 % 256
theorem rvF_t {a w : Nat} {c : Bool} (h : c = true) : rvF c a w = a + w * 4294967296 := by rw [h]; exact rvG_t _
theorem vl_R {a w : Nat} (ha : a < 4294967296) : vlR (a + w * 4294967296) = a := by
  unfold vlR
  omega
theorem vl_S {a w : Nat} (ha : a < 4294967296) (hw : w < 256) : vlS (a + w * 4294967296) = w := by
  unfold vlS
  omega
theorem vlR_lt (y : Nat) : vlR y < 4294967296 := Nat.mod_lt _ (by decide)
theorem ble4 (s : Nat) : Nat.ble 256 (Nat.add s 252) = Nat.ble 4 s := by
  cases e : Nat.ble 4 s with
  | true => exact ble_iff.mpr (by have := ble_iff.mp e; show 256 ≤ s + 252; omega)
  | false => exact ble_f.mpr (by have := ble_f.mp e; show s + 252 < 256; omega)
section
variable {n : Nat}
theorem lz_getR {y : Nat → Nat} (hy : ∀ i, y i < 2 ^ 64) : getR (lO n) (lz n y) = lz n (fun i => vlR (y i)) := by
  unfold getR
  rw [lz_c, lz_and n _ _ hy (fun _ => by decide)]
  exact lz_congr (fun i _ => and_m (y i) 32)
theorem lz_getS {y : Nat → Nat} (hy : ∀ i, y i < 2 ^ 64) : getS (lO n) (lz n y) = lz n (fun i => vlS (y i)) := by
  unfold getS
  rw [lz_c, lz_shr 32 255 (by decide) (by decide) n _ hy]
  exact lz_congr (fun i _ => (and_m _ 8).trans (congrArg (· % 2 ^ 8) (shr_d _ 32)))
theorem lz_put {r s : Nat → Nat} {a : Nat → Bool} (hr : ∀ i, r i < 4294967296) (hs : ∀ i, s i ≤ 250) : putY (lO n) (lz n r) (lz n s) (lz n (fun i => ib (a i))) = lz n (fun i => rvF (a i && Nat.ble 4 (s i)) (r i) (s i)) := by
  have b40 : ∀ i, Nat.add (r i) (Nat.mul (s i) 4294967296) < 1099511627776 := fun i => by
    have h1 := hr i
    have h2 := hs i
    generalize r i = a at h1 ⊢
    generalize s i = w at h2 ⊢
    show a + w * 4294967296 < 1099511627776
    omega
  have b9 : ∀ i, Nat.add (s i) 252 < 512 := fun i => by
    have := hs i
    show s i + 252 < 512
    omega
  have b1 : ∀ b : Bool, Nat.mul (ib b) 1099511627775 < 2 ^ 64 := by decide
  unfold putY
  rw [lz_mul, lz_add, lz_c, lz_add, lz_nb1 8 (by decide) (fun i => Nat.lt_trans (b9 i) (by decide)) (fun i => (nbt_ib 8 _).trans (congrArg ib ((l256b _ (b9 i)).trans (ble4 _)))), iv_and, lz_mul, lz_and n _ _ (fun i => Nat.lt_trans (b40 i) (by decide)) (fun i => b1 _)]
  exact lz_congr (fun i _ => msk40 (b40 i) _)
theorem lO_ib : lO n = lz n (fun _ => ib true) := rfl
/-- what goes on from a value y to a value v -/
def goM (N W : Nat → Nat) (y v : Nat) : Prop := 4 ≤ vlS y + smF N W 18 (vlR y) ∧ vlS y + smF N W 18 (vlR y) ≤ 250 ∧ v = itF N 18 (vlR y) + (vlS y + smF N W 18 (vlR y)) * 4294967296
def goZ (N W : Nat → Nat) (K : Nat → Bool) (y v : Nat) : Prop := alF N K 18 (vlR y) true = true ∧ 4 ≤ vlS y + smF N W 18 (vlR y) ∧ v = itF N 18 (vlR y) + (vlS y + smF N W 18 (vlR y)) * 4294967296
theorem mul_stp {a w m M x : Nat} (h1 : x ≤ a + w * M) (ha : a < M) (hw : w < m) : x < m * M := by
  have h2 : (w + 1) * M ≤ m * M := Nat.mul_le_mul_right _ hw
  rw [Nat.add_mul, Nat.one_mul] at h2
  omega
theorem rvF_lt2 {c : Bool} {a w m : Nat} (ha : a < 4294967296) (hw : w < m) : rvF c a w < m * 4294967296 := mul_stp (rvF_le c a w) ha hw
theorem vlS_lt {y m : Nat} (h : y < m * 4294967296) : vlS y < m := by
  unfold vlS
  have : y / 4294967296 < m := Nat.div_lt_of_lt_mul (by rw [Nat.mul_comm]; exact h)
  exact Nat.lt_of_le_of_lt (Nat.mod_le _ _) this
theorem cMA_b : ∀ c ∈ cMA, c ≤ 250 := by decide
theorem cMB_b : ∀ c ∈ cMB, c ≤ 250 := by decide
theorem cZA_b : ∀ c ∈ cZA, c ≤ 250 := by decide
theorem cZB_b : ∀ c ∈ cZB, c ≤ 250 := by decide
theorem phM_ok {N W : Nat → Nat} {K G : Nat → Bool} (th : Bool) (hA : ActF th true n N W K G) (y : Nat → Nat) (hy : ∀ i, y i < 4 * 4294967296) (k : Nat → Bool) (h : phM th (lO n) (lz n y) k = true) :
    (∀ i, i < n → capF N W cMA (vlR (y i)) (vlS (y i))) ∧ ∃ l : Nat → Nat, (∀ i, l i < 251 * 4294967296) ∧ k (lz n l) = true ∧ ∀ i, i < n → ∀ v, goM N W (y i) v → l i = v := by
  have y64 : ∀ i, y i < 2 ^ 64 := fun i => Nat.lt_trans (hy i) (by decide)
  unfold phM at h
  rw [lz_getR y64, lz_getS y64] at h
  obtain ⟨g1, r', s', g2, g3, g4, g5⟩ := runM_ok th hA _ cMA _ _ cMA_b (fun i => vlR_lt _) (fun i => by have := vlS_lt (hy i); omega) h
  rw [show putY (lO n) (lz n r') (lz n s') (lO n) = _ from lz_put (a := fun _ => true) g2 g3] at g5
  refine ⟨g1, _, fun i => rvF_lt2 (g2 i) (by have := g3 i; omega), g5, fun i hi v hv => ?_⟩
  obtain ⟨e1, e2⟩ := g4 i hi
  obtain ⟨v1, -, v2⟩ := hv
  have e2 : s' i = vlS (y i) + smF N W 18 (vlR (y i)) := e2
  have e1 : r' i = itF N 18 (vlR (y i)) := e1
  rw [rvF_t (by rw [Bool.true_and, e2]; exact ble_iff.mpr v1), e1, e2]
  exact v2.symm
theorem smF_le {N W : Nat → Nat} (hW : ∀ r, W r ≤ 3) : ∀ t r, smF N W t r ≤ 3 * t
  | 0, _ => Nat.le_refl 0
  | t + 1, r => by
    have h1 := smF_le hW t (N r) (N := N)
    have h2 := hW r
    show W r + smF N W t (N r) ≤ 3 * (t + 1)
    omega
theorem phZ_ok {N W : Nat → Nat} {K G : Nat → Bool} (hA : ActF false false n N W K G) (y : Nat → Nat) (hy : ∀ i, y i < 4 * 4294967296) (k : Nat → Bool) (h : phZ (lO n) (lz n y) k = true) :
    (∀ i, i < n → zF N W K G cZA (vlR (y i)) (vlS (y i)) true) ∧ ∃ l : Nat → Nat, (∀ i, l i < 98 * 4294967296) ∧ k (lz n l) = true ∧ ∀ i, i < n → ∀ v, goZ N W K (y i) v → l i = v := by
  have y64 : ∀ i, y i < 2 ^ 64 := fun i => Nat.lt_trans (hy i) (by decide)
  unfold phZ at h
  rw [lz_getR y64, lz_getS y64] at h
  obtain ⟨g1, r', s', al', g2, g3, g4, g5⟩ := runZ_ok hA _ cZA _ _ (fun _ => true) cZA_b (fun i => vlR_lt _) (fun i => by have := vlS_lt (hy i); show vlS (y i) + 3 * 18 ≤ 250; omega) h
  rw [lz_put g2 g3, lz_cut] at g5
  refine ⟨g1, _, fun i => ?_, g5, fun i hi v hv => ?_⟩
  · unfold cut
    split
    · rename_i hi
      have e2 : s' i = vlS (y i) + smF N W 18 (vlR (y i)) := (g4 i hi).2.1
      have h1 := smF_le hA.2.1 18 (vlR (y i)) (N := N)
      have h2 := vlS_lt (hy i)
      exact rvF_lt2 (g2 i) (by omega)
    · exact (by decide : (0 : Nat) < 98 * 4294967296)
  rw [show cut n _ i = _ from if_pos hi]
  obtain ⟨e1, e2, e3⟩ := g4 i hi
  obtain ⟨v0, v1, v2⟩ := hv
  have e2 : s' i = vlS (y i) + smF N W 18 (vlR (y i)) := e2
  have e1 : r' i = itF N 18 (vlR (y i)) := e1
  have e3 : al' i = alF N K 18 (vlR (y i)) true := e3
  rw [rvF_t (by rw [e3, v0, e2, Bool.true_and]; exact ble_iff.mpr v1), e1, e2]
  exact v2.symm
end
