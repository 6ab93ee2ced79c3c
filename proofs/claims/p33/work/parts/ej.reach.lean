/-! ===== how many messages seventy acts tell to be lost (2) ===== -/
/-- reached behind u acts: the state of the numbers, whether there are payments, and how many messages were told to be lost -/
def Rch (N0 N1 W : Nat → Nat) (K : Nat → Bool) : Nat → Nat → Bool → Nat → Prop
  | 0, _, an, L => an = false ∧ L = 0
  | u + 1, r', an', L' => ∃ r an L, Rch N0 N1 W K u r an L ∧ r' = cond an (N1 r) (N0 r) ∧ L' = L + W r ∧ (an = true → an' = true) ∧ (K r = true → an' = true)
section
variable {N0 N1 W : Nat → Nat} {K G : Nat → Bool}
theorem rch_f : ∀ u r L, Rch N0 N1 W K u r false L → ∃ r0, r = itF N0 u r0 ∧ L = smF N0 W u r0 ∧ alF N0 K u r0 true = true
  | 0, r, L, h => ⟨r, rfl, h.2, rfl⟩
  | u + 1, r', L', h => by
    obtain ⟨r, an, L, h1, h2, h3, h4, h5⟩ := h
    cases an with
    | true => cases h4 rfl
    | false =>
      obtain ⟨r0, e1, e2, e3⟩ := rch_f u r L h1
      refine ⟨r0, ?_, ?_, ?_⟩
      · rw [itF_add, ← e1]
        exact h2
      · rw [smF_add, ← e1, ← e2]
        exact h3
      · rw [alF_add, ← e1, e3]
        cases e : K r with
        | true => exact absurd (h5 e) (by decide)
        | false => show (true && !K r) = true; rw [e]; rfl
theorem rch_t : ∀ u r L, Rch N0 N1 W K u r true L → ∃ r0 k m, u = k + m ∧ alF N0 K (k - 1) r0 true = true ∧ r = itF N1 m (itF N0 k r0) ∧ L = smF N0 W k r0 + smF N1 W m (itF N0 k r0)
  | 0, r, L, h => by cases h.1
  | u + 1, r', L', h => by
    obtain ⟨r, an, L, h1, h2, h3, h4, h5⟩ := h
    cases an with
    | true =>
      obtain ⟨r0, k, m, e0, e1, e2, e3⟩ := rch_t u r L h1
      refine ⟨r0, k, m + 1, by omega, e1, ?_, ?_⟩
      · rw [itF_add m 1, ← e2]
        exact h2
      · rw [smF_add m 1, ← e2, ← Nat.add_assoc, ← e3]
        exact h3
    | false =>
      obtain ⟨r0, e1, e2, e3⟩ := rch_f u r L h1
      refine ⟨r0, u + 1, 0, rfl, e3, ?_, ?_⟩
      · show r' = itF N0 (u + 1) r0
        rw [itF_add, ← e1]
        exact h2
      · show L' = smF N0 W (u + 1) r0 + 0
        rw [smF_add, ← e1, ← e2]
        exact h3
theorem alF_pre {k r} (h : alF N0 K k r true = true) : alF N0 K (k - 1) r true = true := by
  cases k with
  | zero => exact h
  | succ k =>
    rw [alF_add] at h
    exact alF_t h
theorem split37 (hW : ∀ r, W r ≤ 3) (hM : ∀ r, W r ≠ 0 → winM N1 W r) (hZ : ∀ r, W r ≠ 0 → winZ N0 W K G r) (hG : ∀ r, G r = false → N0 r = N1 r) (hG0 : ∀ r, G r = true → W r = 0) (r0 : Nat) : ∀ k m, k + m ≤ 70 → alF N0 K (k - 1) r0 true = true → smF N0 W k r0 + smF N1 W m (itF N0 k r0) ≤ 37 := by
  intro k
  induction k with
  | zero =>
    intro m hm _
    have h1 := claimM hW hM m m (Nat.le_refl _) (by omega) (itF N0 0 r0)
    have h2 := tM_le 70 m (by omega) (by omega)
    have h3 := tM70
    show 0 + _ ≤ 37
    omega
  | succ k ih =>
    intro m hm ha
    have ha : alF N0 K k r0 true = true := ha
    rw [smF_add, itF_add]
    show smF N0 W k r0 + (W (itF N0 k r0) + 0) + smF N1 W m (N0 (itF N0 k r0)) ≤ 37
    cases e : G (itF N0 k r0) with
    | true =>
      have h1 := claimZ hZ k k (Nat.le_refl _) (by omega) r0 ha e
      have h2 := claimM hW hM m m (Nat.le_refl _) (by omega) (N0 (itF N0 k r0))
      have h3 := tM_le (70 - (k + 1)) m (by omega) (by omega)
      have h4 := tMZ (k + 1) (by omega)
      rw [hG0 _ e]
      omega
    | false =>
      have h1 := ih (m + 1) (by omega) (alF_pre ha)
      have h2 : smF N1 W (m + 1) (itF N0 k r0) = W (itF N0 k r0) + smF N1 W m (N1 (itF N0 k r0)) := rfl
      rw [h2] at h1
      rw [hG _ e]
      omega
theorem rch_37 (hW : ∀ r, W r ≤ 3) (hM : ∀ r, W r ≠ 0 → winM N1 W r) (hZ : ∀ r, W r ≠ 0 → winZ N0 W K G r) (hG : ∀ r, G r = false → N0 r = N1 r) (hG0 : ∀ r, G r = true → W r = 0) {u r : Nat} {an : Bool} {L : Nat} (hu : u ≤ 70) (h : Rch N0 N1 W K u r an L) : L ≤ 37 := by
  cases an with
  | true =>
    obtain ⟨r0, k, m, e0, e1, e2, e3⟩ := rch_t u r L h
    rw [e3]
    exact split37 hW hM hZ hG hG0 r0 k m (by omega) e1
  | false =>
    obtain ⟨r0, e1, e2, e3⟩ := rch_f u r L h
    have := split37 hW hM hZ hG hG0 r0 u 0 (by omega) (alF_pre e3)
    rw [e2]
    exact this
end
/-! the law's own numbers -/
theorem aWf_ne {m d w : Nat} (h : aWf m d w ≠ 0) : m = 15 ∧ d = 0 ∧ aWf m d w = w ∧ w ≠ 0 := by
  unfold aWf at h ⊢
  by_cases e : m = 15 ∧ d = 0
  · rw [if_pos e] at h ⊢
    exact ⟨e.1, e.2, rfl, h⟩
  · rw [if_neg e] at h
    exact absurd rfl h
theorem aW_ne {r : Nat} (h : aW r ≠ 0) : rS r / 512 % 22 = 15 ∧ rS (rS (rS (rS r))) / 512 % 3 = 0 ∧ aW r = rS (rS (rS (rS (rS r)))) / 512 % 4 ∧ rS (rS (rS (rS (rS r)))) / 512 % 4 ≠ 0 := aWf_ne h
theorem selB_15 (th any z3 z4 e2 : Bool) (a2 a3 a4 a5 a6 a7 a8 : Nat) : selB th any 15 z3 z4 e2 a2 a3 a4 a5 a6 a7 a8 = a5 := rfl
theorem aN_15 (th any : Bool) {r : Nat} (h : rS r / 512 % 22 = 15) : aN th any r = rS (rS (rS (rS (rS r)))) := by
  rw [← aN_sel, h]
  exact selB_15 ..
theorem rv_w (th any : Bool) {r : Nat} (h : aW r ≠ 0) : rv (rS r) = aN th any r + aW r * 4294967296 := by
  obtain ⟨h1, h2, h3, h4⟩ := aW_ne h
  have e : (Nat.beq (rS (rS (rS (rS r))) / 512 % 3) 0 && !Nat.beq (rS (rS (rS (rS (rS r)))) / 512 % 4) 0) = true := by
    rw [h2]
    cases q : Nat.beq (rS (rS (rS (rS (rS r)))) / 512 % 4) 0 with
    | true => exact absurd (beq_iff.mp q) h4
    | false => rfl
  rw [aN_15 th any h1, h3]
  exact rvF_t e
theorem wq_of {x : Nat} (hx : x < 4294967296) (h : x / 512 % 22 = 15) : ∃ u q low, u < 2542 ∧ q < 150 ∧ low < 512 ∧ wq (Nat.mul 150 u) q low = x := by
  refine ⟨x / 512 / 22 / 150, x / 512 / 22 % 150, x % 512, by omega, by omega, by omega, ?_⟩
  show 512 * (22 * (150 * (x / 512 / 22 / 150) + x / 512 / 22 % 150) + 15) + x % 512 = x
  omega
theorem lan_win {N W : Nat → Nat} (hW : ∀ r, W r ≤ 3) {r : Nat} (hN : N r < 4294967296) (h : lanM N W (N r + W r * 4294967296)) (hI : ∀ t x, itF N (t + 1) x < 4294967296) : winM N W r := by
  obtain ⟨h1, h2⟩ := h
  have w := hW r
  rw [vl_R hN, vl_S hN (by omega)] at h1
  refine ⟨h1, fun h4 => ?_⟩
  have h3 := smF_le hW 18 (N r) (N := N)
  have := h2 (itF N 18 (N r) + (W r + smF N W 18 (N r)) * 4294967296) (by
    unfold goM
    rw [vl_R hN, vl_S hN (by omega)]
    exact ⟨h4, by omega, rfl⟩)
  rw [vl_R (hI 17 _), vl_S (hI 17 _) (by omega)] at this
  exact this
theorem lan_winZ {N W : Nat → Nat} {K G : Nat → Bool} (hW : ∀ r, W r ≤ 3) {r : Nat} (hN : N r < 4294967296) (h : lanZ N W K G (N r + W r * 4294967296)) (hI : ∀ t x, itF N (t + 1) x < 4294967296) : winZ N W K G r := by
  obtain ⟨h1, h2⟩ := h
  have w := hW r
  rw [vl_R hN, vl_S hN (by omega)] at h1
  refine ⟨h1, fun h0 h4 => ?_⟩
  have h3 := smF_le hW 18 (N r) (N := N)
  have := h2 (itF N 18 (N r) + (W r + smF N W 18 (N r)) * 4294967296) (by
    unfold goZ
    rw [vl_R hN, vl_S hN (by omega)]
    exact ⟨h0, h4, rfl⟩)
  rw [vl_R (hI 17 _), vl_S (hI 17 _) (by omega)] at this
  exact this
theorem itF_lt {N : Nat → Nat} (hN : ∀ r, N r < 4294967296) : ∀ t x, itF N (t + 1) x < 4294967296
  | 0, x => hN x
  | t + 1, x => itF_lt hN t (N x)
def ALLU : Prop := ∀ u, u < 2542 → chk u = true
theorem lanes_all (H : ALLU) {r : Nat} (h : aW r ≠ 0) : lanM (aN false true) aW (rv (rS r)) ∧ lanM (aN true true) aW (rv (rS r)) ∧ lanZ (aN false false) aW aKb aGb (rv (rS r)) := by
  obtain ⟨u, q, low, hu, hq, hl, e⟩ := wq_of (rS_lt r) (aW_ne h).1
  have h0 : rv (rS r) ≠ 0 := by
    rw [rv_w false false h]
    intro e0
    have := Nat.eq_zero_of_add_eq_zero_left e0
    rcases Nat.mul_eq_zero.mp this with h3 | h3
    · exact h h3
    · cases h3
  rw [← e] at h0 ⊢
  exact chk_ok hu (H u hu) q low hq hl h0
theorem selB_nG (th z3 z4 e2 : Bool) {m : Nat} (a2 a3 a4 a5 a6 a7 a8 : Nat) (h1 : m ≠ 20) (h2 : m ≠ 21) (hm : m < 22) : selB false false m z3 z4 e2 a2 a3 a4 a5 a6 a7 a8 = selB th true m z3 z4 e2 a2 a3 a4 a5 a6 a7 a8 := by
  unfold selB
  split
  · rfl
  split
  · rfl
  split
  · rfl
  split
  · rfl
  split
  · rfl
  split
  · rfl
  split
  · rfl
  split
  · rfl
  · omega
theorem aN_nG (th : Bool) {r : Nat} (h : aGb r = false) : aN false false r = aN th true r := by
  unfold aGb at h
  rw [Bool.or_eq_false_iff] at h
  rw [← aN_sel, ← aN_sel]
  exact selB_nG th _ _ _ _ _ _ _ _ _ _ (fun e => by rw [e] at h; cases h.1) (fun e => by rw [e] at h; cases h.2) (Nat.mod_lt _ (by decide))
theorem aW_G {r : Nat} (h : aGb r = true) : aW r = 0 := by
  by_cases e : aW r = 0
  · exact e
  · have := (aW_ne e).1
    unfold aGb at h
    rw [this] at h
    cases h
theorem win_a (H : ALLU) (th : Bool) (r : Nat) (h : aW r ≠ 0) : winM (aN th true) aW r := by
  have q := lanes_all H h
  cases th
  · have q1 := q.1
    rw [rv_w false true h] at q1
    exact lan_win aW_le (aN_lt _ _ _) q1 (itF_lt (aN_lt _ _))
  · have q1 := q.2.1
    rw [rv_w true true h] at q1
    exact lan_win aW_le (aN_lt _ _ _) q1 (itF_lt (aN_lt _ _))
theorem win_z (H : ALLU) (r : Nat) (h : aW r ≠ 0) : winZ (aN false false) aW aKb aGb r := by
  have q1 := (lanes_all H h).2.2
  rw [rv_w false false h] at q1
  exact lan_winZ aW_le (aN_lt _ _ _) q1 (itF_lt (aN_lt _ _))
/-- seventy acts tell at most 37 messages to be lost -/
theorem acts_37 (H : ALLU) (th : Bool) {u r : Nat} {an : Bool} {L : Nat} (hu : u ≤ 70) (h : Rch (aN false false) (aN th true) aW aKb u r an L) : L ≤ 37 :=
  rch_37 (G := aGb) aW_le (win_a H th) (win_z H) (fun _ h => aN_nG th h) (fun _ h => aW_G h) hu h
