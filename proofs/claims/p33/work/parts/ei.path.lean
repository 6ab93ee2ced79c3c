/-! ===== how many messages seventy acts tell to be lost ===== -/
def qtM (n : Nat) : Nat := capM.getD n 0
def qtZ (n : Nat) : Nat := capZ.getD n 0
theorem qtM_mono : ∀ n, n < 70 → qtM n ≤ qtM (n + 1) := by decide
theorem qtZ_mono : ∀ n, n < 70 → qtZ n ≤ qtZ (n + 1) := by decide
theorem tM_le : ∀ m n, n ≤ m → m ≤ 70 → qtM n ≤ qtM m
  | 0, n, h, _ => by rw [Nat.le_zero.mp h]; exact Nat.le_refl _
  | m + 1, n, h, hm => by
    by_cases e : n = m + 1
    · rw [e]; exact Nat.le_refl _
    · exact Nat.le_trans (tM_le m n (by omega) (by omega)) (qtM_mono m (by omega))
theorem tM_19 : ∀ n, n < 52 → qtM n + 3 ≤ qtM (n + 19) := by decide
theorem tZ_19 : ∀ n, n < 52 → 1 ≤ n → qtZ n + 3 ≤ qtZ (n + 19) := by decide
theorem tMZ : ∀ k, k < 71 → qtZ k + qtM (70 - k) = 37 := by decide
theorem cMA_t : ∀ t, t < 18 → cMA.getD t 0 = qtM (t + 2) := by decide
theorem cMB_t : ∀ t, t < 51 → cMB.getD t 0 = qtM (t + 20) := by decide
theorem cZA_t : ∀ t, t < 18 → cZA.getD t 0 = qtZ (t + 2) := by decide
theorem cZB_t : ∀ t, t < 51 → cZB.getD t 0 = qtZ (t + 20) := by decide
theorem tM1 : qtM 1 = 3 := by decide
theorem tM70 : qtM 70 ≤ 37 := by decide
section
variable {N W : Nat → Nat} {K G : Nat → Bool}
theorem smF_add : ∀ a b r, smF N W (a + b) r = smF N W a r + smF N W b (itF N a r)
  | 0, b, r => by rw [Nat.zero_add]; exact (Nat.zero_add _).symm
  | a + 1, b, r => by
    rw [show a + 1 + b = (a + b) + 1 by omega]
    show W r + smF N W (a + b) (N r) = W r + smF N W a (N r) + smF N W b (itF N a (N r))
    rw [smF_add a b (N r), Nat.add_assoc]
theorem itF_add : ∀ a b r, itF N (a + b) r = itF N b (itF N a r)
  | 0, b, r => by rw [Nat.zero_add]; rfl
  | a + 1, b, r => by
    rw [show a + 1 + b = (a + b) + 1 by omega]
    exact itF_add a b (N r)
theorem alF_add : ∀ a b r al, alF N K (a + b) r al = alF N K b (itF N a r) (alF N K a r al)
  | 0, b, r, al => by rw [Nat.zero_add]; rfl
  | a + 1, b, r, al => by
    rw [show a + 1 + b = (a + b) + 1 by omega]
    exact alF_add a b (N r) (al && !K r)
theorem alF_f : ∀ a r, alF N K a r false = false
  | 0, _ => rfl
  | a + 1, r => alF_f a (N r)
theorem alF_t {a r} {al : Bool} (h : alF N K a r al = true) : al = true := by
  cases al
  · rw [alF_f] at h; cases h
  · rfl
theorem capF_at : ∀ (cs : List Nat) (r s t : Nat), capF N W cs r s → t < cs.length → s + smF N W (t + 1) r ≤ cs.getD t 0
  | [], _, _, t, _, ht => absurd ht (Nat.not_lt_zero t)
  | c :: cs, r, s, 0, h, _ => by
    show s + (W r + 0) ≤ c
    exact h.1
  | c :: cs, r, s, t + 1, h, ht => by
    have := capF_at cs (N r) (s + W r) t h.2 (Nat.lt_of_succ_lt_succ ht)
    show s + (W r + smF N W (t + 1) (N r)) ≤ cs.getD t 0
    rw [← Nat.add_assoc]
    exact this
theorem zF_at : ∀ (cs : List Nat) (r s : Nat) (al : Bool) (t : Nat), zF N W K G cs r s al → t < cs.length → alF N K t r al = true → G (itF N t r) = true → s + smF N W t r ≤ cs.getD t 0
  | [], _, _, _, t, _, ht, _, _ => absurd ht (Nat.not_lt_zero t)
  | c :: cs, r, s, al, 0, h, _, ha, hg => h.1 hg ha
  | c :: cs, r, s, al, t + 1, h, ht, ha, hg => by
    have := zF_at cs (N r) (s + W r) (al && !K r) t h.2 (Nat.lt_of_succ_lt_succ ht) ha hg
    show s + (W r + smF N W t (N r)) ≤ cs.getD t 0
    rw [← Nat.add_assoc]
    exact this
def winM (N W : Nat → Nat) (r : Nat) : Prop := capF N W cMA (N r) (W r) ∧ (4 ≤ W r + smF N W 18 (N r) → capF N W cMB (itF N 18 (N r)) (W r + smF N W 18 (N r)))
def winZ (N W : Nat → Nat) (K G : Nat → Bool) (r : Nat) : Prop := zF N W K G cZA (N r) (W r) true ∧ (alF N K 18 (N r) true = true → 4 ≤ W r + smF N W 18 (N r) → zF N W K G cZB (itF N 18 (N r)) (W r + smF N W 18 (N r)) true)
theorem claimM (hW : ∀ r, W r ≤ 3) (hw : ∀ r, W r ≠ 0 → winM N W r) : ∀ m n, n ≤ m → n ≤ 70 → ∀ r, smF N W n r ≤ qtM n := by
  intro m
  induction m with
  | zero => intro n h _ r; rw [Nat.le_zero.mp h]; exact Nat.zero_le _
  | succ m ih =>
    intro n h hn r
    cases n with
    | zero => exact Nat.zero_le _
    | succ n =>
      show W r + smF N W n (N r) ≤ qtM (n + 1)
      by_cases e : W r = 0
      · rw [e, Nat.zero_add]
        exact Nat.le_trans (ih n (by omega) (by omega) (N r)) (qtM_mono n (by omega))
      · obtain ⟨h1, h2⟩ := hw r e
        by_cases q0 : n = 0
        · rw [q0, tM1]
          exact hW r
        by_cases q1 : n ≤ 18
        · have := capF_at cMA _ _ (n - 1) h1 (show n - 1 < 18 by omega)
          rw [cMA_t _ (by omega), show n - 1 + 1 = n by omega, show n - 1 + 2 = n + 1 by omega] at this
          exact this
        · obtain ⟨j, rfl⟩ : ∃ j, n = 18 + (j + 1) := ⟨n - 19, by omega⟩
          rw [smF_add, ← Nat.add_assoc]
          by_cases q2 : 4 ≤ W r + smF N W 18 (N r)
          · have := capF_at cMB _ _ j (h2 q2) (show j < 51 by omega)
            rw [cMB_t _ (by omega)] at this
            rw [show 18 + (j + 1) + 1 = j + 20 by omega]
            exact this
          · have h3 := ih (j + 1) (by omega) (by omega) (itF N 18 (N r))
            have h4 := tM_19 (j + 1) (by omega)
            rw [show 18 + (j + 1) + 1 = j + 1 + 19 by omega]
            omega
theorem claimZ (hw : ∀ r, W r ≠ 0 → winZ N W K G r) : ∀ m n, n ≤ m → n < 70 → ∀ r, alF N K n r true = true → G (itF N n r) = true → smF N W n r ≤ qtZ (n + 1) := by
  intro m
  induction m with
  | zero => intro n h _ r _ _; rw [Nat.le_zero.mp h]; exact Nat.zero_le _
  | succ m ih =>
    intro n h hn r ha hg
    cases n with
    | zero => exact Nat.zero_le _
    | succ n =>
      have ha : alF N K n (N r) (true && !K r) = true := ha
      have ha1 := alF_t ha
      rw [ha1] at ha
      have hg : G (itF N n (N r)) = true := hg
      show W r + smF N W n (N r) ≤ qtZ (n + 1 + 1)
      by_cases e : W r = 0
      · rw [e, Nat.zero_add]
        exact Nat.le_trans (ih n (by omega) (by omega) (N r) ha hg) (qtZ_mono _ (by omega))
      · obtain ⟨h1, h2⟩ := hw r e
        by_cases q1 : n < 18
        · have := zF_at cZA _ _ _ n h1 q1 ha hg
          rw [cZA_t _ q1] at this
          exact this
        · obtain ⟨j, rfl⟩ : ∃ j, n = 18 + j := ⟨n - 18, by omega⟩
          rw [alF_add] at ha
          have ha2 := alF_t ha
          rw [ha2] at ha
          rw [itF_add] at hg
          rw [smF_add, ← Nat.add_assoc]
          by_cases q2 : 4 ≤ W r + smF N W 18 (N r)
          · have := zF_at cZB _ _ _ j (h2 ha2 q2) (show j < 51 by omega) ha hg
            rw [cZB_t _ (by omega)] at this
            rw [show 18 + j + 1 + 1 = j + 20 by omega]
            exact this
          · have h3 := ih j (by omega) (by omega) (itF N 18 (N r)) ha hg
            have h4 := tZ_19 (j + 1) (by omega) (by omega)
            rw [show 18 + j + 1 + 1 = j + 1 + 19 by omega]
            omega
end
