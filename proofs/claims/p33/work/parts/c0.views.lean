/-! ===== what the invariants speak of: lines, sums ===== -/
theorem laid_mem {k td : Int32} {g : Nat → Int32} {e : Ent} (h : e ∈ laid k td g) : e.2 = g ∧ (e.1 = td ∨ e.1 = td + 4) := by
  unfold laid at h
  by_cases h0 : k = 0
  · rw [if_pos h0] at h
    exact absurd h (List.not_mem_nil)
  · rw [if_neg h0] at h
    by_cases h1 : k = 1
    · rw [if_pos h1] at h
      simp only [List.mem_cons, List.not_mem_nil, or_false, or_self] at h
      rw [h]
      exact ⟨rfl, Or.inl rfl⟩
    · rw [if_neg h1] at h
      simp only [List.mem_cons, List.not_mem_nil, or_false] at h
      rw [h]
      refine ⟨rfl, ?_⟩
      by_cases h2 : k = 2
      · exact Or.inr (if_pos h2)
      · exact Or.inl (if_neg h2)
theorem laid_same {k td : Int32} {g : Nat → Int32} {e e' : Ent} (h : e ∈ laid k td g) (h' : e' ∈ laid k td g) : e.1 = e'.1 := by
  unfold laid at h h'
  by_cases h0 : k = 0
  · rw [if_pos h0] at h
    exact absurd h (List.not_mem_nil)
  · rw [if_neg h0] at h h'
    by_cases h1 : k = 1
    · rw [if_pos h1] at h h'
      simp only [List.mem_cons, List.not_mem_nil, or_false, or_self] at h h'
      rw [h, h']
    · rw [if_neg h1] at h h'
      simp only [List.mem_cons, List.not_mem_nil, or_false] at h h'
      rw [h, h']
/-- a put is lost, and one fewer is told to be, or an entry is laid -/
theorem laid_lost (f : Nat → Int32) (td : Int32) (g : Nat → Int32) : (0 < f 0 ∧ laid (fK f) td g = [] ∧ fR f 0 = f 0 - 1) ∨ (¬ 0 < f 0 ∧ (∃ e, e ∈ laid (fK f) td g) ∧ fR f 0 = f 0) := by
  unfold fK fR
  by_cases h0 : f 0 ≤ 0
  · refine Or.inr ⟨Int32.not_lt.mpr h0, ?_, ?_⟩
    · rw [if_pos h0]
      by_cases h1 : f 1 ≤ 0
      · rw [if_pos h1]
        by_cases h2 : f 2 ≤ 0
        · rw [if_pos h2]
          exact ⟨_, List.mem_cons_self⟩
        · rw [if_neg h2]
          exact ⟨_, List.mem_cons_self⟩
      · rw [if_neg h1]
        exact ⟨_, List.mem_cons_self⟩
    · rw [if_pos h0]
      by_cases h1 : f 1 ≤ 0
      · rw [if_pos h1]
        by_cases h2 : f 2 ≤ 0
        · rw [if_pos h2]
        · rw [if_neg h2, if_neg (by decide)]
      · rw [if_neg h1, if_neg (by decide)]
  · refine Or.inl ⟨Int32.not_le.mp h0, ?_, ?_⟩
    · rw [if_neg h0]
      rfl
    · rw [if_neg h0, if_pos rfl]
/-- a put on a line -/
def PutL (b b' : TS) (n c : Nat) (g : Nat → Int32) : Prop := vQ b' c = vQ b c ++ laid (fK (tI b 48 c)) (tI b 95 0 1 + tI b 95 0 2) g ∧ tI b' 48 c = fR (tI b 48 c) ∧ ∀ c', c' < n → c' ≠ c → vQ b' c' = vQ b c' ∧ tI b' 48 c' = tI b 48 c'
theorem PutL_mem {b b' : TS} {n c : Nat} {g : Nat → Int32} (h : PutL b b' n c g) {c' : Nat} (hc : c' < n) {e : Ent} (he : e ∈ vQ b' c') : e ∈ vQ b c' ∨ (c' = c ∧ e.2 = g ∧ (e.1 = tI b 95 0 1 + tI b 95 0 2 ∨ e.1 = tI b 95 0 1 + tI b 95 0 2 + 4)) := by
  by_cases q : c' = c
  · subst q
    rw [h.1] at he
    rcases List.mem_append.mp he with w | w
    · exact Or.inl w
    · exact Or.inr ⟨rfl, laid_mem w⟩
  · rw [(h.2.2 c' hc q).1] at he
    exact Or.inl he
theorem PutL_old {b b' : TS} {n c : Nat} {g : Nat → Int32} (h : PutL b b' n c g) {c' : Nat} (hc : c' < n) {e : Ent} (he : e ∈ vQ b c') : e ∈ vQ b' c' := by
  by_cases q : c' = c
  · subst q
    rw [h.1]
    exact List.mem_append_left _ he
  · rw [(h.2.2 c' hc q).1]
    exact he
/-! sums of longs, of ints -/
def S64 (f : Nat → Int64) : Nat → Int64
  | 0 => 0
  | n + 1 => S64 f n + f n
theorem S64_eq {f g : Nat → Int64} : ∀ n, (∀ k, k < n → f k = g k) → S64 f n = S64 g n
  | 0, _ => rfl
  | n + 1, h => by
    show S64 f n + f n = S64 g n + g n
    rw [S64_eq n (fun k hk => h k (by omega)), h n (by omega)]
theorem S64_upd {f g : Nat → Int64} {p : Nat} : ∀ n, p < n → (∀ k, k < n → k ≠ p → g k = f k) → S64 g n = S64 f n + (g p - f p)
  | 0, hp, _ => absurd hp (Nat.not_lt_zero _)
  | n + 1, hp, h => by
    show S64 g n + g n = S64 f n + f n + (g p - f p)
    by_cases e : p = n
    · subst e
      rw [S64_eq p (fun k hk => h k (by omega) (by omega))]
      grind
    · rw [S64_upd n (by omega) (fun k hk hne => h k (by omega) hne), h n (by omega) (fun q => e q.symm)]
      grind
theorem S64_0 {f : Nat → Int64} : ∀ n, (∀ k, k < n → f k = 0) → S64 f n = 0
  | 0, _ => rfl
  | n + 1, h => by
    show S64 f n + f n = 0
    rw [S64_0 n (fun k hk => h k (by omega)), h n (by omega)]
    rfl
theorem S64_le {f : Nat → Int64} {m : Nat} : ∀ n, m ≤ n → (∀ k, m ≤ k → k < n → f k = 0) → S64 f n = S64 f m
  | 0, hm, _ => by rw [Nat.le_zero.mp hm]
  | n + 1, hm, h => by
    by_cases e : m = n + 1
    · rw [e]
    · show S64 f n + f n = S64 f m
      rw [S64_le n (by omega) (fun k h1 h2 => h k h1 (by omega)), h n (by omega) (by omega), Int64.add_zero]
theorem S64_add {f g h : Nat → Int64} : ∀ n, (∀ k, k < n → h k = f k + g k) → S64 h n = S64 f n + S64 g n
  | 0, _ => rfl
  | n + 1, e => by
    show S64 h n + h n = S64 f n + f n + (S64 g n + g n)
    rw [S64_add n (fun k hk => e k (by omega)), e n (by omega)]
    grind
def SI (f : Nat → Int) : Nat → Int
  | 0 => 0
  | n + 1 => SI f n + f n
theorem SI_eq {f g : Nat → Int} : ∀ n, (∀ k, k < n → f k = g k) → SI f n = SI g n
  | 0, _ => rfl
  | n + 1, h => by
    show SI f n + f n = SI g n + g n
    rw [SI_eq n (fun k hk => h k (by omega)), h n (by omega)]
theorem SI_upd {f g : Nat → Int} {p : Nat} : ∀ n, p < n → (∀ k, k < n → k ≠ p → g k = f k) → SI g n = SI f n + (g p - f p)
  | 0, hp, _ => absurd hp (Nat.not_lt_zero _)
  | n + 1, hp, h => by
    show SI g n + g n = SI f n + f n + (g p - f p)
    by_cases e : p = n
    · subst e
      rw [SI_eq p (fun k hk => h k (by omega) (by omega))]
      omega
    · rw [SI_upd n (by omega) (fun k hk hne => h k (by omega) hne), h n (by omega) (fun q => e q.symm)]
      omega
theorem SI_nn {f : Nat → Int} : ∀ n, (∀ k, k < n → 0 ≤ f k) → 0 ≤ SI f n
  | 0, _ => Int.le_refl _
  | n + 1, h => by
    have := SI_nn n (fun k hk => h k (by omega))
    have := h n (by omega)
    show 0 ≤ SI f n + f n
    omega
theorem SI_at {f : Nat → Int} {p : Nat} : ∀ n, p < n → (∀ k, k < n → 0 ≤ f k) → f p ≤ SI f n
  | 0, hp, _ => absurd hp (Nat.not_lt_zero _)
  | n + 1, hp, h => by
    show f p ≤ SI f n + f n
    by_cases e : p = n
    · subst e
      have := SI_nn p (fun k hk => h k (by omega))
      omega
    · have := SI_at (f := f) (p := p) n (by omega) (fun k hk => h k (by omega))
      have := h n (by omega)
      omega
theorem SI_le {f : Nat → Int} {B : Int} : ∀ n, (∀ k, k < n → f k ≤ B) → SI f n ≤ n * B
  | 0, _ => by simp [SI]
  | n + 1, h => by
    have := SI_le n (fun k hk => h k (by omega))
    have := h n (by omega)
    show SI f n + f n ≤ ((n + 1 : Nat) : Int) * B
    rw [Int.natCast_add, Int.add_mul]
    have : ((1 : Nat) : Int) * B = B := by rw [Int.natCast_one, Int.one_mul]
    omega
/-- an injection counts -/
theorem cnt_inj {P Q : Nat → Bool} {M : Nat} (f : Nat → Nat) : ∀ N, (∀ n, n < N → P n = true → f n < M ∧ Q (f n) = true) → (∀ n n', n < N → n' < N → P n = true → P n' = true → f n = f n' → n = n') → (List.range N).countP P ≤ (List.range M).countP Q := by
  intro N
  induction N generalizing Q with
  | zero => intro _ _; simp
  | succ N ih =>
    intro h1 h2
    rw [List.range_succ, List.countP_append, List.countP_singleton]
    by_cases e : P N = true
    · rw [if_pos e]
      obtain ⟨q1, q2⟩ := h1 N (by omega) e
      have := ih (Q := fun p => Q p && !(p == f N)) (fun n hn hp => by
        obtain ⟨w1, w2⟩ := h1 n (by omega) hp
        refine ⟨w1, ?_⟩
        have : f n ≠ f N := fun q => by
          have := h2 n N (by omega) (by omega) hp e q
          omega
        rw [w2, Bool.true_and, beq_eq_false_iff_ne.mpr this]
        rfl) (fun n n' hn hn' => h2 n n' (by omega) (by omega))
      have key : ∀ M, f N < M → (List.range M).countP (fun p => Q p && !(p == f N)) + 1 = (List.range M).countP Q := by
        intro M
        induction M with
        | zero => intro h; omega
        | succ M ihM =>
          intro hM
          rw [List.range_succ, List.countP_append, List.countP_append, List.countP_singleton, List.countP_singleton]
          by_cases e2 : f N = M
          · have c0 : (List.range M).countP (fun p => Q p && !(p == f N)) = (List.range M).countP Q := List.countP_congr (fun p hp => by
              have := List.mem_range.mp hp
              have : p ≠ f N := by omega
              rw [beq_eq_false_iff_ne.mpr this, Bool.not_false, Bool.and_true])
            rw [c0, if_neg (by rw [e2, beq_self_eq_true, Bool.not_true, Bool.and_false]; decide), if_pos (by rw [← e2]; exact q2)]
          · have e3 : (Q M && !(M == f N)) = Q M := by rw [beq_eq_false_iff_ne.mpr (fun q => e2 q.symm), Bool.not_false, Bool.and_true]
            rw [e3]
            have := ihM (by omega)
            omega
      have := key M q1
      omega
    · rw [if_neg e]
      exact ih (fun n hn => h1 n (by omega)) (fun n n' hn hn' => h2 n n' (by omega) (by omega))
