/-! ===== what a run leaves as it was, by fields ===== -/
def chF (D : List Nat) (F : List (Nat × Nat)) (a a' : TS) : Prop := ∀ s, s ∉ D → (∀ i k, (s, k) ∉ F → tI a' s i k = tI a s i k) ∧ (∀ i k, (s, k) ∉ F → tL a' s i k = tL a s i k) ∧ (∀ i k, tR a' s i k = tR a s i k) ∧ tN a' s = tN a s ∧ (∀ i, tZ a' s i = tZ a s i) ∧ ∀ i, tC a' s i = tC a s i
theorem chF_r (D : List Nat) (F : List (Nat × Nat)) (a : TS) : chF D F a a := fun _ _ => ⟨fun _ _ _ => rfl, fun _ _ _ => rfl, fun _ _ => rfl, rfl, fun _ => rfl, fun _ => rfl⟩
theorem chF_t {D : List Nat} {F : List (Nat × Nat)} {a b c : TS} (h1 : chF D F a b) (h2 : chF D F b c) : chF D F a c := fun s hs => by
  obtain ⟨a1, a2, a3, a4, a5, a6⟩ := h1 s hs
  obtain ⟨b1, b2, b3, b4, b5, b6⟩ := h2 s hs
  exact ⟨fun i k h => (b1 i k h).trans (a1 i k h), fun i k h => (b2 i k h).trans (a2 i k h), fun i k => (b3 i k).trans (a3 i k), b4.trans a4, fun i => (b5 i).trans (a5 i), fun i => (b6 i).trans (a6 i)⟩
theorem chF_m {D D' : List Nat} {F F' : List (Nat × Nat)} {a b : TS} (h : chF D F a b) (hD : ∀ s ∈ D, s ∈ D') (hF : ∀ q ∈ F, q ∈ F' ∨ q.1 ∈ D') : chF D' F' a b := fun s hs => by
  obtain ⟨a1, a2, a3, a4, a5, a6⟩ := h s (fun q => hs (hD s q))
  exact ⟨fun i k hk => a1 i k (fun q => (hF _ q).elim hk (fun z => hs z)), fun i k hk => a2 i k (fun q => (hF _ q).elim hk (fun z => hs z)), a3, a4, a5, a6⟩
theorem chF_g {D : List Nat} {F : List (Nat × Nat)} {a b : TS} (h : chg D a b) : chF D F a b := fun s hs => by
  obtain ⟨a1, a2, a3, a4, a5, a6⟩ := h s hs
  exact ⟨fun i k _ => a1 i k, fun i k _ => a2 i k, a3, a4, a5, a6⟩
theorem chF_I {D : List Nat} {F : List (Nat × Nat)} {a b : TS} {s i k : Nat} {v : Int32} (hs : s ∈ D ∨ (s, k) ∈ F) (h : chF D F a b) : chF D F a (sI b s i k v) := chF_t h (fun t ht => by
  refine ⟨fun i' k' hk => (tI_sI ..).trans (if_neg (fun q => ?_)), fun _ _ _ => rfl, fun _ _ => rfl, rfl, fun _ => rfl, fun _ => rfl⟩
  rcases hs with h | h
  · exact ht (q.1 ▸ h)
  · exact hk (by rw [q.1, q.2.2]; exact h))
theorem chF_L {D : List Nat} {F : List (Nat × Nat)} {a b : TS} {s i k : Nat} {v : Int64} (hs : s ∈ D ∨ (s, k) ∈ F) (h : chF D F a b) : chF D F a (sL b s i k v) := chF_t h (fun t ht => by
  refine ⟨fun _ _ _ => rfl, fun i' k' hk => (tL_sL ..).trans (if_neg (fun q => ?_)), fun _ _ => rfl, rfl, fun _ => rfl, fun _ => rfl⟩
  rcases hs with h | h
  · exact ht (q.1 ▸ h)
  · exact hk (by rw [q.1, q.2.2]; exact h))
theorem chF_R {D : List Nat} {F : List (Nat × Nat)} {a b : TS} {s i k : Nat} {v : Option (Nat × Nat)} (hs : s ∈ D) (h : chF D F a b) : chF D F a (sR b s i k v) := chF_t h (chF_g (chg_sR hs (chg_r _ _)))
/-- does a part that rests on the sites S and the fields P stand -/
def dpk (D : List Nat) (F : List (Nat × Nat)) (S : List Nat) (P : List (Nat × Nat)) : Bool := S.all (fun s => !D.contains s && F.all (fun q => !Nat.beq q.1 s)) && P.all (fun q => !D.contains q.1 && !F.contains q)
theorem dpk_S {D : List Nat} {F : List (Nat × Nat)} {S : List Nat} {P : List (Nat × Nat)} (h : dpk D F S P = true) {s : Nat} (hs : s ∈ S) : s ∉ D ∧ ∀ k, (s, k) ∉ F := by
  unfold dpk at h
  rw [Bool.and_eq_true] at h
  have h1 := List.all_eq_true.mp h.1 s hs
  rw [Bool.and_eq_true] at h1
  refine ⟨fun q => ?_, fun k q => ?_⟩
  · have := h1.1
    rw [List.contains_iff_mem.mpr q] at this
    cases this
  · have := List.all_eq_true.mp h1.2 _ q
    dsimp only at this
    rw [beq_tt rfl] at this
    cases this
theorem dpk_P {D : List Nat} {F : List (Nat × Nat)} {S : List Nat} {P : List (Nat × Nat)} (h : dpk D F S P = true) {q : Nat × Nat} (hq : q ∈ P) : q.1 ∉ D ∧ q ∉ F := by
  unfold dpk at h
  rw [Bool.and_eq_true] at h
  have h1 := List.all_eq_true.mp h.2 q hq
  rw [Bool.and_eq_true] at h1
  refine ⟨fun z => ?_, fun z => ?_⟩
  · have := h1.1
    rw [List.contains_iff_mem.mpr z] at this
    cases this
  · have := h1.2
    rw [List.contains_iff_mem.mpr z] at this
    cases this
variable {D : List Nat} {F : List (Nat × Nat)} {S : List Nat} {P : List (Nat × Nat)} {a a' : TS}
theorem dI (h : chF D F a a') (hd : dpk D F S P = true) {s k : Nat} (hs : (s, k) ∈ P) : ∀ i, tI a' s i k = tI a s i k := fun i => ((h s (dpk_P hd hs).1).1 i k (dpk_P hd hs).2)
theorem dL (h : chF D F a a') (hd : dpk D F S P = true) {s k : Nat} (hs : (s, k) ∈ P) : ∀ i, tL a' s i k = tL a s i k := fun i => ((h s (dpk_P hd hs).1).2.1 i k (dpk_P hd hs).2)
theorem dIS (h : chF D F a a') (hd : dpk D F S P = true) {s : Nat} (hs : s ∈ S) : ∀ i k, tI a' s i k = tI a s i k := fun i k => ((h s (dpk_S hd hs).1).1 i k ((dpk_S hd hs).2 k))
theorem dLS (h : chF D F a a') (hd : dpk D F S P = true) {s : Nat} (hs : s ∈ S) : ∀ i k, tL a' s i k = tL a s i k := fun i k => ((h s (dpk_S hd hs).1).2.1 i k ((dpk_S hd hs).2 k))
theorem dR (h : chF D F a a') (hd : dpk D F S P = true) {s : Nat} (hs : s ∈ S) : ∀ i k, tR a' s i k = tR a s i k := (h s (dpk_S hd hs).1).2.2.1
theorem dN (h : chF D F a a') (hd : dpk D F S P = true) {s : Nat} (hs : s ∈ S) : tN a' s = tN a s := (h s (dpk_S hd hs).1).2.2.2.1
theorem dZ (h : chF D F a a') (hd : dpk D F S P = true) {s : Nat} (hs : s ∈ S) : ∀ i, tZ a' s i = tZ a s i := (h s (dpk_S hd hs).1).2.2.2.2.1
theorem dC (h : chF D F a a') (hd : dpk D F S P = true) {s : Nat} (hs : s ∈ S) : ∀ i, tC a' s i = tC a s i := (h s (dpk_S hd hs).1).2.2.2.2.2
theorem dRP (h : chF D F a a') (hd : dpk D F S P = true) {s k : Nat} (hs : (s, k) ∈ P) : ∀ i k', tR a' s i k' = tR a s i k' := (h s (dpk_P hd hs).1).2.2.1
theorem dNP (h : chF D F a a') (hd : dpk D F S P = true) {s k : Nat} (hs : (s, k) ∈ P) : tN a' s = tN a s := (h s (dpk_P hd hs).1).2.2.2.1
theorem dZP (h : chF D F a a') (hd : dpk D F S P = true) {s k : Nat} (hs : (s, k) ∈ P) : ∀ i, tZ a' s i = tZ a s i := (h s (dpk_P hd hs).1).2.2.2.2.1
