/-! ===== the reading of a text, as a function of its signs g and its length L ===== -/
def rwN (g : Nat → Nat) (L lo hi : Nat) : Nat → Nat → Nat
  | 0, i => i
  | k + 1, i => if i < L ∧ lo ≤ g i ∧ g i ≤ hi then rwN g L lo hi k (i + 1) else i
/-- the place behind the row of such signs -/
def rE (g : Nat → Nat) (L lo hi i : Nat) : Nat := rwN g L lo hi (L - i) i
theorem rE_in {g : Nat → Nat} {L lo hi i : Nat} (h : i < L ∧ lo ≤ g i ∧ g i ≤ hi) : rE g L lo hi i = rE g L lo hi (i + 1) := by
  unfold rE
  rw [show L - i = (L - (i + 1)) + 1 by omega]
  show (if i < L ∧ lo ≤ g i ∧ g i ≤ hi then _ else _) = _
  rw [if_pos h]
theorem rE_out {g : Nat → Nat} {L lo hi i : Nat} (h : ¬ (i < L ∧ lo ≤ g i ∧ g i ≤ hi)) : rE g L lo hi i = i := by
  unfold rE
  cases L - i with
  | zero => rfl
  | succ k => exact if_neg h
theorem rwN_ge (g : Nat → Nat) (L lo hi : Nat) : ∀ k i, i ≤ rwN g L lo hi k i := by
  intro k
  induction k with
  | zero => intro i; exact Nat.le_refl _
  | succ k ih =>
    intro i
    show i ≤ (if i < L ∧ lo ≤ g i ∧ g i ≤ hi then rwN g L lo hi k (i + 1) else i)
    split
    · have := ih (i + 1); omega
    · exact Nat.le_refl _
theorem rwN_le (g : Nat → Nat) (L lo hi : Nat) : ∀ k i, i ≤ L → rwN g L lo hi k i ≤ L := by
  intro k
  induction k with
  | zero => intro i h; exact h
  | succ k ih =>
    intro i h
    show (if i < L ∧ lo ≤ g i ∧ g i ≤ hi then rwN g L lo hi k (i + 1) else i) ≤ L
    split
    · rename_i q; exact ih (i + 1) (by omega)
    · exact h
theorem rE_ge (g : Nat → Nat) (L lo hi i : Nat) : i ≤ rE g L lo hi i := rwN_ge ..
theorem rE_le (g : Nat → Nat) {L lo hi i : Nat} (h : i ≤ L) : rE g L lo hi i ≤ L := rwN_le _ _ _ _ _ _ h
/-- the next token's place; the ends of a word and of a number -/
def tk (g : Nat → Nat) (L p : Nat) : Nat := rE g L 32 32 p
def eW (g : Nat → Nat) (L s : Nat) : Nat := rE g L 97 122 s
def eD (g : Nat → Nat) (L s : Nat) : Nat := rE g L 48 57 s
theorem tk_ge (g : Nat → Nat) (L p : Nat) : p ≤ tk g L p := rE_ge ..
theorem tk_le (g : Nat → Nat) {L p : Nat} (h : p ≤ L) : tk g L p ≤ L := rE_le _ h
theorem eW_ge (g : Nat → Nat) (L p : Nat) : p ≤ eW g L p := rE_ge ..
theorem eW_le (g : Nat → Nat) {L p : Nat} (h : p ≤ L) : eW g L p ≤ L := rE_le _ h
theorem eD_ge (g : Nat → Nat) (L p : Nat) : p ≤ eD g L p := rE_ge ..
theorem eD_le (g : Nat → Nat) {L p : Nat} (h : p ≤ L) : eD g L p ≤ L := rE_le _ h
/-- a number's value -/
def nv (g : Nat → Nat) (s : Nat) : Nat → Int32
  | 0 => 0
  | k + 1 => nv g s k * 10 + Int32.ofNat (g (s + k)) - 48
theorem nv_s (g : Nat → Nat) (s k : Nat) : nv g s (k + 1) = nv g s k * 10 + Int32.ofNat (g (s + k)) - 48 := rfl
/-- the signs from the k-th on are the word's -/
abbrev weq (g : Nat → Nat) (s : Nat) (xs : List Nat) (k : Nat) : Prop := ∀ j, j < xs.length → k ≤ j → g (s + j) = xs.getD j 0
abbrev wm (g : Nat → Nat) (s e : Nat) (xs : List Nat) : Prop := e - s = xs.length ∧ weq g s xs 0
theorem weq_end (g : Nat → Nat) (s : Nat) (xs : List Nat) {k : Nat} (h : xs.length ≤ k) : weq g s xs k := fun j h1 h2 => by omega
theorem weq_s {g : Nat → Nat} {s : Nat} {xs : List Nat} {k : Nat} (h : g (s + k) = xs.getD k 0) : weq g s xs k ↔ weq g s xs (k + 1) := by
  refine ⟨fun q j h1 h2 => q j h1 (by omega), fun q j h1 h2 => ?_⟩
  by_cases e : j = k
  · rw [e]; exact h
  · exact q j h1 (by omega)
theorem weq_n {g : Nat → Nat} {s : Nat} {xs : List Nat} {k : Nat} (hk : k < xs.length) (h : ¬ g (s + k) = xs.getD k 0) : ¬ weq g s xs k := fun q => h (q k hk (Nat.le_refl _))
def fnd (g : Nat → Nat) (s e : Nat) : Nat → Nat → Option Nat
  | 0, _ => none
  | k + 1, i => if wm g s e (wd (i + 1)) then some i else fnd g s e k (i + 1)
theorem fnd_s (g : Nat → Nat) (s e k i : Nat) : fnd g s e (k + 1) i = if wm g s e (wd (i + 1)) then some i else fnd g s e k (i + 1) := rfl
/-- the command of a token -/
def cmdO (g : Nat → Nat) (L s : Nat) : Option Nat := fnd g s (eW g L s) 16 0
def rdNum (g : Nat → Nat) (L p : Nat) : Option (Int32 × Nat) := if eD g L (tk g L p) = tk g L p ∨ 7 < eD g L (tk g L p) - tk g L p then none else some (nv g (tk g L p) (eD g L (tk g L p) - tk g L p), eD g L (tk g L p))
def rdNs (g : Nat → Nat) (L : Nat) : Nat → Nat → Sum Nat (List Int32 × Nat)
  | 0, p => .inr ([], p)
  | k + 1, p => match rdNum g L p with
    | none => .inl (tk g L p)
    | some (v, q) => match rdNs g L k q with
      | .inl f => .inl f
      | .inr (vs, r) => .inr (v :: vs, r)
def rdPin (g : Nat → Nat) (L q : Nat) : Option (Int32 × Nat) := if wm g (tk g L q) (eW g L (tk g L q)) (wd 0) then some (-1, eW g L (tk g L q)) else rdNum g L q
def rdE (g : Nat → Nat) (L q : Nat) : Sum Nat Nat := if tk g L q < L ∧ g (tk g L q) = 59 then .inr (tk g L q + 1) else .inl (tk g L q)
/-- one command: the place of its fault, or the command, its numbers and the place behind it -/
def rdC (g : Nat → Nat) (L p : Nat) : Sum Nat (Nat × List Int32 × Nat) := match cmdO g L (tk g L p) with
  | none => .inl (tk g L p)
  | some c => match rdNs g L (nN c) (eW g L (tk g L p)) with
    | .inl f => .inl f
    | .inr (vs, q) => if c = 3 then (match rdPin g L q with
        | none => .inl (tk g L q)
        | some (v, r) => match rdE g L r with
          | .inl f => .inl f
          | .inr r' => .inr (c, vs ++ [v], r'))
      else match rdE g L q with
        | .inl f => .inl f
        | .inr r' => .inr (c, vs, r')
def rdA (g : Nat → Nat) (L : Nat) : Nat → Nat → Sum Nat (List (Nat × List Int32))
  | 0, _ => .inr []
  | k + 1, p => if tk g L p < L then (match rdC g L p with
      | .inl f => .inl f
      | .inr (c, vs, q) => match rdA g L k q with
        | .inl f => .inl f
        | .inr l => .inr ((c, vs) :: l)) else .inr []
/-! bounds -/
theorem rdNum_b {g : Nat → Nat} {L p q : Nat} {v : Int32} (hp : p ≤ L) (h : rdNum g L p = some (v, q)) : p < q ∧ q ≤ L ∧ q = eD g L (tk g L p) ∧ tk g L p < q ∧ q - tk g L p ≤ 7 ∧ v = nv g (tk g L p) (q - tk g L p) := by
  unfold rdNum at h
  have t1 := tk_ge g L p
  have t2 := tk_le g hp
  have t3 := eD_ge g L (tk g L p)
  have t4 := eD_le g t2
  split at h
  · cases h
  · rename_i e
    cases h
    have e1 : ¬ eD g L (tk g L p) = tk g L p := fun w => e (Or.inl w)
    have e2 : ¬ 7 < eD g L (tk g L p) - tk g L p := fun w => e (Or.inr w)
    exact ⟨by omega, t4, rfl, by omega, by omega, rfl⟩
theorem rdNs_b {g : Nat → Nat} {L : Nat} : ∀ k p vs q, p ≤ L → rdNs g L k p = .inr (vs, q) → p + k ≤ q ∧ q ≤ L ∧ vs.length = k := by
  intro k
  induction k with
  | zero => intro p vs q hp h; cases h; exact ⟨by omega, hp, rfl⟩
  | succ k ih =>
    intro p vs q hp h
    unfold rdNs at h
    split at h
    · cases h
    · rename_i v q' e
      obtain ⟨b1, b2, -⟩ := rdNum_b hp e
      split at h
      · cases h
      · rename_i vs' r e'
        cases h
        obtain ⟨c1, c2, c3⟩ := ih _ _ _ b2 e'
        exact ⟨by omega, c2, by rw [List.length_cons, c3]⟩
theorem rdPin_b {g : Nat → Nat} {L p q : Nat} {v : Int32} (hp : p ≤ L) (h : rdPin g L p = some (v, q)) : p ≤ q ∧ q ≤ L := by
  unfold rdPin at h
  have t1 := tk_ge g L p
  have t2 := tk_le g hp
  have t3 := eW_ge g L (tk g L p)
  have t4 := eW_le g t2
  split at h
  · cases h
    exact ⟨by omega, t4⟩
  · obtain ⟨b1, b2, -⟩ := rdNum_b hp h
    exact ⟨by omega, b2⟩
theorem rdE_b {g : Nat → Nat} {L p q : Nat} (h : rdE g L p = .inr q) : p < q ∧ q ≤ L := by
  unfold rdE at h
  have t1 := tk_ge g L p
  split at h
  · rename_i e
    cases h
    exact ⟨by omega, by omega⟩
  · cases h
theorem fnd_b {g : Nat → Nat} {s e : Nat} : ∀ k i c, fnd g s e k i = some c → i ≤ c ∧ c < i + k ∧ wm g s e (wd (c + 1)) := by
  intro k
  induction k with
  | zero => intro i c h; cases h
  | succ k ih =>
    intro i c h
    rw [fnd_s] at h
    split at h
    · rename_i w
      cases h
      exact ⟨Nat.le_refl _, by omega, w⟩
    · obtain ⟨a, b, c⟩ := ih _ _ h
      exact ⟨by omega, by omega, c⟩
theorem wd_3 {c : Nat} (h : c < 17) : 3 ≤ (wd c).length := by
  have : c = 0 ∨ c = 1 ∨ c = 2 ∨ c = 3 ∨ c = 4 ∨ c = 5 ∨ c = 6 ∨ c = 7 ∨ c = 8 ∨ c = 9 ∨ c = 10 ∨ c = 11 ∨ c = 12 ∨ c = 13 ∨ c = 14 ∨ c = 15 ∨ c = 16 := by omega
  rcases this with e | e | e | e | e | e | e | e | e | e | e | e | e | e | e | e | e <;> subst e <;> decide
theorem cmdO_b {g : Nat → Nat} {L s c : Nat} (h : cmdO g L s = some c) : c < 16 ∧ s + (wd (c + 1)).length = eW g L s ∧ wm g s (eW g L s) (wd (c + 1)) := by
  obtain ⟨-, h2, h3⟩ := fnd_b _ _ _ h
  have t3 := eW_ge g L s
  have := h3.1
  exact ⟨by omega, by omega, h3⟩
theorem rdC_b {g : Nat → Nat} {L p c q : Nat} {vs : List Int32} (hp : p ≤ L) (h : rdC g L p = .inr (c, vs, q)) : c < 16 ∧ p + 4 ≤ q ∧ q ≤ L ∧ (c = 7 → p + 10 ≤ q) ∧ vs.length = (if c = 3 then 4 else nN c) := by
  have t1 := tk_ge g L p
  have t2 := tk_le g hp
  unfold rdC at h
  split at h
  · cases h
  · rename_i c' hc
    obtain ⟨c1, c2, -⟩ := cmdO_b hc
    have c3 := wd_3 (c := c' + 1) (by omega)
    have t4 := eW_le g t2
    split at h
    · cases h
    · rename_i vs' q' hn
      obtain ⟨n1, n2, n3⟩ := rdNs_b _ _ _ _ t4 hn
      split at h
      · rename_i e3
        subst e3
        split at h
        · cases h
        · rename_i v r hpn
          obtain ⟨p1, p2⟩ := rdPin_b n2 hpn
          split at h
          · cases h
          · rename_i r' he
            obtain ⟨e1, e2⟩ := rdE_b he
            cases h
            refine ⟨by omega, by omega, e2, fun w => by omega, ?_⟩
            rw [List.length_append, n3]
            rfl
      · rename_i e3
        split at h
        · cases h
        · rename_i r' he
          obtain ⟨e1, e2⟩ := rdE_b he
          cases h
          refine ⟨c1, by omega, e2, fun w => ?_, by rw [if_neg e3]; exact n3⟩
          subst w
          have w1 : nN 7 = 4 := by decide
          have w2 : (wd (7 + 1)).length = 5 := by decide
          omega
