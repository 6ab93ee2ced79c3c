/-! ===== money, holds, posted numbers: what holds of them ===== -/
def ctH (b : TS) (t k : Nat) : Int64 := if hI b k 12 = 0 then 0 else if hI b k 13 = Int32.ofNat t then (hI b k 12).toInt64 else 0
theorem sV_S (b : TS) (t : Nat) : ∀ n, sV b t n = S64 (ctH b t) n
  | 0 => rfl
  | n + 1 => by
    rw [sV_s, sV_S b t n]
    show _ = S64 (ctH b t) n + ctH b t n
    unfold ctH
    split
    · rw [Int64.add_zero]
    · split
      · rfl
      · rw [Int64.add_zero]
/-- the account of a payment's card; of the card of a posted RECORD -/
def pac (b : TS) (p : Nat) : Int32 := tI b 86 0 (10 * (tI b 87 0 (10 * p + 1)).toNatClampNeg + 9)
def lac (b : TS) (k : Nat) : Int32 := tI b 86 0 (10 * (hA b k 64 0).toNatClampNeg + 9)
def ctL (b : TS) (t k : Nat) : Int64 := if lac b k = Int32.ofNat t then (hI b k 16).toInt64 else 0
def pmI (b : TS) (n : Nat) : Int := if hI b n 8 ≠ 0 then (hA b n 64 2).toInt else 0
def lmI (b : TS) (n : Nat) : Int := (hI b n 16).toInt
def psI (x : Int) : Int := if 0 ≤ x then x else 0
def MaA (a b : TS) (n : Nat) : Prop := hI b n 12 ≠ 0 → hI b n 8 = 0 ∧ hI b n 9 = 0 ∧ n < tZ a 29 0 ∧ hI b n 13 = pac b n
def MaB (b : TS) (D n : Nat) : Prop := (hI b n 8 = 0 → hI b n 15 = -1 ∧ hI b n 16 = 0) ∧ (hI b n 8 ≠ 0 → (∃ d, hI b n 15 = Int32.ofNat d ∧ d ≤ D) ∧ (hI b n 16).toInt ≤ (hA b n 64 2).toInt)
def pcN (b : TS) (n : Nat) : Nat := (List.range n).countP (fun n => decide (hI b n 8 ≠ 0))
def MaE (a b : TS) : Prop := tL b 91 0 7 + S64 (fun u => tL b 43 0 u) (tZ a 26 0) + S64 (fun s => tL b 45 0 s + tL b 46 0 s) (tZ a 27 0) = tL b 91 0 8
def shU (b : TS) (s : Nat) : Int := (tL b 45 0 s).toInt + psI (tL b 46 0 s).toInt
def shD (b : TS) (s : Nat) : Int := psI (-(tL b 46 0 s).toInt)
def MaG (a b : TS) : Prop := 0 ≤ (tL b 91 0 7).toInt ∧ (∀ s, s < tZ a 27 0 → 0 ≤ (tL b 45 0 s).toInt) ∧ (tL b 91 0 7).toInt + SI (shU b) (tZ a 27 0) ≤ SI (pmI b) 1000 ∧ SI (shD b) (tZ a 27 0) + SI (lmI b) 1000 ≤ SI (pmI b) 1000
def MonI (a b : TS) (D : Nat) (put : Nat → Int64) : Prop :=
  (∀ n, n < 1000 → MaA a b n) ∧ (∀ n, n < 1000 → MaB b D n) ∧ (tI b 97 0 6 = Int32.ofNat D ∧ tI b 94 0 12 = Int32.ofNat (pcN b 1000)) ∧ (∀ t, t < tZ a 26 0 → S64 (ctH b t) 1000 = tL b 44 0 t) ∧ MaE a b ∧ (∀ t, t < tZ a 26 0 → tL b 43 0 t + S64 (ctL b t) 1000 = put t) ∧ MaG a b
/-- what of payments, cards, lists stays -/
def StaP (a a' b b' : TS) : Prop := (tZ a' 26 0 = tZ a 26 0 ∧ tZ a' 27 0 = tZ a 27 0 ∧ tZ a' 28 0 = tZ a 28 0 ∧ tZ a 29 0 ≤ tZ a' 29 0) ∧ (∀ p, p < tZ a 29 0 → tI b' 87 0 (10 * p + 1) = tI b 87 0 (10 * p + 1) ∧ tI b' 87 0 (10 * p + 2) = tI b 87 0 (10 * p + 2) ∧ tI b' 87 0 (10 * p + 3) = tI b 87 0 (10 * p + 3) ∧ tI b' 87 0 (10 * p + 4) = tI b 87 0 (10 * p + 4)) ∧ (∀ k, k < tZ a 28 0 → tI b' 86 0 (10 * k + 9) = tI b 86 0 (10 * k + 9))
theorem StaP_r (a b : TS) : StaP a a b b := ⟨⟨rfl, rfl, rfl, Nat.le_refl _⟩, fun _ _ => ⟨rfl, rfl, rfl, rfl⟩, fun _ _ => rfl⟩
theorem acct_c {a a' b b' : TS} {D : List Nat} {F : List (Nat × Nat)} (hR : R0 a b) (hR' : R0 a' b') (ca : chF D F a a') (hd : dpk D [] [28, 37] [] = true) {k : Nat} (hk : k < tZ a 28 0) : tI b' 86 0 (10 * k + 9) = tI b 86 0 (10 * k + 9) := by
  have z28 : tZ a' 28 0 = tZ a 28 0 := (ca 28 (dpk_S hd (by simp)).1).2.2.2.2.1 0
  obtain ⟨-, -, ⟨t, t1, t2, t3⟩, -⟩ := (r_C hR).2.2.2.2 k hk
  obtain ⟨-, -, ⟨u, u1, u2, u3⟩, -⟩ := (r_C hR').2.2.2.2 k (by rw [z28]; exact hk)
  have e : tR a' 37 k 1 = tR a 37 k 1 := (ca 37 (dpk_S hd (by simp)).1).2.2.1 k 1
  rw [e, t2] at u2
  rw [t3, u3, (Prod.mk.inj (Option.some.inj u2)).2]
theorem StaP_c {a a' b b' : TS} {D D' : List Nat} {F F' : List (Nat × Nat)} (hR : R0 a b) (hR' : R0 a' b') (ca : chF D F a a') (cb : chF D' F' b b') (hP : PM a a' b b') (hd : dpk D [] [26, 27, 28, 37] [] = true) : StaP a a' b b' := by
  have z : ∀ s, s ∈ [26, 27, 28, 37] → tZ a' s 0 = tZ a s 0 := fun s hs => (ca s (dpk_S hd hs).1).2.2.2.2.1 0
  refine ⟨⟨z 26 (by simp), z 27 (by simp), z 28 (by simp), hP.1⟩, hP.2.2.2, fun k hk => acct_c hR hR' ca (dpk_D hd) hk⟩
where
  dpk_D {D : List Nat} (hd : dpk D [] [26, 27, 28, 37] [] = true) : dpk D [] [28, 37] [] = true := dpk_sub hd (by decide) (by simp)
/-- a payment's card, a posted RECORD's -/
theorem pay_card {a b : TS} (hR : R0 a b) {p : Nat} (hp : p < tZ a 29 0) : ∃ k, k < tZ a 28 0 ∧ tI b 87 0 (10 * p + 1) = Int32.ofNat k ∧ k < 8 := by
  obtain ⟨-, -, ⟨k, k1, -, k3⟩, -⟩ := (r_P' hR).2.2.2.2.1 p hp
  exact ⟨k, k1, k3, Nat.lt_of_lt_of_le k1 (r_C hR).1⟩
theorem pos_card {a b : TS} (hR : R0 a b) {n : Nat} (hn : n < 1000) (h8 : hI b n 8 ≠ 0) : ∃ k, k < tZ a 28 0 ∧ hA b n 64 0 = Int32.ofNat k ∧ k < 8 := by
  obtain ⟨k, c, k1, -, k3, -⟩ := ro_at hR hn h8
  exact ⟨k, k1, k3, Nat.lt_of_lt_of_le k1 (r_C hR).1⟩
theorem card_acct {a b : TS} (hR : R0 a b) {k : Nat} (hk : k < tZ a 28 0) : ∃ t, t < tZ a 26 0 ∧ tI b 86 0 (10 * k + 9) = Int32.ofNat t ∧ t < 8 := by
  obtain ⟨-, -, ⟨t, t1, -, t3⟩, -⟩ := (r_C hR).2.2.2.2 k hk
  exact ⟨t, t1, t3, Nat.lt_of_lt_of_le t1 (r_B hR).1⟩
theorem pac_c {a a' b b' : TS} (hR : R0 a b) (hs : StaP a a' b b') {p : Nat} (hp : p < tZ a 29 0) : pac b' p = pac b p := by
  obtain ⟨k, k1, k2, k3⟩ := pay_card hR hp
  unfold pac
  rw [(hs.2.1 p hp).1, k2, o_ix (by omega)]
  exact hs.2.2 k k1
theorem left_nn {a b : TS} (hR : R0 a b) {n : Nat} (hn : n < 1000) : 0 ≤ (hI b n 16).toInt := by
  obtain ⟨-, ⟨-, -, -, -, -, -, -, -, h⟩, -⟩ := (r_K hR).2.2 n hn
  rw [Int32.lt_iff_toInt_lt] at h
  have h : ¬ (hI b n 16).toInt < 0 := h
  omega
theorem pm_at {a b : TS} (hR : R0 a b) {n : Nat} (hn : n < 1000) : 0 ≤ pmI b n ∧ pmI b n ≤ 100000 := by
  unfold pmI
  by_cases h8 : hI b n 8 ≠ 0
  · rw [if_pos h8]
    obtain ⟨p, p1, -, -, p4, -⟩ := (hR.2.2.2.2.2.2.2.2.2.2.2.2.2.2.2.2 : RZ a b).2 n hn h8
    obtain ⟨-, -, -, -, ⟨-, u1, u2⟩, -⟩ := (r_P' hR).2.2.2.2.1 p p1
    rw [p4]
    rw [Int32.lt_iff_toInt_lt] at u1
    rw [Int32.le_iff_toInt_le] at u2
    have u1 : (0 : Int) < (tI b 87 0 (10 * p + 3)).toInt := u1
    have u2 : (tI b 87 0 (10 * p + 3)).toInt ≤ 100000 := u2
    omega
  · rw [if_neg h8]
    omega
theorem pm_all {a b : TS} (hR : R0 a b) : SI (pmI b) 1000 ≤ 100000000 := by
  have := SI_le (f := pmI b) (B := 100000) 1000 (fun k hk => (pm_at hR hk).2)
  omega
theorem lm_nn {a b : TS} (hR : R0 a b) : 0 ≤ SI (lmI b) 1000 := SI_nn 1000 (fun _ hk => left_nn hR hk)
/-- the bounds that follow: money of a shop, what stands in between -/
theorem MonI_bnd {a b : TS} {D : Nat} {put : Nat → Int64} (hR : R0 a b) (h : MonI a b D put) {s : Nat} (hs : s < tZ a 27 0) : 0 ≤ (tL b 45 0 s).toInt ∧ (tL b 45 0 s).toInt ≤ 100000000 ∧ -100000000 ≤ (tL b 46 0 s).toInt ∧ (tL b 46 0 s).toInt ≤ 100000000 ∧ 0 ≤ (tL b 91 0 7).toInt ∧ (tL b 91 0 7).toInt ≤ 100000000 := by
  obtain ⟨-, -, -, -, -, -, g1, g2, g3, g4⟩ := h
  have h1 := pm_all hR
  have h2 := lm_nn hR
  have pnn : ∀ x, 0 ≤ psI x ∧ x ≤ psI x := fun x => by unfold psI; split <;> omega
  have h3 := SI_at (f := shU b) (p := s) (tZ a 27 0) hs (fun k hk => by have := g2 k hk; have := (pnn (tL b 46 0 k).toInt).1; unfold shU; omega)
  have h4 := SI_at (f := shD b) (p := s) (tZ a 27 0) hs (fun k hk => (pnn _).1)
  have h5 := SI_nn (f := shU b) (tZ a 27 0) (fun k hk => by have := g2 k hk; have := (pnn (tL b 46 0 k).toInt).1; unfold shU; omega)
  have h6 := g2 s hs
  have h7 := pnn (tL b 46 0 s).toInt
  have h8 := pnn (-(tL b 46 0 s).toInt)
  have h3 : (tL b 45 0 s).toInt + psI (tL b 46 0 s).toInt ≤ SI (shU b) (tZ a 27 0) := h3
  have h4 : psI (-(tL b 46 0 s).toInt) ≤ SI (shD b) (tZ a 27 0) := h4
  omega
