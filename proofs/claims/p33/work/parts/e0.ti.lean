/-! ===== when what is kept was put: an account of losses ===== -/
/-- a copy of k, put at l (or j ticks before), is on its way, or the DONE of one -/
def Pdg (d : Nat) (U D : Int32 → (Nat → Int32) → Prop) (k : Nat → Int32) (l j : Nat) : Prop :=
  (∃ t q, t ≤ 4000 ∧ U (Int32.ofNat t) q ∧ (q 13 = 0 ∧ q 0 = k 0 ∧ q 1 = k 1 ∧ q 7 = k 7) ∧ l + d ≤ t + j ∧ t + j ≤ l + d + 4) ∨
  (∃ t r, t ≤ 4000 ∧ D (Int32.ofNat t) r ∧ (r 13 = 0 ∧ r 0 = 5 ∧ r 8 = k 0 ∧ r 1 = k 1 ∧ r 7 = k 7) ∧ l + 2 * d ≤ t + j ∧ t + j ≤ l + 2 * d + 8)
def TI1 (d X R : Nat) (U D : Int32 → (Nat → Int32) → Prop) (K : (Nat → Int32) → Int32 → Prop) : Prop :=
  ∀ k l, l ≤ 4000 → K k (Int32.ofNat l) → ∃ n x y, x ≤ 1 ∧ y ≤ 1 ∧ (x = 1 → Pdg d U D k l 0) ∧ (y = 1 → Pdg d U D k l 10) ∧ l ≤ X + 10 * n ∧ n + R ≤ 37 + x + y
theorem Pdg_m {d : Nat} {U D U' D' : Int32 → (Nat → Int32) → Prop} {k : Nat → Int32} {l j : Nat} (hU : ∀ t g, U t g → U' t g) (hD : ∀ t g, D t g → D' t g) (h : Pdg d U D k l j) : Pdg d U' D' k l j := by
  rcases h with ⟨t, q, h1, h2, h3⟩ | ⟨t, r, h1, h2, h3⟩
  · exact Or.inl ⟨t, q, h1, hU _ _ h2, h3⟩
  · exact Or.inr ⟨t, r, h1, hD _ _ h2, h3⟩
theorem TI1_m {d X R R' : Nat} {U D U' D' : Int32 → (Nat → Int32) → Prop} {K K' : (Nat → Int32) → Int32 → Prop} (h : TI1 d X R U D K) (hU : ∀ t g, U t g → U' t g) (hD : ∀ t g, D t g → D' t g) (hK : ∀ k l, K' k l → K k l) (hR : R' ≤ R) : TI1 d X R' U' D' K' := by
  intro k l hl hk
  obtain ⟨n, x, y, h1, h2, h3, h4, h5, h6⟩ := h k l hl (hK k _ hk)
  exact ⟨n, x, y, h1, h2, fun e => Pdg_m hU hD (h3 e), fun e => Pdg_m hU hD (h4 e), h5, by omega⟩
/-- a message that goes up is heard -/
theorem TI1_hear {d X R R' now : Nat} {U D U' D' : Int32 → (Nat → Int32) → Prop} {K K' : (Nat → Int32) → Int32 → Prop} {q r : Nat → Int32} (h : TI1 d X R U D K) (hnow : now ≤ 3000) (hd : d ≤ 5) (hU : ∀ t g, U t g → U' t g ∨ t = Int32.ofNat now ∧ g = q) (hD : ∀ t g, D t g → D' t g) (hK : ∀ k l, K' k l → K k l ∧ k 0 ≠ 0) (hR : R' ≤ R)
    (hn : q 13 = 0 → q 0 ≠ 0 → R' + 1 ≤ R ∨ ∃ t', (t' = now + d ∨ t' = now + d + 4) ∧ D' (Int32.ofNat t') r ∧ (r 13 = 0 ∧ r 0 = 5 ∧ r 8 = q 0 ∧ r 1 = q 1 ∧ r 7 = q 7)) : TI1 d X R' U' D' K' := by
  intro k l hl hk
  obtain ⟨hk1, hk0⟩ := hK k _ hk
  obtain ⟨n, x, y, h1, h2, h3, h4, h5, h6⟩ := h k l hl hk1
  have one : ∀ j, Pdg d U D k l j → Pdg d U' D' k l j ∨ (R' + 1 ≤ R ∧ l + d ≤ now + j ∧ now + j ≤ l + d + 4) := by
    intro j w
    rcases w with ⟨t, q', w1, w2, ⟨w3, w4, w5, w6⟩, w7, w8⟩ | ⟨t, r', w1, w2, w3⟩
    · rcases hU _ _ w2 with z | ⟨z1, z2⟩
      · exact Or.inl (Or.inl ⟨t, q', w1, z, ⟨w3, w4, w5, w6⟩, w7, w8⟩)
      · have e := o_inj (by omega) (by omega) z1
        subst e
        subst z2
        rcases hn w3 (by rw [w4]; exact hk0) with z | ⟨t', z1, z2, z3, z4, z5, z6, z7⟩
        · exact Or.inr ⟨z, w7, w8⟩
        · exact Or.inl (Or.inr ⟨t', r, by omega, z2, ⟨z3, z4, z5.trans w4, z6.trans w5, z7.trans w6⟩, by omega, by omega⟩)
    · exact Or.inl (Or.inr ⟨t, r', w1, hD _ _ w2, w3⟩)
  by_cases hx : x = 1
  · by_cases hy : y = 1
    · rcases one 0 (h3 hx) with a1 | ⟨a1, a2, a3⟩
      · rcases one 10 (h4 hy) with b1 | ⟨b1, b2, b3⟩
        · exact ⟨n, x, y, h1, h2, fun _ => a1, fun _ => b1, h5, by omega⟩
        · exact ⟨n, x, 0, h1, by omega, fun _ => a1, fun e => absurd e (by decide), h5, by omega⟩
      · rcases one 10 (h4 hy) with b1 | ⟨b1, b2, b3⟩
        · exact ⟨n, 0, y, by omega, h2, fun e => absurd e (by decide), fun _ => b1, h5, by omega⟩
        · omega
    · rcases one 0 (h3 hx) with a1 | ⟨a1, a2, a3⟩
      · exact ⟨n, x, y, h1, h2, fun _ => a1, fun e => absurd e hy, h5, by omega⟩
      · exact ⟨n, 0, y, by omega, h2, fun e => absurd e (by decide), fun e => absurd e hy, h5, by omega⟩
  · by_cases hy : y = 1
    · rcases one 10 (h4 hy) with b1 | ⟨b1, b2, b3⟩
      · exact ⟨n, x, y, h1, h2, fun e => absurd e hx, fun _ => b1, h5, by omega⟩
      · exact ⟨n, x, 0, h1, by omega, fun e => absurd e hx, fun e => absurd e (by decide), h5, by omega⟩
    · exact ⟨n, x, y, h1, h2, fun e => absurd e hx, fun e => absurd e hy, h5, by omega⟩
/-- something comes down: what stays kept isn't what it is the DONE of -/
theorem TI1_dn {d X R : Nat} {U D U' D' : Int32 → (Nat → Int32) → Prop} {K K' : (Nat → Int32) → Int32 → Prop} {r : Nat → Int32} (h : TI1 d X R U D K) (hU : ∀ t g, U t g → U' t g) (hD : ∀ t g, D t g → D' t g ∨ g = r) (hK : ∀ k l, K' k l → K k l ∧ ¬ (r 13 = 0 ∧ r 0 = 5 ∧ r 8 = k 0 ∧ r 1 = k 1 ∧ r 7 = k 7)) : TI1 d X R U' D' K' := by
  intro k l hl hk
  obtain ⟨hk1, hk0⟩ := hK k _ hk
  obtain ⟨n, x, y, h1, h2, h3, h4, h5, h6⟩ := h k l hl hk1
  have one : ∀ j, Pdg d U D k l j → Pdg d U' D' k l j := by
    intro j w
    rcases w with ⟨t, q', w1, w2, w3⟩ | ⟨t, r', w1, w2, w3, w4⟩
    · exact Or.inl ⟨t, q', w1, hU _ _ w2, w3⟩
    · rcases hD _ _ w2 with z | z
      · exact Or.inr ⟨t, r', w1, z, w3, w4⟩
      · subst z; exact absurd w3 hk0
  exact ⟨n, x, y, h1, h2, fun e => one 0 (h3 e), fun e => one 10 (h4 e), h5, h6⟩
/-- a message is kept and put, or put again -/
theorem TI1_put {d X R R' now : Nat} {U D U' D' : Int32 → (Nat → Int32) → Prop} {K K' : (Nat → Int32) → Int32 → Prop} {g : Nat → Int32} (h : TI1 d X R U D K) (hnow : now ≤ 3000) (hd : d ≤ 5) (h37 : R ≤ 37) (hU : ∀ t g, U t g → U' t g) (hD : ∀ t g, D t g → D' t g) (hR : R' ≤ R) (g13 : g 13 = 0)
    (hdU : ∀ t g, U t g → ∃ n, n ≤ 4000 ∧ t = Int32.ofNat n ∧ now ≤ n) (hdD : ∀ t g, D t g → ∃ n, n ≤ 4000 ∧ t = Int32.ofNat n ∧ now ≤ n)
    (hp : R' + 1 ≤ R ∨ ∃ t', (t' = now + d ∨ t' = now + d + 4) ∧ U' (Int32.ofNat t') g)
    (hK : ∀ k l, K' k l → K k l ∨ k = g ∧ l = Int32.ofNat now ∧ (now ≤ X + 10 ∨ ∃ l0, l0 ≤ 4000 ∧ K g (Int32.ofNat l0) ∧ now = l0 + 10)) : TI1 d X R' U' D' K' := by
  intro k l hl hk
  rcases hK k _ hk with hk | ⟨e1, e2, e3⟩
  · obtain ⟨n, x, y, h1, h2, h3, h4, h5, h6⟩ := h k l hl hk
    exact ⟨n, x, y, h1, h2, fun e => Pdg_m hU hD (h3 e), fun e => Pdg_m hU hD (h4 e), h5, by omega⟩
  · have e2 := o_inj (by omega) (by omega) e2
    subst e1
    subst e2
    have new : R' + 1 ≤ R ∨ Pdg d U' D' k l 0 := by
      rcases hp with z | ⟨t', z1, z2⟩
      · exact Or.inl z
      · exact Or.inr (Or.inl ⟨t', k, by omega, z2, ⟨g13, rfl, rfl, rfl⟩, by omega, by omega⟩)
    rcases e3 with e3 | ⟨l0, l1, l2, l3⟩
    · rcases new with z | z
      · exact ⟨1, 0, 0, by omega, by omega, fun e => absurd e (by decide), fun e => absurd e (by decide), by omega, by omega⟩
      · exact ⟨1, 1, 0, by omega, by omega, fun _ => z, fun e => absurd e (by decide), by omega, by omega⟩
    · obtain ⟨n, x, y, h1, h2, h3, h4, h5, h6⟩ := h k l0 l1 l2
      have y0 : y ≠ 1 := by
        intro e
        rcases h4 e with ⟨t, q', w1, w2, -, w7, w8⟩ | ⟨t, r', w1, w2, -, w7, w8⟩
        · obtain ⟨m, m1, m2, m3⟩ := hdU _ _ w2
          have := o_inj (by omega) (by omega) m2
          omega
        · obtain ⟨m, m1, m2, m3⟩ := hdD _ _ w2
          have := o_inj (by omega) (by omega) m2
          omega
      have sh : Pdg d U D k l0 0 → Pdg d U D k l 10 := by
        intro w
        rcases w with ⟨t, q', w1, w2, w3, w7, w8⟩ | ⟨t, r', w1, w2, w3, w7, w8⟩
        · exact Or.inl ⟨t, q', w1, w2, w3, by omega, by omega⟩
        · exact Or.inr ⟨t, r', w1, w2, w3, by omega, by omega⟩
      rcases new with z | z
      · exact ⟨n + 1, 0, x, by omega, h1, fun e => absurd e (by decide), fun e => Pdg_m hU hD (sh (h3 e)), by omega, by omega⟩
      · exact ⟨n + 1, 1, x, by omega, h1, fun _ => z, fun e => Pdg_m hU hD (sh (h3 e)), by omega, by omega⟩
theorem TI1_bd {d X R : Nat} {U D : Int32 → (Nat → Int32) → Prop} {K : (Nat → Int32) → Int32 → Prop} (h : TI1 d X R U D K) {k : Nat → Int32} {l : Nat} (hl : l ≤ 4000) (hk : K k (Int32.ofNat l)) : l ≤ X + 390 := by
  obtain ⟨n, x, y, h1, h2, h3, h4, h5, h6⟩ := h k l hl hk
  omega
/-- the account begins anew, ten ticks before now -/
theorem TI1_new {d X now R : Nat} {U D : Int32 → (Nat → Int32) → Prop} {K : (Nat → Int32) → Int32 → Prop} (h : TI1 d X R U D K) (hX : X + 10 < now) (hK : ∀ k l, l ≤ 4000 → K k (Int32.ofNat l) → l ≤ now ∧ now < l + 10) : TI1 d (now - 10) R U D K := by
  intro k l hl hk
  obtain ⟨n, x, y, h1, h2, h3, h4, h5, h6⟩ := h k l hl hk
  obtain ⟨k1, k2⟩ := hK k l hl hk
  exact ⟨1, x, y, h1, h2, h3, h4, by omega, by omega⟩
theorem TI1_0 {d X R : Nat} {U D : Int32 → (Nat → Int32) → Prop} {K : (Nat → Int32) → Int32 → Prop} (h37 : R ≤ 37) (hK : ∀ k l, l ≤ 4000 → K k (Int32.ofNat l) → l ≤ X) : TI1 d X R U D K := by
  intro k l hl hk
  have := hK k l hl hk
  exact ⟨0, 0, 0, by omega, by omega, fun e => absurd e (by decide), fun e => absurd e (by decide), by omega, by omega⟩
