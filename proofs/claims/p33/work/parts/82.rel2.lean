/-! ===== messages and mails ===== -/
/-- payments, cards, shops stay; what is decided of a payment stays -/
def PS (a a' b b' : TS) : Prop := PM a a' b b' ∧ ∀ p, p < tZ a 29 0 → (tI b 87 0 (10 * p) = 0 ∨ tI b 87 0 (10 * p) = 2) → tI b' 87 0 (10 * p) = tI b 87 0 (10 * p) ∧ tI b' 87 0 (10 * p + 5) = tI b 87 0 (10 * p + 5) ∧ tI b' 87 0 (10 * p + 8) = tI b 87 0 (10 * p + 8)
theorem PS_r (a b : TS) : PS a a b b := ⟨PM_r a b, fun _ _ _ => ⟨rfl, rfl, rfl⟩⟩
theorem PS_t {a a' a'' b b' b'' : TS} (h1 : PS a a' b b') (h2 : PS a' a'' b' b'') : PS a a'' b b'' := by
  obtain ⟨⟨x1, x2, x3, x4⟩, x5⟩ := h1
  obtain ⟨⟨y1, y2, y3, y4⟩, y5⟩ := h2
  refine ⟨⟨Nat.le_trans x1 y1, Nat.le_trans x2 y2, Nat.le_trans x3 y3, fun p hp => ?_⟩, fun p hp h => ?_⟩
  · obtain ⟨u1, u2, u3, u4⟩ := x4 p hp
    obtain ⟨v1, v2, v3, v4⟩ := y4 p (Nat.lt_of_lt_of_le hp x1)
    exact ⟨v1.trans u1, v2.trans u2, v3.trans u3, v4.trans u4⟩
  · obtain ⟨u1, u2, u3⟩ := x5 p hp h
    obtain ⟨v1, v2, v3⟩ := y5 p (Nat.lt_of_lt_of_le hp x1) (by rw [u1]; exact h)
    exact ⟨v1.trans u1, v2.trans u2, v3.trans u3⟩
theorem PS_c {D D' : List Nat} {F F' : List (Nat × Nat)} {a a' b b' : TS} (ha : chF D F a a') (hb : chF D' F' b b') (hd : dpk D [] [27, 28, 29] [] = true) (hd' : dpk D' F' [87] [] = true) : PS a a' b b' :=
  ⟨PM_c ha hb hd hd', fun p _ _ => by
    have w := dIS hb hd' (s := 87) (by simp)
    exact ⟨w _ _, w _ _, w _ _⟩⟩
/-- an ASK of shop s -/
def askM (a b : TS) (s : Nat) (g q : Nat → Int32) : Prop := ∃ p cd c, p < tZ a 29 0 ∧ cd < tZ a 28 0 ∧ c < 201 ∧ (tI b 87 0 (10 * p + 1) = Int32.ofNat cd ∧ tI b 87 0 (10 * p + 2) = Int32.ofNat s ∧ tI b 87 0 (10 * p + 4) = Int32.ofNat c) ∧
  (g 1 = Int32.ofNat p ∧ g 2 = Int32.ofNat cd ∧ g 4 = Int32.ofNat c ∧ g 5 = tI b 87 0 (10 * p + 3) ∧ g 6 = pst b p 2) ∧ (q 2 = g 2 ∧ q 3 = g 4 ∧ q 4 = g 5 ∧ q 5 = g 6)
/-- a RECORD -/
def recM (a b : TS) (s : Nat) (g q : Nat → Int32) : Prop := ∃ n p cd c, n < 1000 ∧ p < tZ a 29 0 ∧ cd < tZ a 28 0 ∧ c < 201 ∧ (tI b 87 0 (10 * p + 1) = Int32.ofNat cd ∧ tI b 87 0 (10 * p + 4) = Int32.ofNat c) ∧
  (g 1 = Int32.ofNat n ∧ g 2 = Int32.ofNat cd ∧ g 4 = Int32.ofNat c ∧ g 5 = tI b 87 0 (10 * p + 3)) ∧ (q 2 = g 2 ∧ q 3 = g 4 ∧ q 4 = g 5 ∧ q 5 = g 6 ∧ q 6 = 1 + g 7) ∧
  ((g 6 = pst b p 1 ∧ tI b 87 0 (10 * p) = 0) ∨ g 6 = pst b p 2) ∧ (g 7 = 0 ∨ g 7 = 1 ∨ g 7 = 2) ∧
  (g 14 = 0 → n = p) ∧ (g 14 ≠ 0 → g 7 = 0) ∧ (g 14 = 0 → tI b 87 0 (10 * p + 2) = Int32.ofNat s ∧ (tI b 87 0 (10 * p) = 0 ∨ tI b 87 0 (10 * p) = 2) ∧ g 6 = tI b 87 0 (10 * p + 5))
/-- what goes up from shop s -/
def upM (a b : TS) (s : Nat) (g q : Nat → Int32) : Prop := bitOk (g 14) = true ∧ q 13 = g 14 ∧ q 7 = g 11 ∧ q 1 = g 1 ∧
  ((g 0 = 1 ∧ q 0 = 0 ∧ g 14 = 0 ∧ g 11 = 0 ∧ askM a b s g q) ∨
   (g 0 = 2 ∧ q 0 = 1 ∧ g 14 = 0 ∧ g 11 = 0 ∧ ∃ p, p < tZ a 29 0 ∧ g 1 = Int32.ofNat p ∧ tI b 87 0 (10 * p + 2) = Int32.ofNat s) ∨
   (g 0 = 3 ∧ q 0 = 2 ∧ g 11 = 0 ∧ recM a b s g q) ∨
   (g 0 = 4 ∧ q 0 = 3 ∧ g 14 = 0 ∧ q 4 = g 5 ∧ ¬ g 5 < 0 ∧ (∃ n, n < 100 ∧ g 11 = Int32.ofNat n) ∧ ∃ p, p < tZ a 29 0 ∧ g 1 = Int32.ofNat p ∧ tI b 87 0 (10 * p + 2) = Int32.ofNat s))
/-- what comes down to shop s -/
def dnM (a b : TS) (s : Nat) (g q : Nat → Int32) : Prop := bitOk (g 14) = true ∧ q 13 = g 14 ∧ q 7 = g 11 ∧ q 1 = g 1 ∧
  ((g 0 = 5 ∧ q 0 = 4 ∧ g 11 = 0 ∧ (g 7 = 1 ∨ g 7 = 2) ∧ q 12 = (if g 7 = 1 then 1 else 0) ∧ (g 8 = 1 ∧ q 11 = 1 ∨ g 8 = 2 ∧ q 11 = 0) ∧ q 9 = g 9 ∧ q 5 = g 6 ∧ q 10 = g 10 ∧ ∃ p, p < tZ a 29 0 ∧ g 1 = Int32.ofNat p ∧ tI b 87 0 (10 * p + 2) = Int32.ofNat s) ∨
   ((g 0 = 2 ∧ q 8 = 1 ∨ g 0 = 3 ∧ q 8 = 2 ∨ g 0 = 4 ∧ q 8 = 3) ∧ q 0 = 5))
theorem askM_c {a a' b b' : TS} {s : Nat} {g q : Nat → Int32} (h : askM a b s g q) (hp : PS a a' b b') : askM a' b' s g q := by
  obtain ⟨p, cd, c, h1, h2, h3, ⟨i1, i2, i3⟩, ⟨j1, j2, j3, j4, j5⟩, k⟩ := h
  obtain ⟨u1, u2, u3, u4⟩ := hp.1.2.2.2 p h1
  exact ⟨p, cd, c, Nat.lt_of_lt_of_le h1 hp.1.1, Nat.lt_of_lt_of_le h2 hp.1.2.1, h3, ⟨by rw [u1]; exact i1, by rw [u2]; exact i2, by rw [u4]; exact i3⟩, ⟨j1, j2, j3, by rw [u3]; exact j4, by rw [PM_pst hp.1 h1]; exact j5⟩, k⟩
theorem recM_c {a a' b b' : TS} {s : Nat} {g q : Nat → Int32} (h : recM a b s g q) (hp : PS a a' b b') : recM a' b' s g q := by
  obtain ⟨n, p, cd, c, h0, h1, h2, h3, ⟨i1, i3⟩, ⟨j1, j2, j3, j4⟩, k, l1, l2, l3, l4, l5⟩ := h
  obtain ⟨u1, u2, u3, u4⟩ := hp.1.2.2.2 p h1
  refine ⟨n, p, cd, c, h0, Nat.lt_of_lt_of_le h1 hp.1.1, Nat.lt_of_lt_of_le h2 hp.1.2.1, h3, ⟨by rw [u1]; exact i1, by rw [u4]; exact i3⟩, ⟨j1, j2, j3, by rw [u3]; exact j4⟩, k, ?_, l2, l3, l4, fun z => ?_⟩
  · rw [PM_pst hp.1 h1, PM_pst hp.1 h1]
    rcases l1 with ⟨e1, e2⟩ | e
    · exact Or.inl ⟨e1, by rw [(hp.2 p h1 (Or.inl e2)).1]; exact e2⟩
    · exact Or.inr e
  · obtain ⟨v1, v2, v3⟩ := l5 z
    obtain ⟨w1, w2, w3⟩ := hp.2 p h1 v2
    exact ⟨by rw [u2]; exact v1, by rw [w1]; exact v2, by rw [w2]; exact v3⟩
theorem ofP_c {a a' b b' : TS} {s : Nat} {x : Int32} (h : ∃ p, p < tZ a 29 0 ∧ x = Int32.ofNat p ∧ tI b 87 0 (10 * p + 2) = Int32.ofNat s) (hp : PS a a' b b') : ∃ p, p < tZ a' 29 0 ∧ x = Int32.ofNat p ∧ tI b' 87 0 (10 * p + 2) = Int32.ofNat s := by
  obtain ⟨p, h1, h2, h3⟩ := h
  exact ⟨p, Nat.lt_of_lt_of_le h1 hp.1.1, h2, by rw [(hp.1.2.2.2 p h1).2.1]; exact h3⟩
theorem upM_c {a a' b b' : TS} {s : Nat} {g q : Nat → Int32} (h : upM a b s g q) (hp : PS a a' b b') : upM a' b' s g q := by
  obtain ⟨h1, h2, h3, h4, h5⟩ := h
  refine ⟨h1, h2, h3, h4, ?_⟩
  rcases h5 with ⟨e1, e2, e3, e4, e5⟩ | ⟨e1, e2, e3, e4, e5⟩ | ⟨e1, e2, e3, e4⟩ | ⟨e1, e2, e3, e4, e5, e6, e7⟩
  · exact Or.inl ⟨e1, e2, e3, e4, askM_c e5 hp⟩
  · exact Or.inr (Or.inl ⟨e1, e2, e3, e4, ofP_c e5 hp⟩)
  · exact Or.inr (Or.inr (Or.inl ⟨e1, e2, e3, recM_c e4 hp⟩))
  · exact Or.inr (Or.inr (Or.inr ⟨e1, e2, e3, e4, e5, e6, ofP_c e7 hp⟩))
theorem dnM_c {a a' b b' : TS} {s : Nat} {g q : Nat → Int32} (h : dnM a b s g q) (hp : PS a a' b b') : dnM a' b' s g q := by
  obtain ⟨h1, h2, h3, h4, h5⟩ := h
  refine ⟨h1, h2, h3, h4, ?_⟩
  rcases h5 with ⟨e1, e2, e3, e4, e5, e6, e7, e8, e9, e10⟩ | e
  · exact Or.inl ⟨e1, e2, e3, e4, e5, e6, e7, e8, e9, ofP_c e10 hp⟩
  · exact Or.inr e
/-! lists of two kinds, one by one -/
def L2 {α β : Type} (R : α → β → Prop) : List α → List β → Prop
  | [], [] => True
  | x :: l, y :: m => R x y ∧ L2 R l m
  | _, _ => False
theorem L2_app {α β : Type} {R : α → β → Prop} : ∀ {l1 : List α} {m1 : List β} {l2 : List α} {m2 : List β}, L2 R l1 m1 → L2 R l2 m2 → L2 R (l1 ++ l2) (m1 ++ m2)
  | [], [], _, _, _, h => h
  | x :: l, y :: m, _, _, h1, h2 => ⟨h1.1, L2_app h1.2 h2⟩
theorem L2_mono {α β : Type} {R S : α → β → Prop} (hRS : ∀ x y, R x y → S x y) : ∀ {l : List α} {m : List β}, L2 R l m → L2 S l m
  | [], [], h => h
  | _ :: _, _ :: _, h => ⟨hRS _ _ h.1, L2_mono hRS h.2⟩
theorem L2_len {α β : Type} {R : α → β → Prop} : ∀ {l : List α} {m : List β}, L2 R l m → l.length = m.length
  | [], [], _ => rfl
  | _ :: _, _ :: _, h => congrArg (· + 1) (L2_len h.2)
def entU (a b : TS) (s : Nat) (e e' : Int32 × (Nat → Int32)) : Prop := e.1 = e'.1 ∧ upM a b s e.2 e'.2
def entD (a b : TS) (s : Nat) (e e' : Int32 × (Nat → Int32)) : Prop := e.1 = e'.1 ∧ dnM a b s e.2 e'.2
/-- the rows of the cables are not much longer than the lines ever were -/
def sumC (b : TS) (n : Nat) : Nat := ((List.range n).map (capc b)).sum
def Cc (a b : TS) : Prop := (∀ c, c < 2 * tZ a 27 0 → capc b c ≤ max 32 (2 * tZ a 9 c)) ∧ S5 b ≤ 4 * sumC b (2 * tZ a 27 0) ∧ tN a 10 = ((List.range (2 * tZ a 27 0)).map (tZ a 9)).sum ∧ tN a 8 = 2 * tZ a 27 0 ∧ (tN b 48 = 2 * tZ a 27 0 ∧ tN b 49 = 2 * tZ a 27 0 ∧ tN b 50 = 2 * tZ a 27 0) ∧ tN b 74 = tZ a 27 0 ∧ tN b 75 = tZ a 27 0
theorem sum_upd {f f' : Nat → Nat} {c : Nat} : ∀ n, c < n → (∀ c', c' < n → c' ≠ c → f' c' = f c') → ((List.range n).map f').sum + f c = ((List.range n).map f).sum + f' c := by
  intro n
  induction n with
  | zero => exact fun h => absurd h (Nat.not_lt_zero _)
  | succ n ih =>
    intro hc h
    simp only [List.range_succ, List.map_append, List.sum_append, List.map_cons, List.map_nil, List.sum_cons, List.sum_nil, Nat.add_zero]
    by_cases e : c = n
    · subst e
      have : (List.range c).map f' = (List.range c).map f := List.map_congr_left (fun i hi => by
        have hi := List.mem_range.mp hi
        exact h i (by omega) (by omega))
      rw [this]
      omega
    · have h1 := ih (by omega) (fun c' h1 h2 => h c' (by omega) h2)
      have h2 := h n (by omega) (fun q => e q.symm)
      omega
theorem sumC_eq {b b' : TS} {n : Nat} (h : ∀ c, c < n → capc b' c = capc b c) : sumC b' n = sumC b n := by
  unfold sumC
  congr 1
  exact List.map_congr_left (fun i hi => h i (List.mem_range.mp hi))
/-- the lines -/
def Ln0 (a b : TS) : Prop := LaT a (2 * tZ a 27 0) ∧ CaT b (2 * tZ a 27 0) ∧ (∀ s, s < tZ a 27 0 → tR b 65 0 (2 * s) = some (74, s) ∧ tR b 65 0 (2 * s + 1) = some (75, s)) ∧ (∀ c, c < 2 * tZ a 27 0 → tI a 8 c = tI b 48 c) ∧ Cc a b
def LnU (a b : TS) (s : Nat) : Prop := L2 (entU a b s) (vA a (2 * s)) (vQ b (2 * s))
def LnD (a b : TS) (s : Nat) : Prop := L2 (entD a b s) (vA a (2 * s + 1)) (vQ b (2 * s + 1))
def Ln (a b : TS) : Prop := Ln0 a b ∧ ∀ s, s < tZ a 27 0 → LnU a b s ∧ LnD a b s
