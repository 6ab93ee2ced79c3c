/-! ===== what a terminal keeps until it is done ===== -/
def keyA (a : TS) (o : Option (Nat × Nat)) : Int32 × Int32 × Int32 := match o with
  | some q => (tI a q.1 q.2 0, tI a q.1 q.2 1, tI a q.1 q.2 11)
  | none => (0, 0, 0)
def kN (x : Int32 × Int32 × Int32) : Int32 × Int32 := (x.1, if x.1 = 4 then x.2.2 else x.2.1)
/-- why there are not too many: a TAKE BACK is of a payment that asks no more, a RECORD of one that is sent, a BACK MONEY has its number -/
def kcd (a b : TS) (s : Nat) (g : Nat → Int32) : Prop :=
  (g 0 = 2 ∧ ∃ p, p < tZ a 29 0 ∧ g 1 = Int32.ofNat p ∧ tI b 87 0 (10 * p) ≠ 1) ∨ (g 0 = 3 ∧ ∃ p, p < tZ a 29 0 ∧ g 1 = Int32.ofNat p ∧ tI b 70 0 p ≠ 0) ∨ (g 0 = 4 ∧ ∃ n m, g 11 = Int32.ofNat n ∧ tI b 69 0 s = Int32.ofNat m ∧ n < m ∧ m ≤ 100)
def isKp (c : Nat) : Prop := c = 12 ∨ c = 23 ∨ c = 39
def keptM (a b : TS) (s : Nat) (o q : Option (Nat × Nat)) (t : Int32) : Prop :=
  ∃ c i q', o = some (c, i) ∧ q = some q' ∧ isKp c ∧ i < tN a c ∧ isQ q'.1 ∧ q'.2 < tN b q'.1 ∧ (tI a c i 13 = t ∧ ∃ n, n ≤ 3000 ∧ t = Int32.ofNat n) ∧ upM a b s (mv a c i) (qv b (some q')) ∧ mv a c i 14 = 0 ∧ kcd a b s (mv a c i)
def Kp1 (a b : TS) (s : Nat) : Prop := capOK a 19 s ∧ tI b 68 0 s = Int32.ofNat (tZ a 19 s) ∧ tZ a 19 s ≤ 500 ∧ (∀ k, k < tZ a 19 s → keptM a b s (tR a 19 s k) (tR b 66 0 (500 * s + k)) (tI b 67 0 (500 * s + k))) ∧ ∀ k k', k < k' → k' < tZ a 19 s → kN (keyA a (tR a 19 s k)) ≠ kN (keyA a (tR a 19 s k'))
def Kp (a b : TS) : Prop := (∀ s, s < tZ a 27 0 → Kp1 a b s) ∧ ∀ s, tZ a 27 0 ≤ s → tI b 68 0 s = 0
theorem isKp_M {c : Nat} (h : isKp c) : isM c := by
  rcases h with e | e | e <;> subst e <;> exact ⟨by decide +kernel, by decide +kernel⟩
/-- what the rows need of a step so that what is kept stands -/
def Kst (a a' b b' : TS) : Prop := (PS a a' b b') ∧ (gro a a' 12) ∧ (gro a a' 23) ∧ (gro a a' 39) ∧ (groQ b b') ∧ (∀ p, p < tZ a 29 0 → tI b 87 0 (10 * p) ≠ 1 → tI b' 87 0 (10 * p) ≠ 1) ∧ (∀ p, p < tZ a 29 0 → tI b 70 0 p ≠ 0 → tI b' 70 0 p ≠ 0) ∧ (∀ s m, s < tZ a 27 0 → tI b 69 0 s = Int32.ofNat m → m ≤ 100 → ∃ m', tI b' 69 0 s = Int32.ofNat m' ∧ m ≤ m' ∧ m' ≤ 100)
theorem Kst.ps {a a' b b' : TS} (h : Kst a a' b b') : PS a a' b b' := h.1
theorem Kst.g12 {a a' b b' : TS} (h : Kst a a' b b') : gro a a' 12 := h.2.1
theorem Kst.g23 {a a' b b' : TS} (h : Kst a a' b b') : gro a a' 23 := h.2.2.1
theorem Kst.g39 {a a' b b' : TS} (h : Kst a a' b b') : gro a a' 39 := h.2.2.2.1
theorem Kst.q {a a' b b' : TS} (h : Kst a a' b b') : groQ b b' := h.2.2.2.2.1
theorem Kst.s1 {a a' b b' : TS} (h : Kst a a' b b') : ∀ p, p < tZ a 29 0 → tI b 87 0 (10 * p) ≠ 1 → tI b' 87 0 (10 * p) ≠ 1 := h.2.2.2.2.2.1
theorem Kst.s70 {a a' b b' : TS} (h : Kst a a' b b') : ∀ p, p < tZ a 29 0 → tI b 70 0 p ≠ 0 → tI b' 70 0 p ≠ 0 := h.2.2.2.2.2.2.1
theorem Kst.s69 {a a' b b' : TS} (h : Kst a a' b b') : ∀ s m, s < tZ a 27 0 → tI b 69 0 s = Int32.ofNat m → m ≤ 100 → ∃ m', tI b' 69 0 s = Int32.ofNat m' ∧ m ≤ m' ∧ m' ≤ 100 := h.2.2.2.2.2.2.2
theorem kcd_c {a a' b b' : TS} {s : Nat} {g : Nat → Int32} (h : kcd a b s g) (hs : s < tZ a 27 0) (hk : Kst a a' b b') : kcd a' b' s g := by
  rcases h with ⟨h1, p, h2, h3, h4⟩ | ⟨h1, p, h2, h3, h4⟩ | ⟨h1, n, m, h2, h3, h4, h5⟩
  · exact Or.inl ⟨h1, p, Nat.lt_of_lt_of_le h2 hk.ps.1.1, h3, hk.s1 p h2 h4⟩
  · exact Or.inr (Or.inl ⟨h1, p, Nat.lt_of_lt_of_le h2 hk.ps.1.1, h3, hk.s70 p h2 h4⟩)
  · obtain ⟨m', m1, m2, m3⟩ := hk.s69 s m hs h3 h5
    exact Or.inr (Or.inr ⟨h1, n, m', h2, m1, by omega, m3⟩)
theorem mv_congr {a a' : TS} {c i : Nat} (h : ∀ f, f ≠ 13 → f ≠ 12 → tI a' c i f = tI a c i f) : mv a' c i = mv a c i := by
  funext f
  unfold mv
  by_cases e : (f < 12 ∧ f ≠ 3) ∨ f = 14
  · rw [if_pos e, if_pos e, h f (by omega) (by omega)]
  · rw [if_neg e, if_neg e]
theorem keptM_c {a a' b b' : TS} {s : Nat} {o q o' q' : Option (Nat × Nat)} {t t' : Int32} (h : keptM a b s o q t) (hs : s < tZ a 27 0) (hk : Kst a a' b b') (ho : o' = o) (hq : q' = q) (ht : t' = t) : keptM a' b' s o' q' t' := by
  subst ho
  subst hq
  subst ht
  obtain ⟨c, i, q', h1, h2, h3, h4, h5, h6, h7, h8, h9, h10⟩ := h
  have hg : gro a a' c := by rcases h3 with e | e | e <;> subst e; exact hk.g12; exact hk.g23; exact hk.g39
  have e1 : mv a' c i = mv a c i := mv_congr (fun f _ _ => hg.2 i h4 f)
  have e2 : qv b' (some q') = qv b (some q') := qv_congr (fun f => (hk.q q'.1 h5).2 q'.2 h6 f)
  exact ⟨c, i, q', h1, h2, h3, Nat.lt_of_lt_of_le h4 hg.1, h5, Nat.lt_of_lt_of_le h6 (hk.q q'.1 h5).1, ⟨(hg.2 i h4 13).trans h7.1, h7.2⟩, by rw [e1, e2]; exact upM_c h8 hk.ps, by rw [e1]; exact h9, by rw [e1]; exact kcd_c h10 hs hk⟩
theorem keyA_c {a a' b : TS} {s : Nat} {o q : Option (Nat × Nat)} {t : Int32} (h : keptM a b s o q t) (g12 : gro a a' 12) (g23 : gro a a' 23) (g39 : gro a a' 39) : keyA a' o = keyA a o := by
  obtain ⟨c, i, q', h1, h2, h3, h4, -⟩ := h
  have hg : gro a a' c := by rcases h3 with e | e | e <;> subst e; exact g12; exact g23; exact g39
  subst h1
  unfold keyA
  dsimp only
  rw [hg.2 i h4, hg.2 i h4, hg.2 i h4]
theorem Kp1_c {a a' b b' : TS} {s : Nat} (h : Kp1 a b s) (hs : s < tZ a 27 0) (hk : Kst a a' b b') (z : tZ a' 19 s = tZ a 19 s) (c : tC a' 19 s = tC a 19 s) (r : ∀ k, tR a' 19 s k = tR a 19 s k) (w68 : tI b' 68 0 s = tI b 68 0 s) (w66 : ∀ k, k < 500 → tR b' 66 0 (500 * s + k) = tR b 66 0 (500 * s + k)) (w67 : ∀ k, k < 500 → tI b' 67 0 (500 * s + k) = tI b 67 0 (500 * s + k)) : Kp1 a' b' s := by
  obtain ⟨h1, h2, h3, h4, h5⟩ := h
  refine ⟨?_, by rw [w68, z]; exact h2, by rw [z]; exact h3, fun k hk' => ?_, fun k k' l hk' => ?_⟩
  · unfold capOK at *
    rw [z, c]
    exact h1
  · rw [z] at hk'
    exact keptM_c (h4 k hk') hs hk (r k) (w66 k (by omega)) (w67 k (by omega))
  · rw [z] at hk'
    rw [r, r, keyA_c (h4 k (by omega)) hk.g12 hk.g23 hk.g39, keyA_c (h4 k' hk') hk.g12 hk.g23 hk.g39]
    exact h5 k k' l hk'
/-- a step that touches none of it -/
theorem Kp_c {D D' : List Nat} {F F' : List (Nat × Nat)} {a a' b b' : TS} (h : Kp a b) (ha : chF D F a a') (hb : chF D' F' b b') (hd : dpk D F [12, 19, 23, 27, 39] [] = true) (hd' : dpk D' F' [66, 67, 68, 69, 70] [] = true) (hp : PS a a' b b') (hq : groQ b b') (s1 : ∀ p, p < tZ a 29 0 → tI b 87 0 (10 * p) ≠ 1 → tI b' 87 0 (10 * p) ≠ 1) : Kp a' b' := by
  have hk : Kst a a' b b' := ⟨hp, ⟨Nat.le_of_eq (dN ha hd (s := 12) (by simp)).symm, fun i _ k => dIS ha hd (s := 12) (by simp) i k⟩, ⟨Nat.le_of_eq (dN ha hd (s := 23) (by simp)).symm, fun i _ k => dIS ha hd (s := 23) (by simp) i k⟩, ⟨Nat.le_of_eq (dN ha hd (s := 39) (by simp)).symm, fun i _ k => dIS ha hd (s := 39) (by simp) i k⟩, hq, s1, fun p _ q => by rw [dIS hb hd' (s := 70) (by simp)]; exact q, fun s m _ q q' => ⟨m, by rw [dIS hb hd' (s := 69) (by simp)]; exact q, Nat.le_refl _, q'⟩⟩
  refine ⟨fun s hs => ?_, fun s hs => ?_⟩
  · rw [dZ ha hd (s := 27) (by simp)] at hs
    exact Kp1_c (h.1 s hs) hs hk (dZ ha hd (s := 19) (by simp) s) (dC ha hd (s := 19) (by simp) s) (dR ha hd (s := 19) (by simp) s) (dIS hb hd' (s := 68) (by simp) 0 s) (fun k _ => dR hb hd' (s := 66) (by simp) 0 _) (fun k _ => dIS hb hd' (s := 67) (by simp) 0 _)
  · rw [dZ ha hd (s := 27) (by simp)] at hs
    rw [dIS hb hd' (s := 68) (by simp)]
    exact h.2 s hs
/-- a kept message says of which shop it is -/
theorem kept_shop {a b : TS} {s : Nat} {o q : Option (Nat × Nat)} {t : Int32} (h : keptM a b s o q t) : ∃ c i p, o = some (c, i) ∧ isKp c ∧ i < tN a c ∧ p < tZ a 29 0 ∧ tI a c i 1 = Int32.ofNat p ∧ tI b 87 0 (10 * p + 2) = Int32.ofNat s := by
  obtain ⟨c, i, q', h1, h2, h3, h4, h5, h6, h7, h8, h9, h10⟩ := h
  have e1 : mv a c i 1 = tI a c i 1 := mv_at (Or.inl ⟨by decide, by decide⟩)
  obtain ⟨u1, u2, u3, u4, u5⟩ := h8
  rw [e1] at u5
  rcases u5 with ⟨v1, -⟩ | ⟨v1, v2, v3, v4, p, v5, v6, v7⟩ | ⟨v1, v2, v3, n, p, cd, cc, w0, w1, w2, w3, -, w5, -, -, -, w9, -, w11⟩ | ⟨v1, v2, v3, v4, v5, v6, p, v7, v8, v9⟩
  · rcases h10 with ⟨e, -⟩ | ⟨e, -⟩ | ⟨e, -⟩ <;> rw [v1] at e <;> exact absurd e (by decide)
  · exact ⟨c, i, p, h1, h3, h4, v5, v6, v7⟩
  · have e := w9 h9
    subst e
    rw [e1] at w5
    exact ⟨c, i, n, h1, h3, h4, w1, w5.1, (w11 h9).1⟩
  · exact ⟨c, i, p, h1, h3, h4, v7, v8, v9⟩
/-! when what is kept was put last -/
def KTs (a b : TS) (s : Nat) : List Nat := (List.range (tZ a 19 s)).map (fun k => (tI b 67 0 (500 * s + k)).toNatClampNeg)
/-- some are gone from a list -/
def Ers (P P' : List Nat) : Prop := ∃ R : List Nat, (∀ g, P.count g = P'.count g + R.count g) ∧ P.length = P'.length + R.length
theorem Ers_r (P : List Nat) : Ers P P := ⟨[], fun _ => rfl, rfl⟩
theorem Ers_t {P P' P'' : List Nat} (h1 : Ers P P') (h2 : Ers P' P'') : Ers P P'' := by
  obtain ⟨R, r1, r2⟩ := h1
  obtain ⟨S, s1, s2⟩ := h2
  exact ⟨S ++ R, fun g => by rw [r1, s1, List.count_append]; omega, by rw [r2, s2, List.length_append]; omega⟩
theorem Ers_i : ∀ (P : List Nat) (j : Nat), Ers P (P.eraseIdx j)
  | [], _ => Ers_r _
  | x :: P, 0 => ⟨[x], fun g => by rw [List.eraseIdx_cons_zero, List.count_cons, List.count_cons, List.count_nil]; omega, by rw [List.eraseIdx_cons_zero]; rfl⟩
  | x :: P, j + 1 => by
    obtain ⟨R, r1, r2⟩ := Ers_i P j
    refine ⟨R, fun g => ?_, ?_⟩
    · rw [List.eraseIdx_cons_succ, List.count_cons, List.count_cons, r1 g]; omega
    · rw [List.eraseIdx_cons_succ, List.length_cons, List.length_cons, r2]; omega
theorem KTs_eq {a a' b b' : TS} {s : Nat} (z : tZ a' 19 s = tZ a 19 s) (h : ∀ k, k < tZ a 19 s → tI b' 67 0 (500 * s + k) = tI b 67 0 (500 * s + k)) : KTs a' b' s = KTs a b s := by
  unfold KTs
  rw [z]
  exact List.map_congr_left (fun k hk => by rw [h k (List.mem_range.mp hk)])
/-! what is kept, as a list -/
def kR3 (a b : TS) (s k : Nat) : Option (Nat × Nat) × Option (Nat × Nat) × Int32 := (tR a 19 s k, tR b 66 0 (500 * s + k), tI b 67 0 (500 * s + k))
def kL (a b : TS) (s : Nat) : List (Option (Nat × Nat) × Option (Nat × Nat) × Int32) := (List.range (tZ a 19 s)).map (kR3 a b s)
theorem kL_eq {a a' b b' : TS} {s : Nat} (z : tZ a' 19 s = tZ a 19 s) (h : ∀ k, k < tZ a 19 s → kR3 a' b' s k = kR3 a b s k) : kL a' b' s = kL a b s := by
  unfold kL
  rw [z]
  exact List.map_congr_left (fun k hk => h k (List.mem_range.mp hk))
theorem kL_er {a a' b b' : TS} {s n j : Nat} (hn : tZ a 19 s = n) (hj : j < n) (z : tZ a' 19 s = n - 1) (h : ∀ k, k < n - 1 → kR3 a' b' s k = kR3 a b s (if k < j then k else k + 1)) : kL a' b' s = (kL a b s).eraseIdx j := by
  unfold kL
  rw [z, hn]
  apply List.ext_getElem?
  intro k
  rw [List.getElem?_eraseIdx]
  by_cases hk : k < j
  · rw [if_pos hk, List.getElem?_map, List.getElem?_map, List.getElem?_range (by omega), List.getElem?_range (by omega), Option.map_some, Option.map_some, h k (by omega), if_pos hk]
  · rw [if_neg hk]
    by_cases hk2 : k < n - 1
    · rw [List.getElem?_map, List.getElem?_map, List.getElem?_range hk2, List.getElem?_range (by omega), Option.map_some, Option.map_some, h k hk2, if_neg hk]
    · rw [List.getElem?_eq_none (by rw [List.length_map, List.length_range]; omega), List.getElem?_eq_none (by rw [List.length_map, List.length_range]; omega)]
/-- a kept one is done with -/
def FgtP (a b a' b' : TS) (sh : Nat) (key : Int32 × Int32 × Int32) : Prop := (∀ s, s < tZ a 27 0 → s ≠ sh → kL a' b' s = kL a b s) ∧
  ((∃ j, j < tZ a 19 sh ∧ keyA a (tR a 19 sh j) = key ∧ kL a' b' sh = (kL a b sh).eraseIdx j) ∨ ((∀ j, j < tZ a 19 sh → keyA a (tR a 19 sh j) ≠ key) ∧ kL a' b' sh = kL a b sh))
theorem kL_c {D D' : List Nat} {F F' : List (Nat × Nat)} {a a' b b' : TS} (ha : chF D F a a') (hb : chF D' F' b b') (hd : dpk D F [19] [] = true) (hd' : dpk D' F' [66, 67] [] = true) (s : Nat) : kL a' b' s = kL a b s :=
  kL_eq (dZ ha hd (s := 19) (by simp) s) (fun k _ => by unfold kR3; rw [dR ha hd (s := 19) (by simp), dR hb hd' (s := 66) (by simp), dIS hb hd' (s := 67) (by simp)])
theorem kL_add {a a' b b' : TS} {s : Nat} {x : Option (Nat × Nat) × Option (Nat × Nat) × Int32} (z : tZ a' 19 s = tZ a 19 s + 1) (h : ∀ k, k < tZ a 19 s → kR3 a' b' s k = kR3 a b s k) (hx : kR3 a' b' s (tZ a 19 s) = x) : kL a' b' s = kL a b s ++ [x] := by
  unfold kL
  rw [z, List.range_succ, List.map_append, List.map_singleton, hx]
  congr 1
  exact List.map_congr_left (fun k hk => h k (List.mem_range.mp hk))
/-- a message is kept -/
def KeepE (a b a' b' : TS) (sh : Nat) (o q : Option (Nat × Nat)) : Prop := kL a' b' sh = kL a b sh ++ [(o, q, tI b 95 0 1)] ∧ ∀ s, s < tZ a 27 0 → s ≠ sh → kL a' b' s = kL a b s
