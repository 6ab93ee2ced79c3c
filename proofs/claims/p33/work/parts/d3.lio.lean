/-! ===== the view of the house ===== -/
def oPf (b : TS) (p f : Nat) : Int32 := tI b 87 0 (10 * p + f)
def oCt (b : TS) (k : Nat) : Int32 := tI b 86 0 (10 * k)
def oSe (b : TS) (p : Nat) : Prop := tI b 70 0 p ≠ 0
def oUp (a b : TS) (d : Int32) (g : Nat → Int32) : Prop := ∃ s, s < tZ a 27 0 ∧ (d, g) ∈ vQ b (2 * s)
def oDn (a b : TS) (d : Int32) (g : Nat → Int32) : Prop := ∃ s, s < tZ a 27 0 ∧ (d, g) ∈ vQ b (2 * s + 1)
def KM (a b : TS) (s : Nat) : List (Nat → Int32) := (kL a b s).map (fun x => qv b x.2.1)
def oKp (a b : TS) (g : Nat → Int32) : Prop := ∃ s, s < tZ a 27 0 ∧ g ∈ KM a b s
def oNt (a : TS) (p : Nat) : Prop := ∃ k, k < tZ a 15 0 ∧ ntP a k = Int32.ofNat p
def oSw (b : TS) (p : Nat) : Prop := ∃ k, k < 8 ∧ tI b 87 0 (10 * p + 1) = Int32.ofNat k ∧ SwD b k (tI b 87 0 (10 * p + 3))
def LIb (a b : TS) : Prop := LI (tZ a 29 0) (oPf b) (oCt b) (oSe b) (hI b) (hA b) (oUp a b) (oDn a b) (oKp a b) (oNt a) (tI b 95 0 5 ≠ 0) (tI b 95 0 1) (oSw b)
/-- the mails of what is kept are there -/
def KpQ (a b : TS) : Prop := ∀ s, s < tZ a 27 0 → ∀ x ∈ kL a b s, ∃ q, x.2.1 = some q ∧ isQ q.1 ∧ q.2 < tN b q.1
def LIc (a b : TS) : Prop := KpQ a b ∧ (tI b 95 0 6 = 0 → LIb a b)
theorem KpQ_of {a b : TS} (h : Kp a b) : KpQ a b := by
  intro s hs x hx
  obtain ⟨-, -, -, h4, -⟩ := h.1 s hs
  obtain ⟨k, k1, k2⟩ := List.mem_map.mp hx
  have k1 := List.mem_range.mp k1
  obtain ⟨c, i, q', -, q2, -, -, q5, q6, -⟩ := h4 k k1
  refine ⟨q', ?_, q5, q6⟩
  rw [← k2]
  exact q2
theorem qv_gro {b b' : TS} (hg : groQ b b') {q : Nat × Nat} (h1 : isQ q.1) (h2 : q.2 < tN b q.1) : qv b' (some q) = qv b (some q) := qv_congr (fun f => (hg q.1 h1).2 q.2 h2 f)
theorem KM_same {a a' b b' : TS} (hQ : KpQ a b) (hk : ∀ s, s < tZ a 27 0 → kL a' b' s = kL a b s) (hg : groQ b b') {s : Nat} (hs : s < tZ a 27 0) : KM a' b' s = KM a b s := by
  unfold KM
  rw [hk s hs]
  exact List.map_congr_left (fun x hx => by
    obtain ⟨q, q1, q2, q3⟩ := hQ s hs x hx
    rw [q1]
    exact qv_gro hg q2 q3)
theorem KpQ_same {a a' b b' : TS} (hQ : KpQ a b) (z : tZ a' 27 0 = tZ a 27 0) (hk : ∀ s, s < tZ a 27 0 → kL a' b' s = kL a b s) (hg : groQ b b') : KpQ a' b' := by
  intro s hs x hx
  rw [z] at hs
  rw [hk s hs] at hx
  obtain ⟨q, q1, q2, q3⟩ := hQ s hs x hx
  exact ⟨q, q1, q2, Nat.lt_of_lt_of_le q3 (hg q.1 q2).1⟩
theorem oKp_same {a a' b b' : TS} (hQ : KpQ a b) (z : tZ a' 27 0 = tZ a 27 0) (hk : ∀ s, s < tZ a 27 0 → kL a' b' s = kL a b s) (hg : groQ b b') : oKp a' b' = oKp a b := by
  funext g
  unfold oKp
  rw [z]
  apply propext
  constructor
  · intro ⟨s, h1, h2⟩
    exact ⟨s, h1, by rw [← KM_same hQ hk hg h1]; exact h2⟩
  · intro ⟨s, h1, h2⟩
    exact ⟨s, h1, by rw [KM_same hQ hk hg h1]; exact h2⟩
theorem oPf_c {D : List Nat} {F : List (Nat × Nat)} {b b' : TS} (h : chF D F b b') (hd : dpk D F [87] [] = true) : oPf b' = oPf b := funext fun p => funext fun f => dIS h hd (s := 87) (by simp) 0 _
theorem oCt_c {D : List Nat} {F : List (Nat × Nat)} {b b' : TS} (h : chF D F b b') (hd : dpk D F [86] [] = true) : oCt b' = oCt b := funext fun p => dIS h hd (s := 86) (by simp) 0 _
theorem oSe_c {D : List Nat} {F : List (Nat × Nat)} {b b' : TS} (h : chF D F b b') (hd : dpk D F [70] [] = true) : oSe b' = oSe b := funext fun p => by unfold oSe; rw [dIS h hd (s := 70) (by simp) 0 p]
theorem o95_c {D : List Nat} {F : List (Nat × Nat)} {b b' : TS} (h : chF D F b b') (hd : dpk D F [] [(95, 5), (95, 1), (95, 6), (95, 3)] = true) : tI b' 95 0 5 = tI b 95 0 5 ∧ tI b' 95 0 1 = tI b 95 0 1 ∧ tI b' 95 0 6 = tI b 95 0 6 ∧ tI b' 95 0 3 = tI b 95 0 3 :=
  ⟨dI h hd (s := 95) (k := 5) (by simp) 0, dI h hd (s := 95) (k := 1) (by simp) 0, dI h hd (s := 95) (k := 6) (by simp) 0, dI h hd (s := 95) (k := 3) (by simp) 0⟩
theorem oSw_m {b b' : TS} (h87 : oPf b' = oPf b) (h73 : ∀ k, k < 8 → (3 : Int32) ≤ tI b 73 0 k → (3 : Int32) ≤ tI b' 73 0 k) (h95 : tI b' 95 0 3 = tI b 95 0 3) (p : Nat) (h : oSw b p) : oSw b' p := by
  obtain ⟨k, k1, k2, k3⟩ := h
  have e1 : tI b' 87 0 (10 * p + 1) = tI b 87 0 (10 * p + 1) := congrFun (congrFun h87 p) 1
  have e3 : tI b' 87 0 (10 * p + 3) = tI b 87 0 (10 * p + 3) := congrFun (congrFun h87 p) 3
  refine ⟨k, k1, e1.trans k2, ?_⟩
  unfold SwD
  rw [e3, h95]
  exact k3.imp id (h73 k k1)
theorem oSw_c {D : List Nat} {F : List (Nat × Nat)} {b b' : TS} (h : chF D F b b') (hd : dpk D F [73, 87] [(95, 3)] = true) : oSw b' = oSw b := by
  funext p
  unfold oSw SwD
  have e := dIS h hd (s := 87) (by simp)
  have e2 := dIS h hd (s := 73) (by simp)
  have e3 := dI h hd (s := 95) (k := 3) (by simp) 0
  simp only [e, e2, e3]
/-- the notes say how many there are of a card -/
theorem nt73 {a a' b b' : TS} (hN : Nt a b) (hN' : Nt a' b') (hS : NtS a a') (hP : PM a a' b b') (h200 : tZ a 29 0 ≤ 200) (h200' : tZ a' 29 0 ≤ 200) {k : Nat} (hk : k < 8) : tI b' 73 0 k = tI b 73 0 k := by
  obtain ⟨-, -, n3, -, n5, -⟩ := hN
  obtain ⟨-, -, m3, -, m5, -⟩ := hN'
  rw [m5 k hk, n5 k hk, hS.1]
  congr 1
  refine List.countP_congr (fun j hj => ?_)
  have hj := List.mem_range.mp hj
  have e : ntC a' j = ntC a j := by
    obtain ⟨i, q, p, cd, c, sh, -, i2, -, -, -, i6, -, -, -, ⟨j1, j2, -⟩, -, -, j3, -⟩ := n3 j hj
    obtain ⟨i', q', p', cd', c', sh', -, i2', -, -, -, i6', -, -, -, ⟨j1', j2', -⟩, -, -, j3', -⟩ := m3 j (by rw [hS.1]; exact hj)
    have e1 : ntP a j = Int32.ofNat p := by unfold ntP; rw [i2]; exact j1
    have e2 : ntP a' j = Int32.ofNat p' := by unfold ntP; rw [i2']; exact j1'
    have e3 : ntC a j = Int32.ofNat cd := by unfold ntC; rw [i2]; exact j2
    have e4 : ntC a' j = Int32.ofNat cd' := by unfold ntC; rw [i2']; exact j2'
    have e5 := inj2 (e1.symm.trans ((hS.2 j hj).symm.trans e2)) (by omega) (by omega)
    subst e5
    rw [e3, e4, ← j3, ← j3', (hP.2.2.2 p i6).1]
  rw [e]
