/-! ===== the room of all; a shop's part of a tick ===== -/
def phi (a b : TS) (s : Nat) : Nat := (vQ b (2 * s)).length + sP (KTs a b s) + (tI b 48 (2 * s) 1).toNatClampNeg
def unsN (b : TS) (n : Nat) : Nat := (List.range n).countP (fun p => decide (tI b 70 0 p = 0))
def bkN (b : TS) : Nat := sumS 4 (fun s => 100 - (tI b 69 0 s).toNatClampNeg)
/-- how many may still be kept -/
def GK (a b : TS) : Nat := 2 * (200 - tZ a 29 0) + askN b (tZ a 29 0) + unsN b (tZ a 29 0) + bkN b
def Kc (a : TS) : Nat := tN a 11 + tN a 12 + tN a 23 + tN a 39
/-- what the reference made to be kept -/
def Kb (b : TS) : Nat := tN b 76 + tN b 77 + tN b 78
/-- the room, in the middle of a tick T; C: what is granted beside -/
def Rm0 (a b : TS) (C T : Nat) (lo : Nat → Nat) : Prop :=
  T ≤ 3000 ∧ C ≤ 512 ∧ tI b 95 0 1 = Int32.ofNat T ∧ (Kc a + GK a b + (200 - tZ a 29 0) ≤ 1000 + C ∧ Kb b ≤ Kc a) ∧
  Mt b + sumS (tZ a 27 0) (phi a b) + 301 * GK a b + (200 - tZ a 29 0) ≤ 241000 + 100 * C ∧
  (∀ s ∈ [5, 6, 16, 17], tN a s + sumS (tZ a 27 0) (fun s' => ask0 (vQ b (2 * s'))) + 2 * (200 - tZ a 29 0) ≤ 400) ∧
  ∀ s, s < tZ a 27 0 → Rsh T (lo s) (Kc a) (KTs a b s) (vQ b (2 * s)) (vQ b (2 * s + 1)) (tZ a 9 (2 * s)) (tZ a 9 (2 * s + 1))
/-- what a part of a tick leaves as it was -/
def TkA : List Nat := [1, 2, 3, 4, 5, 6, 7, 8, 9, 10, 15, 16, 17, 18, 19, 20, 21, 22, 23]
def FtA : List (Nat × Nat) := FhA ++ FpA ++ FkA ++ [(25, 0)]
def TkB : List Nat := DhB ++ [66, 67, 68, 76, 86, 87]
def FtB : List (Nat × Nat) := FhB ++ [(97, 5), (93, 9), (95, 1)]
def Fr (a a' b b' : TS) : Prop := chF TkA FtA a a' ∧ chF TkB FtB b b' ∧ Wr a a' ∧ Wr b b'
theorem Fr_r (a b : TS) : Fr a a b b := ⟨chF_r _ _ _, chF_r _ _ _, Wr.rf _, Wr.rf _⟩
theorem Fr_t {a a1 a2 b b1 b2 : TS} (h1 : Fr a a1 b b1) (h2 : Fr a1 a2 b1 b2) : Fr a a2 b b2 := ⟨chF_t h1.1 h2.1, chF_t h1.2.1 h2.2.1, h1.2.2.1.t h2.2.2.1, h1.2.2.2.t h2.2.2.2⟩
theorem delay_n {a b : TS} (h : R0 a b) : ∃ n, 1 ≤ n ∧ n ≤ 5 ∧ tI b 95 0 2 = Int32.ofNat n := by
  obtain ⟨-, -, ⟨-, n, h1, h2, h3⟩, -⟩ := r_H h
  exact ⟨n, h1, h2, h3⟩
theorem askN_le {b b' : TS} (h : Stt b b') (n : Nat) : askN b' n ≤ askN b n := by
  unfold askN
  refine List.countP_mono_left (fun p _ q => ?_)
  simp only [decide_eq_true_iff] at q ⊢
  exact Classical.byContradiction (fun z => Stt_1 h p z q)
theorem unsN_eq {b b' : TS} (h : ∀ p, tI b' 70 0 p = tI b 70 0 p) (n : Nat) : unsN b' n = unsN b n := by
  unfold unsN
  simp only [h]
theorem bkN_eq {b b' : TS} (h : ∀ p, tI b' 69 0 p = tI b 69 0 p) : bkN b' = bkN b := by
  unfold bkN
  simp only [h]
theorem ask0_split (t : Int32) (l : List Ent) : ask0 (rst t l) + ask0 (due t l) = ask0 l := by
  unfold ask0 rst due
  induction l with
  | nil => rfl
  | cons e l ih =>
    by_cases q : e.1 = t
    · rw [List.filter_cons_of_neg (by simp [q]), List.filter_cons_of_pos (by simp [q])]
      by_cases q2 : e.2 0 = 0
      · rw [List.countP_cons_of_pos (by simpa using q2), List.countP_cons_of_pos (by simpa using q2)]; omega
      · rw [List.countP_cons_of_neg (by simpa using q2), List.countP_cons_of_neg (by simpa using q2)]; omega
    · rw [List.filter_cons_of_pos (by simp [q]), List.filter_cons_of_neg (by simp [q])]
      by_cases q2 : e.2 0 = 0
      · rw [List.countP_cons_of_pos (by simpa using q2), List.countP_cons_of_pos (by simpa using q2)]; omega
      · rw [List.countP_cons_of_neg (by simpa using q2), List.countP_cons_of_neg (by simpa using q2)]; omega
/-- what happens in a tick: the clock goes on, lines are heard, terminals look at the time -/
def EvC (a b a' b' : TS) : Prop := ∃ T, T < 3000 ∧ tI b 95 0 1 = Int32.ofNat T ∧ a' = sI a 25 0 0 (Int32.ofNat (T + 1)) ∧ b' = sI (sI (sI b 97 0 5 (Int32.ofNat (T + 1))) 93 0 9 (Int32.ofNat (T + 1))) 95 0 1 (Int32.ofNat (T + 1)) ∧ Al a b ∧ Al a' b'
def EvL (a b a' b' : TS) : Prop := EvU a b a' b' ∨ EvW a b a' b'
def EvM (a b a' b' : TS) : Prop := EvG a b a' b' ∨ EvR a b a' b'
/-- nothing is due at T or was before -/
def NoDue (a b : TS) (T : Nat) : Prop := ∀ c, c < 2 * tZ a 27 0 → ∀ e ∈ vQ b c, dok (T + 1) (T + 9) e
theorem NoDue_of {a b : TS} {C T : Nat} (h : Rm0 a b C T (fun _ => T + 1)) : NoDue a b T := by
  obtain ⟨-, -, -, -, -, -, m7⟩ := h
  intro c hc e he
  obtain ⟨-, u, d, -⟩ := m7 (c / 2) (by omega)
  have : c % 2 = 0 ∨ c % 2 = 1 := by omega
  rcases this with q | q
  · have e2 : 2 * (c / 2) = c := by omega
    rw [e2] at u
    exact u e he
  · have e2 : 2 * (c / 2) + 1 = c := by omega
    rw [e2] at d
    exact d e he
/-- nothing that is kept was put ten ticks ago -/
def Yg (a b : TS) (s T : Nat) : Prop := ∀ l ∈ KTs a b s, T < l + 10
/-- what a terminal's look leaves of the others -/
def LkO (a a' b b' : TS) (s : Nat) : Prop := Stt b b' ∧ (∀ s', s' < tZ a 27 0 → s' ≠ s → KTs a' b' s' = KTs a b s') ∧ (∀ p, p < tZ a 29 0 → tI b' 87 0 (10 * p + 2) = tI b 87 0 (10 * p + 2) ∧ tI b' 87 0 (10 * p + 6) = tI b 87 0 (10 * p + 6)) ∧ tZ a' 29 0 = tZ a 29 0 ∧ tI b' 95 0 1 = tI b 95 0 1
theorem GvT_o {a a' b b' : TS} {s s0 : Nat} (h : GvT a b s) (ho : LkO a a' b b' s0) : GvT a' b' s := by
  obtain ⟨h1, -, h3, h4, h5⟩ := ho
  intro q hq e1 e2 e3
  rw [h4] at hq
  rw [(h3 q hq).1] at e1
  rw [(h3 q hq).2, h5] at e3
  rcases h1 q with e | ⟨-, e⟩
  · exact h q hq e1 (e.symm.trans e2) e3
  · exact e e2
theorem tick_c {a a' b b' : TS} {D : List Nat} {F : List (Nat × Nat)} (hR : R0 a b) (hR' : R0 a' b') (ca : chF D F a a') (hd : dpk D F [] [(38, 6)] = true) (hz : tZ a' 29 0 = tZ a 29 0) {p : Nat} (hp : p < tZ a 29 0) : tI b' 87 0 (10 * p + 6) = tI b 87 0 (10 * p + 6) := by
  have e1 := ((r_P' hR).2.2.2.2.1 p hp).2.2.2.2.2.2.1
  have e2 := ((r_P' hR').2.2.2.2.1 p (by rw [hz]; exact hp)).2.2.2.2.2.2.1
  rw [← e1, ← e2]
  exact dI ca hd (s := 38) (k := 6) (by simp) p
set_option maxHeartbeats 4000000 in
/-- what comes of a shop, up and down -/
theorem hear_shop {a b : TS} {C T s : Nat} {lo : Nat → Nat} (hA : Al a b) (hM : Rm0 a b C T lo) (hs : s < tZ a 27 0) (hlo : lo s = T) :
    ∃ a1 b1 a' b', (∀ z, Ex 107 [aR (some (96, 0)), aR (some (36, s))] (enc 1 a z) = some (.inl none, enc 1 a1 z)) ∧ (∀ z, Ex 71 [aR (some (36, s))] (enc 1 a1 z) = some (.inl none, enc 1 a' z)) ∧ R0 a1 b1 ∧ tZ a1 27 0 = tZ a 27 0 ∧
      (∀ z, Ru 205 2 [(0, aR (some (95, 0))), (1, aI (Int32.ofNat s))] [] (enc 2 b z) = Ru 205 2 [(0, aR (some (95, 0))), (1, aI (Int32.ofNat (s + 1)))] [] (enc 2 b' z)) ∧
      Al a' b' ∧ Rm0 a' b' C T (fun s' => if s' = s then T + 1 else lo s') ∧ Fr a a' b b' ∧ StpE EvL a b a' b' := by
  obtain ⟨hR, hN, hL, hAs, hK⟩ := hA
  obtain ⟨m1, m2, m3, m4, m5, m6, m7⟩ := hM
  have rs := m7 s hs
  rw [hlo] at rs
  obtain ⟨hU, hD⟩ := hL.2 s hs
  have kk : Kc a ≤ 1512 := by omega
  have lu := Rsh_U rs m1 (Nat.le_refl _)
  have ld := Rsh_D rs m1 (Nat.le_refl _)
  have zd := rs.2.2.2.2
  obtain ⟨dl, dl1, dl5, dle⟩ := delay_n hR
  obtain ⟨S1, S2, ⟨S3, S4, S5', S6, S7, S8⟩, ⟨S9a, S9b, S9c⟩, S10⟩ := r_S hR
  have hfr := r_FR hR
  obtain ⟨a1, b1, Ys, x1, y1, ⟨⟨u1, u2, u3, u4, u5, u6⟩, v1, v2, v3, v4, v5, v6, v7, ⟨w1, w2, w3, w4, w5⟩, w6, w7⟩, hS1⟩ := sim_up hR hN hL.1 hU hD hs (by omega) (by omega)
  have As1 := As_c hAs w1 w2 (by decide) (by decide)
  have Kp1' := Kp_c hK w1 w2 (by decide) (by decide) u6 w3 (fun p _ h => Stt_1 (Stt_c w2 (by decide)) p h)
  have z27 : tZ a1 27 0 = tZ a 27 0 := shop_A w1
  obtain ⟨a2, b2, x2, y2, ⟨⟨p1, p2, p3, p4, p5, p6⟩, q1, q2, q3, q4, ⟨r1, r2, r3, r4, r5, r6⟩, n1, n2, n3⟩, hS2⟩ := sim_dn u1 u2 u3 As1 Kp1' u5 (by rw [z27]; exact hs)
  have z27' : tZ a2 27 0 = tZ a 27 0 := (dZ r1 (S := [27]) (P := []) (s := 27) (by decide) (by simp) 0).trans z27
  have z29' : tZ a2 29 0 = tZ a 29 0 := (dZ r1 (S := [29]) (P := []) (s := 29) (by decide) (by simp) 0).trans (dZ w1 (S := [29]) (P := []) (s := 29) (by decide) (by simp) 0)
  have tk1 : tI b1 95 0 1 = tI b 95 0 1 := (tick_B w2).1
  have tk2 : tI b2 95 0 1 = tI b 95 0 1 := (dI r2 (S := []) (P := [(95, 1)]) (s := 95) (k := 1) (by decide) (by simp) 0).trans tk1
  rw [m3] at v3 v5 tk1
  rw [m3, dle] at v6
  rw [tk1] at q4
  have e70 : ∀ p, tI b2 70 0 p = tI b 70 0 p := fun p => (dIS r2 (S := [70]) (P := []) (s := 70) (by decide) (by simp) 0 p).trans (dIS w2 (S := [70]) (P := []) (s := 70) (by decide) (by simp) 0 p)
  have e69 : ∀ p, tI b2 69 0 p = tI b 69 0 p := fun p => (dIS r2 (S := [69]) (P := []) (s := 69) (by decide) (by simp) 0 p).trans (dIS w2 (S := [69]) (P := []) (s := 69) (by decide) (by simp) 0 p)
  have e48 : ∀ c f, tI b2 48 c f = tI b1 48 c f := dIS r2 (S := [48]) (P := []) (s := 48) (by decide) (by simp)
  have stt : Stt b b2 := Stt_t (Stt_c w2 (by decide)) r4
  have hask := askN_le stt (tZ a 29 0)
  have hGK : GK a2 b2 ≤ GK a b := by
    unfold GK
    rw [z29', unsN_eq e70, bkN_eq e69]
    omega
  have hKc : Kc a2 = Kc a := by
    unfold Kc
    rw [n1, n1, n1, n1, dN w1 (S := [11]) (P := []) (s := 11) (by decide) (by simp), dN w1 (S := [12]) (P := []) (s := 12) (by decide) (by simp), dN w1 (S := [23]) (P := []) (s := 23) (by decide) (by simp), dN w1 (S := [39]) (P := []) (s := 39) (by decide) (by simp)]
  have hMt : Mt b2 = Mt b1 := by unfold Mt; rw [n2, n2, n2]
  have hKb : Kb b2 = Kb b := by
    unfold Kb
    rw [n2, n2, n2, dN w2 (S := [76]) (P := []) (s := 76) (by decide) (by simp), dN w2 (S := [77]) (P := []) (s := 77) (by decide) (by simp), dN w2 (S := [78]) (P := []) (s := 78) (by decide) (by simp)]
  have hKT1 : ∀ s', KTs a1 b1 s' = KTs a b s' := fun s' => KTs_eq (dZ w1 (S := [19]) (P := []) (s := 19) (by decide) (by simp) s') (fun k _ => dIS w2 (S := [67]) (P := []) (s := 67) (by decide) (by simp) 0 _)
  have hEr : ∀ s', s' < tZ a 27 0 → Ers (KTs a b s') (KTs a2 b2 s') := fun s' h => by
    have := n3 s' (by omega)
    rwa [hKT1] at this
  have hvU : vQ b2 (2 * s) = rst (Int32.ofNat T) (vQ b (2 * s)) := (q2 (2 * s) (by omega) (by omega)).2.trans v3
  obtain ⟨-, -, hlen⟩ := due_tm (T := T) (by omega) m1 _ rs.2.1
  have hvO : ∀ c', c' < 2 * tZ a 27 0 → c' ≠ 2 * s → c' ≠ 2 * s + 1 → vA a2 c' = vA a c' ∧ vQ b2 c' = vQ b c' := fun c' h h1 h2 => by
    obtain ⟨i1, i2⟩ := q2 c' (by omega) h2
    obtain ⟨j1, j2⟩ := v1 c' h h2 h1
    exact ⟨i1.trans j1, i2.trans j2⟩
  refine ⟨a1, b1, a2, b2, x1, x2, u1, z27, fun z => ?_, ⟨p1, p2, ⟨p3, fun s' hs' => ?_⟩, p4, p5⟩, ⟨m1, m2, tk2.trans m3, ?_, ?_, fun t ht => ?_, fun s' hs' => ?_⟩, ⟨?_, ?_, w4.t r5, w5.t r6⟩, StpE_t (StpE_m (fun _ _ _ _ h => Or.inl h) hS1) (StpE_m (fun _ _ _ _ h => Or.inr h) hS2)⟩
  · rw [Ref_2 hfr (by omega) hs S1 S9c (hL.1.2.2.1 s hs).1, y1]
    have := y2 z
    rw [tk1, ← m3] at this
    exact this
  · rw [z27'] at hs'
    by_cases e : s' = s
    · subst e
      obtain ⟨i1, i2⟩ := q2 (2 * s') (by omega) (by omega)
      exact ⟨LnU_c u4 p6 i1 i2, q1⟩
    · obtain ⟨h1, h2⟩ := hL.2 s' hs'
      obtain ⟨i1, i2⟩ := hvO (2 * s') (by omega) (by omega) (by omega)
      obtain ⟨j1, j2⟩ := hvO (2 * s' + 1) (by omega) (by omega) (by omega)
      exact ⟨LnU_c h1 (PS_t u6 p6) i1 i2, LnD_c h2 (PS_t u6 p6) j1 j2⟩
  · rw [hKc, hKb, z29']
    omega
  · have hph : sumS (tZ a 27 0) (phi a2 b2) + Ys.length ≤ sumS (tZ a 27 0) (phi a b) + 0 := by
      refine sumS_at (s := s) ?_ _ hs (fun s' hs' hne => ?_)
      · unfold phi
        have := sP_er (hEr s hs)
        rw [hvU, e48, (v2 (2 * s) (by omega) (by omega)).2, v5]
        omega
      · unfold phi
        have := sP_er (hEr s' hs')
        rw [(hvO (2 * s') (by omega) (by omega) (by omega)).2, e48, (v2 (2 * s') (by omega) (by omega)).2]
        omega
    rw [z27', z29', hMt]
    omega
  · have hw := w6 t ht
    rw [m3] at hw
    have hsum : sumS (tZ a 27 0) (fun s' => ask0 (vQ b2 (2 * s'))) + ask0 (due (Int32.ofNat T) (vQ b (2 * s))) ≤ sumS (tZ a 27 0) (fun s' => ask0 (vQ b (2 * s'))) + 0 := by
      refine sumS_at (s := s) ?_ _ hs (fun s' hs' hne => ?_)
      · rw [hvU, ask0_split]
        omega
      · rw [(hvO (2 * s') (by omega) (by omega) (by omega)).2]
        exact Nat.le_refl _
    have := m6 t ht
    rw [z27', z29', n1]
    omega
  · rw [z27'] at hs'
    rw [hKc]
    by_cases e : s' = s
    · subst e
      dsimp only
      rw [if_pos rfl]
      have h := Rsh_hear (Ys := Ys) rs m1 dl1 dl5 v5 v6 (hEr s' hs)
      rw [hvU, q4, v4, q3, q3, (v2 (2 * s') (by omega) (by omega)).1, v7]
      have hl : (vA a1 (2 * s' + 1)).length = (vQ b1 (2 * s' + 1)).length := L2_len u5
      rw [hl, v4]
      exact h
    · dsimp only
      rw [if_neg e]
      have h := m7 s' hs'
      rw [(hvO (2 * s') (by omega) (by omega) (by omega)).2, (hvO (2 * s' + 1) (by omega) (by omega) (by omega)).2, q3, q3, (v2 (2 * s') (by omega) (by omega)).1, (v2 (2 * s' + 1) (by omega) (by omega)).1]
      exact ⟨RmS_er h.1 (hEr s' hs'), h.2⟩
  · exact chF_t (chF_m w1 (by decide) (fun q h => Or.inl (List.mem_append_left _ (List.mem_append_left _ (List.mem_append_left _ h))))) (chF_m r1 (by decide) (fun q h => Or.inl (List.mem_append_left _ (List.mem_append_left _ (List.mem_append_right _ h)))))
  · exact chF_t (chF_m w2 (fun s h => List.mem_append_left _ h) (fun q h => Or.inl (List.mem_append_left _ h))) (chF_m r2 (by decide) (by simp))
set_option maxHeartbeats 4000000 in
/-- a terminal looks at the time -/
theorem look_shop {a b : TS} {C T s : Nat} (hA : Al a b) (hM : Rm0 a b C T (fun _ => T + 1)) (hs : s < tZ a 27 0) :
    ∃ a1 b1 a' b', (∀ z, Ex 74 [aR (some (36, s))] (enc 1 a z) = some (.inl none, enc 1 a1 z)) ∧ (∀ z, Ex 75 [aR (some (36, s))] (enc 1 a1 z) = some (.inl none, enc 1 a' z)) ∧ R0 a1 b1 ∧ tZ a1 27 0 = tZ a 27 0 ∧
      (∀ z, Ex 245 [aR (some (93, 0)), aI (Int32.ofNat s)] (enc 2 b z) = some (.inl none, enc 2 b1 z)) ∧ (∀ z, Ex 211 [aR (some (95, 0)), aI (Int32.ofNat s)] (enc 2 b1 z) = some (.inl none, enc 2 b' z)) ∧
      Al a' b' ∧ Rm0 a' b' C T (fun _ => T + 1) ∧ Fr a a' b b' ∧ StpE EvM a b a' b' ∧ LkO a a' b b' s ∧ GvT a' b' s ∧ Yg a' b' s T := by
  obtain ⟨m1, m2, m3, m4, m5, m6, m7⟩ := hM
  have rs := m7 s hs
  obtain ⟨g1, g2, g3, g4, g5⟩ := rs
  obtain ⟨dl, dl1, dl5, dle⟩ := delay_n hA.1
  have hask : askN b (tZ a 29 0) ≤ GK a b := by unfold GK; omega
  have hlim : LimQ (askN b (tZ a 29 0)) (Qr T (Kc a) (vQ b (2 * s + 1)) (phi a b s) (ask0 (vQ b (2 * s)))) := Qr_lim m1 (by omega)
  have hkeep : KeepOK T (tI b 95 0 1 + tI b 95 0 2) (Qr T (Kc a) (vQ b (2 * s + 1)) (phi a b s) (ask0 (vQ b (2 * s)))) := by rw [m3, dle]; exact Qr_keep m1 dl1 dl5
  have hrep : RepOK T (tI b 95 0 1 + tI b 95 0 2) (Qr T (Kc a) (vQ b (2 * s + 1)) (phi a b s) (ask0 (vQ b (2 * s)))) := by rw [m3, dle]; exact Qr_rep m1 dl1 dl5
  have hQ : atQ (Qr T (Kc a) (vQ b (2 * s + 1)) (phi a b s) (ask0 (vQ b (2 * s)))) 0 a b s := ⟨g1, g2, g4, by unfold phi; omega, rfl⟩
  obtain ⟨a1, b1, j, x1, y1, hA1, hQ1, hG1, hS1, hT1⟩ := sim_gv (k := 0) _ hA (by omega) hs m1 m3 hlim hkeep hQ
  obtain ⟨z1, z2, z3, z4⟩ := GvF_z hG1
  have hj : askN b1 (tZ a 29 0) + j = askN b (tZ a 29 0) := hG1.2.2.2.2.2.2.2.2.2.2.2
  rw [Nat.zero_add] at hQ1
  obtain ⟨a2, b2, x2, y2, hA2, hQ2, hF2, hS2, hT2⟩ := sim_rep (n := j) (N := askN b (tZ a 29 0)) (by omega) _ hA1 (by omega) m1 (by rw [z3]; exact m3) hlim (by rw [z3, z4]; exact hrep) hQ1
  obtain ⟨y27, y19, y95, -⟩ := RepF_z hF2
  have hSt : StpE EvM a b a2 b2 := StpE_t (StpE_m (fun _ _ _ _ h => Or.inl h) hS1) (StpE_m (fun _ _ _ _ h => Or.inr h) hS2)
  have hYg : Yg a2 b2 s T := fun l hl => by
    unfold KTs at hl
    obtain ⟨j', hj1, hj2⟩ := List.mem_map.mp hl
    have hj1 := List.mem_range.mp hj1
    obtain ⟨l', e1, e2, e3⟩ := hT2.2 j' (Nat.zero_le _) (by rw [← y19]; exact hj1)
    rw [e1, o_ix (by omega)] at hj2
    omega
  have hGvT : GvT a2 b2 s := fun q h1 h2 h3 h4 => by
    have e87 := dIS hF2.2.2.1 (S := [87]) (P := []) (s := 87) (by decide) (by simp) 0
    rw [dZ hF2.2.1 (S := [29]) (P := []) (s := 29) (by decide) (by simp) 0] at h1
    rw [e87] at h2 h3 h4
    rw [y95] at h4
    exact hT1 q h1 h2 h3 h4
  have hA12 := hA2.1
  obtain ⟨f1, f2, f3, f4⟩ := RepF_z hF2
  obtain ⟨c1, c2, c3, c4, c5, c6, c7, c8, c9, c10, c11, c12⟩ := hG1
  obtain ⟨d1, d2, d3, d4, d5, d6, d7, d8, d9, d10⟩ := hF2
  obtain ⟨q1, q2, q3, q4, q5⟩ := hQ2
  have z27 : tZ a2 27 0 = tZ a 27 0 := f1.trans z1
  have z29 : tZ a2 29 0 = tZ a 29 0 := (dZ d2 (S := [29]) (P := []) (s := 29) (by decide) (by simp) 0).trans z2
  have e70 : ∀ p, tI b2 70 0 p = tI b 70 0 p := fun p => (dIS d3 (S := [70]) (P := []) (s := 70) (by decide) (by simp) 0 p).trans (dIS c3 (S := [70]) (P := []) (s := 70) (by decide) (by simp) 0 p)
  have e69 : ∀ p, tI b2 69 0 p = tI b 69 0 p := fun p => (dIS d3 (S := [69]) (P := []) (s := 69) (by decide) (by simp) 0 p).trans (dIS c3 (S := [69]) (P := []) (s := 69) (by decide) (by simp) 0 p)
  have hask2 : askN b2 (tZ a 29 0) ≤ askN b1 (tZ a 29 0) := askN_le (Stt_c d3 (by decide)) _
  have hGK : GK a2 b2 + j ≤ GK a b := by
    unfold GK
    rw [z29, unsN_eq e70, bkN_eq e69]
    omega
  have nA : ∀ t, t ≠ 10 → tN a2 t = if t = 23 then tN a 23 + j else tN a t := fun t h => (d7 t h).trans (c8 t h)
  have hKc : Kc a2 = Kc a + j := by
    unfold Kc
    rw [nA 11 (by decide), nA 12 (by decide), nA 23 (by decide), nA 39 (by decide), if_neg (by decide), if_neg (by decide), if_pos rfl, if_neg (by decide)]
    omega
  have hKb : Kb b2 = Kb b + j := by
    unfold Kb
    rw [d8 76 (by decide) (by decide), d8 77 (by decide) (by decide), d8 78 (by decide) (by decide), c9 76 (by decide) (by decide), c9 77 (by decide) (by decide), c9 78 (by decide) (by decide), if_pos rfl, if_neg (by decide), if_neg (by decide)]
    omega
  have hMt : Mt b2 = Mt b := by
    unfold Mt
    rw [d8 79 (by decide) (by decide), d8 80 (by decide) (by decide), d8 81 (by decide) (by decide), c9 79 (by decide) (by decide), c9 80 (by decide) (by decide), c9 81 (by decide) (by decide)]
    rfl
  have hvO : ∀ c', c' < 2 * tZ a 27 0 → c' ≠ 2 * s → vA a2 c' = vA a c' ∧ vQ b2 c' = vQ b c' ∧ tZ a2 9 c' = tZ a 9 c' ∧ tI b2 48 c' = tI b 48 c' := fun c' h h1 => by
    obtain ⟨i1, i2, i3, i4⟩ := d9 c' (by omega) h1
    obtain ⟨j1, j2, j3, j4⟩ := c10 c' h h1
    exact ⟨i1.trans j1, i2.trans j2, i3.trans j3, i4.trans j4⟩
  have hKT : ∀ s', s' < tZ a 27 0 → s' ≠ s → KTs a2 b2 s' = KTs a b s' := fun s' h h1 => (d10 s' (by omega) h1).trans (c11 s' h h1)
  refine ⟨a1, b1, a2, b2, x1, x2, hA1.1, z1, y1, y2, hA2, ⟨m1, m2, by rw [f3, z3]; exact m3, ?_, ?_, fun t ht => ?_, fun s' hs' => ?_⟩, ⟨?_, ?_, c6.t d5, c7.t d6⟩, hSt, ⟨Stt_t c5 (Stt_c d3 (by decide)), hKT, fun p hp => ⟨?_, ?_⟩, z29, by rw [f3, z3]⟩, hGvT, hYg⟩
  · rw [hKc, hKb, z29]
    omega
  · have hph : sumS (tZ a 27 0) (phi a2 b2) + 0 ≤ sumS (tZ a 27 0) (phi a b) + 301 * j := by
      refine sumS_at (s := s) ?_ _ hs (fun s' hs' hne => ?_)
      · unfold phi at q4 ⊢
        omega
      · unfold phi
        obtain ⟨i1, i2, i3, i4⟩ := hvO (2 * s') (by omega) (by omega)
        rw [i2, i4, hKT s' hs' hne]
        exact Nat.le_refl _
    rw [z27, z29, hMt]
    omega
  · have ht' : t ≠ 10 ∧ t ≠ 23 := by
      simp only [List.mem_cons, List.not_mem_nil, or_false] at ht
      omega
    have hsum : sumS (tZ a 27 0) (fun s' => ask0 (vQ b2 (2 * s'))) = sumS (tZ a 27 0) (fun s' => ask0 (vQ b (2 * s'))) := sumS_eq _ (fun s' hs' => by
      by_cases e : s' = s
      · subst e; exact q5
      · rw [(hvO (2 * s') (by omega) (by omega)).2.1])
    have := m6 t ht
    rw [z27, z29, nA t ht'.1, if_neg ht'.2, hsum]
    exact this
  · rw [z27] at hs'
    rw [hKc]
    by_cases e : s' = s
    · subst e
      obtain ⟨i1, i2, i3, i4⟩ := hvO (2 * s' + 1) (by omega) (by omega)
      rw [i2, i3]
      exact ⟨q1, q2, g3, q3, by omega⟩
    · obtain ⟨i1, i2, i3, i4⟩ := hvO (2 * s') (by omega) (by omega)
      obtain ⟨j1, j2, j3, j4⟩ := hvO (2 * s' + 1) (by omega) (by omega)
      rw [i2, i3, j2, j3, hKT s' hs' e]
      exact Rsh_K (m7 s' hs') (by omega)
  · exact chF_t (chF_m c2 (by decide) (fun q h => Or.inl (List.mem_append_left _ (by
      rcases List.mem_append.mp h with h | h
      · exact List.mem_append_left _ (List.mem_append_right _ h)
      · exact List.mem_append_right _ h)))) (chF_m d2 (by decide) (fun q h => Or.inl (List.mem_append_left _ (List.mem_append_right _ h))))
  · exact chF_t (chF_m c3 (by decide) (by simp)) (chF_m d3 (by decide) (by simp))
  · exact (dIS d3 (S := [87]) (P := []) (s := 87) (by decide) (by simp) 0 _).trans (c1.1.2.2.2 p hp).2.1
  · refine (dIS d3 (S := [87]) (P := []) (s := 87) (by decide) (by simp) 0 _).trans ?_
    exact tick_c hA.1 hA1.1 c2 (by decide) z2 hp
