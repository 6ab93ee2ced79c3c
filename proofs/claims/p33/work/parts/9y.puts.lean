/-! ===== a put and its room; what the tills say of a payment ===== -/
/-- the room with one put owed -/
def RmO (a b : TS) (C T e w : Nat) : Prop :=
  T ≤ 3000 ∧ C ≤ 512 ∧ tI b 95 0 1 = Int32.ofNat T ∧ (Kc a + GK a b + (200 - tZ a 29 0) ≤ 1000 + C ∧ Kb b ≤ Kc a) ∧
  Mt b + sumS (tZ a 27 0) (phi a b) + e + 301 * GK a b + (200 - tZ a 29 0) ≤ 241000 + 100 * C ∧
  (∀ s ∈ [5, 6, 16, 17], tN a s + sumS (tZ a 27 0) (fun s' => ask0 (vQ b (2 * s'))) + w + 2 * (200 - tZ a 29 0) ≤ 400) ∧
  ∃ K, K + 1 = Kc a ∧ ∀ s, s < tZ a 27 0 → Rsh T (T + 1) K (KTs a b s) (vQ b (2 * s)) (vQ b (2 * s + 1)) (tZ a 9 (2 * s)) (tZ a 9 (2 * s + 1))
theorem RmO_lim {a b : TS} {C T e w s : Nat} (h : RmO a b C T e w) (hs : s < tZ a 27 0) : tZ a 9 (2 * s) < 29998 ∧ (vQ b (2 * s)).length < 90000 := by
  obtain ⟨m1, m2, m3, m4, m5, m6, K, k1, k2⟩ := h
  have r := k2 s hs
  have := Rsh_U r m1 (Nat.le_succ T)
  have := r.2.2.2.1
  omega
theorem RmO_keep {a a' b b' : TS} {C T sh : Nat} {g : Nat → Int32} (hR : R0 a b) (h : RmO a b C T 301 0) (hsh : sh < tZ a 27 0) (hF : KeepF a a' b b' sh g) (hg : g 0 ≠ 0) : Rm0 a' b' C T (fun _ => T + 1) := by
  obtain ⟨m1, m2, m3, m4, m5, m6, K, k1, k2⟩ := h
  obtain ⟨f1, f2, f3, f4, f5, f6, f7, f8, f9, f10, f11, f12, f13, f14⟩ := hF
  obtain ⟨dl, dl1, dl5, dle⟩ := delay_n hR
  rw [m3, dle] at f10
  rw [m3, o_ix (by omega)] at f13
  have z27 : tZ a' 27 0 = tZ a 27 0 := dZ f2 (S := [27]) (P := []) (s := 27) (by decide) (by simp) 0
  have z29 : tZ a' 29 0 = tZ a 29 0 := dZ f2 (S := [29]) (P := []) (s := 29) (by decide) (by simp) 0
  have iB : ∀ s, s ∈ [69, 70, 87, 95] → ∀ i k, tI b' s i k = tI b s i k := fun s hs => dIS f3 (S := [69, 70, 87, 95]) (P := []) (by decide) hs
  have hGK : GK a' b' = GK a b := by
    unfold GK
    rw [z29, unsN_eq (fun p => iB 70 (by simp) 0 p), bkN_eq (fun p => iB 69 (by simp) 0 p)]
    unfold askN
    simp only [iB 87 (by simp)]
  have hKc : Kc a' = Kc a := by
    unfold Kc
    rw [f7 11 (by decide), f7 12 (by decide), f7 23 (by decide), f7 39 (by decide)]
  have hKb : Kb b' = Kb b := by
    unfold Kb
    rw [f8 76 (by decide) (by decide), f8 77 (by decide) (by decide), f8 78 (by decide) (by decide)]
  have hMt : Mt b' = Mt b := by
    unfold Mt
    rw [f8 79 (by decide) (by decide), f8 80 (by decide) (by decide), f8 81 (by decide) (by decide)]
  obtain ⟨l1, l2⟩ := laid_len (tI b 48 (2 * sh)) (Int32.ofNat T + Int32.ofNat dl) g
  have rs := k2 sh hsh
  have rk := RmS_keep (Y := (laid (fK (tI b 48 (2 * sh))) (Int32.ofNat T + Int32.ofNat dl) g).map tm) rs.1 (by rw [List.length_map]; exact l2) (laid_tm m1 dl1 dl5 _ _)
  rw [← List.map_append] at rk
  obtain ⟨s1, s2⟩ := Qr_put (K := K + 1) (z := tZ a 9 (2 * sh)) m1 dl1 dl5 g rs.2.1 (by have := rs.2.2.2.1; omega) rk
  refine ⟨m1, m2, by rw [iB 95 (by simp)]; exact m3, by rw [hKc, hKb, hGK, z29]; exact m4, ?_, fun s hs => ?_, fun s hs => ?_⟩
  · have hph : sumS (tZ a 27 0) (phi a' b') + 0 ≤ sumS (tZ a 27 0) (phi a b) + 301 := by
      refine sumS_at (s := sh) ?_ _ hsh (fun s' hs' hne => ?_)
      · unfold phi
        have := sP_add (KTs a b sh) T
        rw [f10, f11, f13, List.length_append]
        omega
      · unfold phi
        obtain ⟨i1, i2, i3, i4⟩ := f9 (2 * s') (by omega) (by omega)
        rw [i2, i4, f14 s' hs' hne]
        exact Nat.le_refl _
    rw [z27, z29, hMt, hGK]
    omega
  · have e1 : sumS (tZ a 27 0) (fun s' => ask0 (vQ b' (2 * s'))) = sumS (tZ a 27 0) (fun s' => ask0 (vQ b (2 * s'))) := sumS_eq _ (fun s' hs' => by
      by_cases e : s' = sh
      · subst e
        rw [f10, laid_ask hg]
      · rw [(f9 (2 * s') (by omega) (by omega)).2.1])
    have hs' : s ≠ 10 := by
      simp only [List.mem_cons, List.not_mem_nil, or_false] at hs
      omega
    have := m6 s hs
    rw [z27, z29, f7 s hs', e1]
    omega
  · rw [z27] at hs
    rw [hKc]
    by_cases e : s = sh
    · subst e
      obtain ⟨i1, i2, i3, i4⟩ := f9 (2 * s + 1) (by omega) (by omega)
      rw [i2, i3, f13, f12, f10, ← k1]
      exact ⟨rk, s1, rs.2.2.1, s2, by have := rs.2.2.2.2; omega⟩
    · obtain ⟨i1, i2, i3, i4⟩ := f9 (2 * s) (by omega) (by omega)
      obtain ⟨j1, j2, j3, j4⟩ := f9 (2 * s + 1) (by omega) (by omega)
      rw [i2, i3, j2, j3, f14 s hs e]
      exact Rsh_K (k2 s hs) (by omega)
theorem ask0_app (U Y : List Ent) : ask0 (U ++ Y) ≤ ask0 U + Y.length := by
  unfold ask0
  rw [List.countP_append]
  exact Nat.add_le_add_left List.countP_le_length _
theorem RmO_put {a a' b b' : TS} {C T sh w : Nat} {g : Nat → Int32} (hR : R0 a b) (h : RmO a b C T 1 w) (hw : w = 2 ∨ g 0 ≠ 0) (hsh : sh < tZ a 27 0) (hF : PutF a a' b b' (2 * sh) g) : Rm0 a' b' C T (fun _ => T + 1) := by
  have hKT := PutF_KT hF
  obtain ⟨m1, m2, m3, m4, m5, m6, K, k1, k2⟩ := h
  obtain ⟨f1, f2, f3, f4, f5, f6, f7, f8, f9, f10, f11, f12⟩ := hF
  obtain ⟨dl, dl1, dl5, dle⟩ := delay_n hR
  rw [m3, dle] at f10
  have z27 : tZ a' 27 0 = tZ a 27 0 := dZ f2 (S := [27]) (P := []) (s := 27) (by decide) (by simp) 0
  have z29 : tZ a' 29 0 = tZ a 29 0 := dZ f2 (S := [29]) (P := []) (s := 29) (by decide) (by simp) 0
  have iB : ∀ s, s ∈ [69, 70, 87, 95] → ∀ i k, tI b' s i k = tI b s i k := fun s hs => dIS f3 (S := [69, 70, 87, 95]) (P := []) (by decide) hs
  have hGK : GK a' b' = GK a b := by
    unfold GK
    rw [z29, unsN_eq (fun p => iB 70 (by simp) 0 p), bkN_eq (fun p => iB 69 (by simp) 0 p)]
    unfold askN
    simp only [iB 87 (by simp)]
  have hKc : Kc a' = Kc a := by
    unfold Kc
    rw [f7 11 (by decide), f7 12 (by decide), f7 23 (by decide), f7 39 (by decide)]
  have hKb : Kb b' = Kb b := by
    unfold Kb
    rw [f8 76 (by decide) (by decide), f8 77 (by decide) (by decide), f8 78 (by decide) (by decide)]
  have hMt : Mt b' = Mt b := by
    unfold Mt
    rw [f8 79 (by decide) (by decide), f8 80 (by decide) (by decide), f8 81 (by decide) (by decide)]
  obtain ⟨l1, l2⟩ := laid_len (tI b 48 (2 * sh)) (Int32.ofNat T + Int32.ofNat dl) g
  have rs := k2 sh hsh
  have rk := RmS_oth (Y := (laid (fK (tI b 48 (2 * sh))) (Int32.ofNat T + Int32.ofNat dl) g).map tm) rs.1 (by rw [List.length_map]; exact l2) (laid_tm m1 dl1 dl5 _ _)
  rw [← List.map_append] at rk
  obtain ⟨s1, s2⟩ := Qr_put (K := K + 1) (z := tZ a 9 (2 * sh)) m1 dl1 dl5 g rs.2.1 (by have := rs.2.2.2.1; omega) rk
  refine ⟨m1, m2, by rw [iB 95 (by simp)]; exact m3, by rw [hKc, hKb, hGK, z29]; exact m4, ?_, fun s hs => ?_, fun s hs => ?_⟩
  · have hph : sumS (tZ a 27 0) (phi a' b') + 0 ≤ sumS (tZ a 27 0) (phi a b) + 1 := by
      refine sumS_at (s := sh) ?_ _ hsh (fun s' hs' hne => ?_)
      · unfold phi
        rw [f10, f11, hKT, List.length_append]
        omega
      · unfold phi
        obtain ⟨i1, i2, i3, i4⟩ := f9 (2 * s') (by omega) (by omega)
        rw [i2, i4, hKT]
        exact Nat.le_refl _
    rw [z27, z29, hMt, hGK]
    omega
  · have e1 : sumS (tZ a 27 0) (fun s' => ask0 (vQ b' (2 * s'))) + 0 ≤ sumS (tZ a 27 0) (fun s' => ask0 (vQ b (2 * s'))) + w := by
      refine sumS_at (s := sh) ?_ _ hsh (fun s' hs' hne => ?_)
      · rw [f10]
        rcases hw with hw | hw
        · have := ask0_app (vQ b (2 * sh)) (laid (fK (tI b 48 (2 * sh))) (Int32.ofNat T + Int32.ofNat dl) g)
          omega
        · rw [laid_ask hw]
          omega
      · rw [(f9 (2 * s') (by omega) (by omega)).2.1]
        exact Nat.le_refl _
    have hs' : s ≠ 10 := by
      simp only [List.mem_cons, List.not_mem_nil, or_false] at hs
      omega
    have := m6 s hs
    rw [z27, z29, f7 s hs']
    omega
  · rw [z27] at hs
    rw [hKc, hKT]
    by_cases e : s = sh
    · subst e
      obtain ⟨i1, i2, i3, i4⟩ := f9 (2 * s + 1) (by omega) (by omega)
      rw [i2, i3, f12, f10, ← k1]
      exact ⟨rk, s1, rs.2.2.1, s2, by have := rs.2.2.2.2; omega⟩
    · obtain ⟨i1, i2, i3, i4⟩ := f9 (2 * s) (by omega) (by omega)
      obtain ⟨j1, j2, j3, j4⟩ := f9 (2 * s + 1) (by omega) (by omega)
      rw [i2, i3, j2, j3]
      exact Rsh_K (k2 s hs) (by omega)
/-- a message is kept and put: what the views see of it -/
def KpE (a b a' b' : TS) (sh : Nat) (o q : Nat × Nat) (g : Nat → Int32) : Prop := KeepE a b a' b' sh (some o) (some q) ∧ isQ q.1 ∧ q.2 < tN b' q.1 ∧ qv b' (some q) = g ∧
  vQ b' (2 * sh) = vQ b (2 * sh) ++ laid (fK (tI b 48 (2 * sh))) (tI b 95 0 1 + tI b 95 0 2) g ∧ tI b' 48 (2 * sh) = fR (tI b 48 (2 * sh)) ∧ (∀ c, c < 2 * tZ a 27 0 → c ≠ 2 * sh → vQ b' c = vQ b c ∧ tI b' 48 c = tI b 48 c) ∧ groQ b b'
theorem KpE_of {a a2 a3 b b2 b3 : TS} {sh : Nat} {o q : Nat × Nat} {g : Nat → Int32} (hkl : ∀ s, kL a2 b2 s = kL a b s) (hv : ∀ c, c < 2 * tZ a 27 0 → vQ b2 c = vQ b c) (e48 : ∀ c, tI b2 48 c = tI b 48 c) (t1 : tI b2 95 0 1 = tI b 95 0 1) (t2 : tI b2 95 0 2 = tI b 95 0 2) (z27 : tZ a2 27 0 = tZ a 27 0) (hsh : sh < tZ a 27 0)
    (hF : KeepF a2 a3 b2 b3 sh g) (hE : KeepE a2 b2 a3 b3 sh (some o) (some q)) (hq : isQ q.1) (hqi : q.2 < tN b2 q.1) (hg : qv b2 (some q) = g) (hgq : groQ b b2) : KpE a b a3 b3 sh o q g := by
  obtain ⟨f1, f2, f3, f4, f5, f6, f7, f8, f9, f10, f11, f12, f13, f14⟩ := hF
  refine ⟨⟨by rw [hE.1, hkl, t1], fun s h h' => (hE.2 s (by rw [z27]; exact h) h').trans (hkl s)⟩, hq, Nat.lt_of_lt_of_le hqi (f4 q.1 hq).1, (qv_congr (fun f => (f4 q.1 hq).2 q.2 hqi f)).trans hg, by rw [f10, hv _ (by omega), e48, t1, t2], by rw [f11, e48], fun c h h' => ?_, groQ_t hgq f4⟩
  obtain ⟨x1, x2, x3, x4⟩ := f9 c (by rw [z27]; exact h) h'
  exact ⟨x2.trans (hv c h), x4.trans (e48 c)⟩
/-- a message is put, and not kept -/
def PtE (a b a' b' : TS) (sh : Nat) (g : Nat → Int32) : Prop :=
  vQ b' (2 * sh) = vQ b (2 * sh) ++ laid (fK (tI b 48 (2 * sh))) (tI b 95 0 1 + tI b 95 0 2) g ∧ tI b' 48 (2 * sh) = fR (tI b 48 (2 * sh)) ∧ (∀ c, c < 2 * tZ a 27 0 → c ≠ 2 * sh → vQ b' c = vQ b c ∧ tI b' 48 c = tI b 48 c) ∧ (∀ s, s < tZ a 27 0 → kL a' b' s = kL a b s) ∧ groQ b b'
theorem PtE_of {a a2 a3 b b2 b3 : TS} {sh : Nat} {g : Nat → Int32} (hkl : ∀ s, kL a2 b2 s = kL a b s) (hv : ∀ c, c < 2 * tZ a 27 0 → vQ b2 c = vQ b c) (e48 : ∀ c, tI b2 48 c = tI b 48 c) (t1 : tI b2 95 0 1 = tI b 95 0 1) (t2 : tI b2 95 0 2 = tI b 95 0 2) (z27 : tZ a2 27 0 = tZ a 27 0) (hsh : sh < tZ a 27 0)
    (hF : PutF a2 a3 b2 b3 (2 * sh) g) (hgq : groQ b b2) : PtE a b a3 b3 sh g := by
  obtain ⟨f1, f2, f3, f4, f5, f6, f7, f8, f9, f10, f11, f12⟩ := hF
  refine ⟨by rw [f10, hv _ (by omega), e48, t1, t2], by rw [f11, e48], fun c h h' => ?_, fun s _ => (kL_c f2 f3 (by decide) (by decide) s).trans (hkl s), groQ_t hgq f4⟩
  obtain ⟨x1, x2, x3, x4⟩ := f9 c (by rw [z27]; exact h) h'
  exact ⟨x2.trans (hv c h), x4.trans (e48 c)⟩
