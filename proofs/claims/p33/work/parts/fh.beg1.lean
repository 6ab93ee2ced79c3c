/-! ===== the law begins: nothing has happened yet ===== -/
def Bl (a0 a b : TS) : Prop := Core a b 0 ∧ tI b 95 0 1 = 0 ∧ MBl a b ∧ tZ a 29 0 = 0 ∧ (∀ c, c < 2 * tZ a 27 0 → vQ b c = [] ∧ ∀ k, tI b 48 c k = 0) ∧ (∀ s, s < tZ a 27 0 → tZ a 19 s = 0) ∧ tZ a 15 0 = 0 ∧ tI b 95 0 6 = 0 ∧ (∀ k, k < tZ a 28 0 → tI b 86 0 (10 * k + 2) = 0 ∧ tI b 86 0 (10 * k + 5) = 0 ∧ tI b 86 0 (10 * k) = 0) ∧ Wr a0 a
theorem Bl_c {Da Db : List Nat} {Fa Fb : List (Nat × Nat)} {a0 a a' b b' : TS} (h : Bl a0 a b) (hC : Core a' b' 0) (hw : Wr a a') (ca : chF Da Fa a a') (cb : chF Db Fb b b') (hda : dpk Da Fa [8, 9, 10, 15, 19, 21, 22, 27, 28, 29] [] = true) (hd25 : 25 ∉ Da) (hdb : dpk Db Fb [44, 45, 46, 48, 49, 50, 51, 52, 53, 61, 65, 74, 75, 86] [(95, 1), (95, 6), (97, 6), (94, 12), (91, 7)] = true) (hg : groQ b b') (hm : S64 (fun u => tL b' 43 0 u) (tZ a' 26 0) = tL b' 91 0 8) : Bl a0 a' b' := by
  obtain ⟨h1, h2, ⟨m1, ⟨m2, m3⟩, m4, ⟨m5, m6⟩, -⟩, h4, h5, h6, h7, h8, h9, h10⟩ := h
  have z : ∀ s, s ∈ [15, 27, 28, 29] → tZ a' s 0 = tZ a s 0 := fun s hs => dZ ca hda (s := s) (by simp only [List.mem_cons, List.not_mem_nil, or_false] at hs ⊢; omega) 0
  have hv := (Ln0_o h1.1.2.2.1.1 ca cb (dpk_sub hda (by simp) (by simp)) hd25 (dpk_sub hdb (by simp) (by simp)) hg).2
  have e86 := dIS cb hdb (s := 86) (by simp) 0
  refine ⟨hC, (dI cb hdb (s := 95) (k := 1) (by simp) 0).trans h2, ⟨fun n f hn => (hI_c cb hdb (by simp) (by simp) n f).trans (m1 n f hn), ⟨(dI cb hdb (s := 97) (k := 6) (by simp) 0).trans m2, (dI cb hdb (s := 94) (k := 12) (by simp) 0).trans m3⟩, fun t => (dLS cb hdb (s := 44) (by simp) 0 t).trans (m4 t), ⟨(dL cb hdb (s := 91) (k := 7) (by simp) 0).trans m5, fun s => ⟨(dLS cb hdb (s := 45) (by simp) 0 s).trans (m6 s).1, (dLS cb hdb (s := 46) (by simp) 0 s).trans (m6 s).2⟩⟩, hm⟩, (z 29 (by simp)).trans h4, fun c hc => ?_, fun s hs => ?_, (z 15 (by simp)).trans h7, (dI cb hdb (s := 95) (k := 6) (by simp) 0).trans h8, fun k hk => ?_, h10.t hw⟩
  · rw [z 27 (by simp)] at hc
    exact ⟨(hv c hc).2.trans (h5 c hc).1, fun k => (dIS cb hdb (s := 48) (by simp) c k).trans ((h5 c hc).2 k)⟩
  · rw [z 27 (by simp)] at hs
    exact (dZ ca hda (s := 19) (by simp) s).trans (h6 s hs)
  · rw [z 28 (by simp)] at hk
    rw [e86, e86, e86]
    exact h9 k hk
theorem Bl_shop {a0 a a' b b' : TS} {p0 : Int32} (h : Bl a0 a b) (hC : Core a' b' 0) (hw : Wr a a') (hS : ShpP a b a' b' p0) : Bl a0 a' b' := by
  obtain ⟨h1, h2, ⟨m1, ⟨m2, m3⟩, m4, ⟨m5, m6⟩, m7⟩, h4, h5, h6, h7, h8, h9, h10⟩ := h
  obtain ⟨z27, s2, s3, ⟨s4, s5, s6, s7⟩, s8, ca, cb⟩ := hS
  have z : ∀ s, s ∈ [15, 26, 28, 29] → tZ a' s 0 = tZ a s 0 := fun s hs => dZ ca (S := [15, 26, 28, 29]) (P := []) (s := s) (by decide) hs 0
  have e86 := dIS cb (S := [86]) (P := []) (s := 86) (by decide) (by simp) 0
  have e43 : ∀ k, tL b' 43 0 k = tL b 43 0 k := dLS cb (S := [43]) (P := []) (s := 43) (by decide) (by simp) 0
  refine ⟨hC, (dI cb (S := []) (P := [(95, 1)]) (s := 95) (k := 1) (by decide) (by simp) 0).trans h2, ⟨fun n f hn => (hI_c cb (S := [53, 61]) (P := []) (by decide) (by simp) (by simp) n f).trans (m1 n f hn), ⟨(dI cb (S := []) (P := [(97, 6)]) (s := 97) (k := 6) (by decide) (by simp) 0).trans m2, (dI cb (S := []) (P := [(94, 12)]) (s := 94) (k := 12) (by decide) (by simp) 0).trans m3⟩, fun t => (dLS cb (S := [44]) (P := []) (s := 44) (by decide) (by simp) 0 t).trans (m4 t), ⟨(dL cb (S := []) (P := [(91, 7)]) (s := 91) (k := 7) (by decide) (by simp) 0).trans m5, fun s => ⟨(dLS cb (S := [45]) (P := []) (s := 45) (by decide) (by simp) 0 s).trans (m6 s).1, (dLS cb (S := [46]) (P := []) (s := 46) (by decide) (by simp) 0 s).trans (m6 s).2⟩⟩, ?_⟩, (z 29 (by simp)).trans h4, fun c hc => ?_, fun s hs => ?_, (z 15 (by simp)).trans h7, (dI cb (S := []) (P := [(95, 6)]) (s := 95) (k := 6) (by decide) (by simp) 0).trans h8, fun k hk => ?_, h10.t hw⟩
  · rw [z 26 (by simp), dL cb (S := []) (P := [(91, 8)]) (s := 91) (k := 8) (by decide) (by simp) 0, ← m7]
    exact S64_eq _ (fun k _ => e43 k)
  · rw [z27] at hc
    by_cases q : c < 2 * tZ a 27 0
    · exact ⟨(s2 c q).1.trans (h5 c q).1, fun k => ((s2 c q).2 k).trans ((h5 c q).2 k)⟩
    · have : c = 2 * tZ a 27 0 ∨ c = 2 * tZ a 27 0 + 1 := by omega
      rcases this with e | e <;> subst e
      · exact ⟨s4, fun k => (s7 k).1⟩
      · exact ⟨s5, fun k => (s7 k).2⟩
  · rw [z27] at hs
    by_cases q : s < tZ a 27 0
    · exact (s3 s q).trans (h6 s q)
    · have : s = tZ a 27 0 := by omega
      subst this
      exact s6
  · rw [z 28 (by simp)] at hk
    rw [e86, e86, e86]
    exact h9 k hk
theorem Bl_card {a0 a a' b b' : TS} {t : Nat} {p1 p2 p3 : Int32} (h : Bl a0 a b) (hC : Core a' b' 0) (hw : Wr a a') (ca : chF [1, 2, 28, 37] [] a a') (cb : chF [86] [(93, 6), (93, 10)] b b') (z28 : tZ a' 28 0 = tZ a 28 0 + 1)
    (v86 : ∀ j, tI b' 86 0 j = if j = 10 * tZ a 28 0 + 9 then Int32.ofNat t else if j = 10 * tZ a 28 0 + 8 then p3 else if j = 10 * tZ a 28 0 + 7 then p1 else if j = 10 * tZ a 28 0 + 6 then p2 else if j = 10 * tZ a 28 0 + 1 then 3 else tI b 86 0 j) : Bl a0 a' b' := by
  obtain ⟨h1, h2, ⟨m1, ⟨m2, m3⟩, m4, ⟨m5, m6⟩, m7⟩, h4, h5, h6, h7, h8, h9, h10⟩ := h
  have z : ∀ s, s ∈ [15, 26, 27, 29] → tZ a' s 0 = tZ a s 0 := fun s hs => dZ ca (S := [15, 26, 27, 29]) (P := []) (s := s) (by decide) hs 0
  have e43 : ∀ k, tL b' 43 0 k = tL b 43 0 k := dLS cb (S := [43]) (P := []) (s := 43) (by decide) (by simp) 0
  have hg : groQ b b' := groQ_c cb (by decide)
  have hv := (Ln0_o h1.1.2.2.1.1 ca cb (by decide) (by decide) (by decide) hg).2
  refine ⟨hC, (dI cb (S := []) (P := [(95, 1)]) (s := 95) (k := 1) (by decide) (by simp) 0).trans h2, ⟨fun n f hn => (hI_c cb (S := [53, 61]) (P := []) (by decide) (by simp) (by simp) n f).trans (m1 n f hn), ⟨(dI cb (S := []) (P := [(97, 6)]) (s := 97) (k := 6) (by decide) (by simp) 0).trans m2, (dI cb (S := []) (P := [(94, 12)]) (s := 94) (k := 12) (by decide) (by simp) 0).trans m3⟩, fun t => (dLS cb (S := [44]) (P := []) (s := 44) (by decide) (by simp) 0 t).trans (m4 t), ⟨(dL cb (S := []) (P := [(91, 7)]) (s := 91) (k := 7) (by decide) (by simp) 0).trans m5, fun s => ⟨(dLS cb (S := [45]) (P := []) (s := 45) (by decide) (by simp) 0 s).trans (m6 s).1, (dLS cb (S := [46]) (P := []) (s := 46) (by decide) (by simp) 0 s).trans (m6 s).2⟩⟩, ?_⟩, (z 29 (by simp)).trans h4, fun c hc => ?_, fun s hs => ?_, (z 15 (by simp)).trans h7, (dI cb (S := []) (P := [(95, 6)]) (s := 95) (k := 6) (by decide) (by simp) 0).trans h8, fun k hk => ?_, h10.t hw⟩
  · rw [z 26 (by simp), dL cb (S := []) (P := [(91, 8)]) (s := 91) (k := 8) (by decide) (by simp) 0, ← m7]
    exact S64_eq _ (fun k _ => e43 k)
  · rw [z 27 (by simp)] at hc
    exact ⟨(hv c hc).2.trans (h5 c hc).1, fun k => (dIS cb (S := [48]) (P := []) (s := 48) (by decide) (by simp) c k).trans ((h5 c hc).2 k)⟩
  · rw [z 27 (by simp)] at hs
    exact (dZ ca (S := [19]) (P := []) (s := 19) (by decide) (by simp) s).trans (h6 s hs)
  · rw [z28] at hk
    rw [v86, v86, v86]
    by_cases q : k < tZ a 28 0
    · rw [if_neg (by omega), if_neg (by omega), if_neg (by omega), if_neg (by omega), if_neg (by omega), if_neg (by omega), if_neg (by omega), if_neg (by omega), if_neg (by omega), if_neg (by omega), if_neg (by omega), if_neg (by omega), if_neg (by omega), if_neg (by omega), if_neg (by omega)]
      exact h9 k q
    · have hD := (h1.1.1.2.2.2.2.2.2.2.2.1 : RD a b).2
      rw [if_neg (by omega), if_neg (by omega), if_neg (by omega), if_neg (by omega), if_neg (by omega), if_neg (by omega), if_neg (by omega), if_neg (by omega), if_neg (by omega), if_neg (by omega), if_neg (by omega), if_neg (by omega), if_neg (by omega), if_neg (by omega), if_neg (by omega)]
      exact ⟨hD _ (by omega), hD _ (by omega), hD _ (by omega)⟩
/-- what the law's table says so far -/
def TP (a b : TS) (t : List Int32) (A S Q : Nat) : Prop := (t.getD 0 0 = Int32.ofNat A ∧ t.getD 1 0 = Int32.ofNat S ∧ t.getD 2 0 = Int32.ofNat Q ∧ t.getD 3 0 = 0 ∧ t.getD 4 0 = 0) ∧ ((1 ≤ A ∧ A ≤ 4) ∧ (1 ≤ S ∧ S ≤ 3) ∧ (1 ≤ Q ∧ Q ≤ 5)) ∧ (∀ u, u < tZ a 26 0 → tL b 43 0 u = (t.getD (10 + u) 0).toInt64) ∧
  (∀ k, k < tZ a 28 0 → t.getD (20 + k) 0 = tI b 86 0 (10 * k + 9) ∧ t.getD (30 + k) 0 = tI b 86 0 (10 * k + 7) ∧ ∃ v, v ≤ 9999 ∧ tI b 86 0 (10 * k + 7) = Int32.ofNat v) ∧ (∀ s, s < tZ a 27 0 → t.getD (40 + s) 0 = tI b 88 0 s) ∧ ∀ j, 50 ≤ j → t.getD j 0 = 0
/-- it has begun -/
theorem IL_0 {a0 a b : TS} {t : List Int32} (h : Bl a0 a b) (hf : FeeI b) (hT : TP a b t (tZ a 26 0) (tZ a 27 0) (tZ a 28 0)) : IL a0 a b 0 0 0 t := by
  obtain ⟨h1, h2, hM, h4, h5, h6, h7, h8, h9, h10⟩ := h
  obtain ⟨⟨q0, q1, q2, q3, q4⟩, s2, s3, s4, s5, s6⟩ := hT
  refine ⟨fun u => tL b 43 0 u, 0, 0, ⟨by omega, by omega, by omega, by omega⟩, h1, h2, MonI_blank hM, LIc_0 h1.1 h4 hM.1 (fun c hc => (h5 c hc).1) h6 h7, ⟨0, by omega, h2, fun s hs x hx => ?_⟩, hf, ⟨fun s hs => ?_, fun c k hc _ => ?_⟩, ?_, fun _ k hk => ⟨(h9 k hk).1, (h9 k hk).2.1⟩, WrX_w (WrX_r a0) h10⟩
  · unfold kL at hx
    rw [h6 s hs] at hx
    exact absurd hx List.not_mem_nil
  · unfold lostN
    rw [(h5 _ (by omega)).2, (h5 _ (by omega)).2]
    exact Nat.le_refl _
  · rw [(h5 c hc).2 k]
    exact ⟨Int.le_refl _, Int.le_refl _⟩
  · exact ⟨⟨q0, q1, q2, by rw [q3, h4]; rfl, by rw [q4, h8]⟩, s2, fun u hu => s3 u hu, fun k hk => ⟨(s4 k hk).1, (s4 k hk).2, by rw [s6 _ (by omega), (h9 k hk).2.2]⟩, s5, hM.2.2.2.2.symm⟩
