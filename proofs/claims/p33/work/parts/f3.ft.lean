/-! ===== what is told to befall lines: it grows no more by itself ===== -/
def FtI (a b : TS) (L F : Nat) : Prop := (∀ s, s < tZ a 27 0 → lostN b s ≤ L) ∧ ∀ c k, c < 2 * tZ a 27 0 → k < 3 → 0 ≤ (tI b 48 c k).toInt ∧ (tI b 48 c k).toInt ≤ F
theorem i32_pred2 {x : Int32} (h : ¬ x ≤ 0) : (x - 1).toInt = x.toInt - 1 ∧ 0 < x.toInt := by
  rw [Int32.le_iff_toInt_le] at h
  have h : ¬ x.toInt ≤ 0 := h
  have hb := Int32.toInt_lt x
  refine ⟨?_, by omega⟩
  rw [Int32.toInt_sub]
  exact Int.bmod_eq_of_le (by have : (1 : Int32).toInt = 1 := rfl; omega) (by have : (1 : Int32).toInt = 1 := rfl; omega)
theorem fR_d (f : Nat → Int32) (k : Nat) (h : 0 ≤ (f k).toInt) : 0 ≤ (fR f k).toInt ∧ (fR f k).toInt ≤ (f k).toInt := by
  unfold fR
  by_cases h0 : f 0 ≤ 0
  · rw [if_pos h0]
    by_cases h1 : f 1 ≤ 0
    · rw [if_pos h1]
      by_cases h2 : f 2 ≤ 0
      · rw [if_pos h2]; omega
      · rw [if_neg h2]
        by_cases e : k = 2
        · subst e
          rw [if_pos rfl]
          have := i32_pred2 h2
          omega
        · rw [if_neg e]; omega
    · rw [if_neg h1]
      by_cases e : k = 1
      · subst e
        rw [if_pos rfl]
        have := i32_pred2 h1
        omega
      · rw [if_neg e]; omega
  · rw [if_neg h0]
    by_cases e : k = 0
    · subst e
      rw [if_pos rfl]
      have := i32_pred2 h0
      omega
    · rw [if_neg e]; omega
theorem FtI_d {a a' b b' : TS} {L F : Nat} (h : FtI a b L F) (z : tZ a' 27 0 = tZ a 27 0) (hd : ∀ c, c < 2 * tZ a 27 0 → tI b' 48 c = tI b 48 c ∨ tI b' 48 c = fR (tI b 48 c)) : FtI a' b' L F := by
  have le : ∀ c k, c < 2 * tZ a 27 0 → k < 3 → 0 ≤ (tI b' 48 c k).toInt ∧ (tI b' 48 c k).toInt ≤ (tI b 48 c k).toInt := by
    intro c k hc hk
    obtain ⟨w1, w2⟩ := h.2 c k hc hk
    rcases hd c hc with q | q
    · rw [q]; omega
    · rw [q]; exact fR_d _ _ w1
  refine ⟨fun s hs => ?_, fun c k hc hk => ?_⟩
  · rw [z] at hs
    have h1 := h.1 s hs
    have l1 := le (2 * s) 0 (by omega) (by omega)
    have l2 := le (2 * s + 1) 0 (by omega) (by omega)
    unfold lostN at *
    rw [x_ix, x_ix] at *
    omega
  · rw [z] at hc
    have := le c k hc hk
    have := (h.2 c k hc hk).2
    omega
theorem FtI_c {Da Db : List Nat} {Fa Fb : List (Nat × Nat)} {a a' b b' : TS} {L F : Nat} (h : FtI a b L F) (ca : chF Da Fa a a') (cb : chF Db Fb b b') (hda : dpk Da Fa [27] [] = true) (hdb : dpk Db Fb [48] [] = true) : FtI a' b' L F :=
  FtI_d h (dZ ca hda (s := 27) (by simp) 0) (fun c _ => Or.inl (funext fun k => dIS cb hdb (s := 48) (by simp) c k))
theorem FtI_L {a a' b b' : TS} {L F : Nat} (hE : EvL a b a' b') (h : FtI a b L F) : FtI a' b' L F := by
  have hD : EvD a b a' b' → FtI a' b' L F := fun ⟨e, ca, _⟩ => by
    subst e
    exact FtI_c h ca (chF_r [] [] b') (by decide) (by decide)
  rcases hE with (h1 | h1) | (h1 | h1)
  · obtain ⟨sh, g, q, b1, pre, post, -, -, -, -, c1, -, ⟨b2, c2, hH⟩, -, -, n, hHrd⟩ := h1
    obtain ⟨-, -, -, -, -, -, -, -, ca, cb, -⟩ := hHrd
    have g48 : ∀ c, tI b1 48 c = tI b 48 c := fun c => funext fun k => dIS c1 (S := [48]) (P := []) (s := 48) (by decide) (by simp) c k
    refine FtI_d h (shop_A ca) (fun c hc => ?_)
    have fin : tI b' 48 (2 * sh + 1) = fR (tI b1 48 (2 * sh + 1)) → (∀ f, f ≠ 2 * sh + 1 → tI b' 48 f = tI b1 48 f) → tI b' 48 c = tI b 48 c ∨ tI b' 48 c = fR (tI b 48 c) := by
      intro d1 d2
      by_cases e : c = 2 * sh + 1
      · subst e
        exact Or.inr (d1.trans (by rw [g48]))
      · exact Or.inl ((d2 c e).trans (g48 c))
    rcases hH with ⟨-, -, -, -, hD⟩ | ⟨-, -, -, p, r, -, -, -, -, -, m, -, -, w1, w2⟩ | ⟨-, -, ⟨-, p, cd, c', r, -, -, -, -, -, -, m, -, -, w1, w2⟩ | ⟨⟨m, -, -, w1, w2⟩, -⟩⟩
    · exact Or.inl ((hD.2 c).trans (g48 c))
    · exact fin w1 w2
    · exact fin w1 w2
    · exact fin w1 w2
  · exact hD h1
  · obtain ⟨sh, g, q, b1, pre, post, hsh, -, -, -, c1, -, hE, -, -, -, ca, cb, -⟩ := h1
    have cc : chF (DrB ++ [49, 50, 51, 52, 74, 75]) [] b b' := chF_t (chF_m c1 (by decide) (by simp)) (chF_m cb (by decide) (by simp))
    exact FtI_c h ca cc (by decide) (by decide)
  · exact hD h1
theorem FtI_p {a a' b b' : TS} {L F sh : Nat} (h : FtI a b L F) (z : tZ a' 27 0 = tZ a 27 0) (e : tI b' 48 (2 * sh) = fR (tI b 48 (2 * sh))) (ho : ∀ c, c < 2 * tZ a 27 0 → c ≠ 2 * sh → tI b' 48 c = tI b 48 c) : FtI a' b' L F :=
  FtI_d h z (fun c hc => by
    by_cases q : c = 2 * sh
    · subst q; exact Or.inr e
    · exact Or.inl (ho c hc q))
theorem FtI_M {a a' b b' : TS} {L F : Nat} (hE : EvM a b a' b') (h : FtI a b L F) : FtI a' b' L F := by
  rcases hE with h1 | h1
  · obtain ⟨sh, p, o, q, g, -, -, -, -, -, -, -, -, -, -, -, -, -, -, -, e48, ⟨-, ca, cb, -, -, -, -, -, -, hln, -⟩, -, -⟩ := h1
    exact FtI_p h (dZ ca (S := [27]) (P := []) (s := 27) (by decide) (by simp) 0) e48 (fun c hc hne => (hln c hc hne).2.2.2)
  · obtain ⟨sh, k, c, i, q, l, T, -, -, -, -, -, -, -, -, -, e48, ⟨-, ca, cb, -, -, -, -, -, hln, -⟩, -, -⟩ := h1
    exact FtI_p h (dZ ca (S := [27]) (P := []) (s := 27) (by decide) (by simp) 0) e48 (fun c hc hne => (hln c hc hne).2.2.2)
theorem FtI_tick {a a' b b' : TS} {L F : Nat} (hE : TickE a b a' b') (h : FtI a b L F) : FtI a' b' L F := by
  obtain ⟨T, a0, b0, a1, b1, hT, ht, hC, -, hL, -, hM, -⟩ := hE
  obtain ⟨ca, cb⟩ := EvC_c hC
  exact hM (fun x y => FtI x y L F) (fun _ _ _ _ e h => FtI_M e h) (hL (fun x y => FtI x y L F) (fun _ _ _ _ e h => FtI_L e h) (FtI_c h ca cb (by decide) (by decide)))
theorem FtI_ticks {a a' b b' : TS} {L F : Nat} (hE : StpE TickE a b a' b') (h : FtI a b L F) : FtI a' b' L F := hE (fun x y => FtI x y L F) (fun _ _ _ _ e h => FtI_tick e h) h
theorem FtI_Ss {a a' b b' : TS} {L F : Nat} (hE : StpE EvS a b a' b') (h : FtI a b L F) : FtI a' b' L F := hE (fun x y => FtI x y L F) (fun x y x' y' e h => by
  obtain ⟨sh, p, o, q, g, -, -, -, -, -, -, ⟨-, -, -, -, -, e48, ho, -⟩, -, ca, cb, -, -⟩ := e
  exact FtI_p h (dZ ca (S := [27]) (P := []) (s := 27) (by decide) (by simp) 0) e48 (fun c hc hne => (ho c hc hne).2)) h
theorem FtI_B {a a' b b' : TS} {L F : Nat} (hE : EvB a b a' b') (h : FtI a b L F) : FtI a' b' L F := by
  obtain ⟨sh, p, m, o, q, g, -, -, ⟨-, -, -, -, -, e48, ho, -⟩, -, ca, cb, -, -⟩ := hE
  exact FtI_p h (dZ ca (S := [27]) (P := []) (s := 27) (by decide) (by simp) 0) e48 (fun c hc hne => (ho c hc hne).2)
theorem FtI_F {a a' b b' : TS} {L F : Nat} (hE : EvF a b a' b') (h : FtI a b L F) : FtI a' b' L F := by
  obtain ⟨sh, g, -, ⟨-, e48, ho, -⟩, -, -, ca, cb, -, -⟩ := hE
  exact FtI_p h (dZ ca (S := [27]) (P := []) (s := 27) (by decide) (by simp) 0) e48 (fun c hc hne => (ho c hc hne).2)
theorem FtI_pay {a a' b b' : TS} {L F cd sh : Nat} {m pin : Int32} (hE : PayP a b a' b' cd sh m pin) (h : FtI a b L F) : FtI a' b' L F := by
  obtain ⟨c, -, -, -, -, -, -, -, hw, ca, cb, cb0⟩ := hE
  rcases hw with ⟨e, -⟩ | ⟨-, g, ⟨-, e48, ho, -⟩, -⟩
  · exact FtI_c h ca (cb0 e) (by decide) (by decide)
  · exact FtI_p h (dZ ca (S := [27]) (P := []) (s := 27) (by decide) (by simp) 0) e48 (fun c hc hne => (ho c hc hne).2)
/-- what a tick leaves as it was -/
theorem Fr_ticks {a a' b b' : TS} (hE : StpE TickE a b a' b') : chF TkA FtA a a' ∧ chF TkB FtB b b' :=
  hE (fun x y => chF TkA FtA a x ∧ chF TkB FtB b y) (fun x y x' y' e h => by
    obtain ⟨T, a0, b0, a1, b1, -, -, -, -, -, -, -, -, -, -, ⟨⟨c1, d1, -⟩, ⟨c2, d2, -⟩, ⟨c3, d3, -⟩⟩, -⟩ := e
    exact ⟨chF_t h.1 (chF_t c1 (chF_t c2 c3)), chF_t h.2 (chF_t d1 (chF_t d2 d3))⟩) ⟨chF_r _ _ _, chF_r _ _ _⟩
