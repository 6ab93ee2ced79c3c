/-! ===== who was granted what: an ASK is heard ===== -/
theorem LI_askI {nP : Nat} {pf : Nat → Nat → Int32} {ctr : Nat → Int32} {sent : Nat → Prop} {H : Nat → Nat → Int32} {A : Nat → Nat → Nat → Int32} {up dn : Int32 → (Nat → Int32) → Prop} {kp : (Nat → Int32) → Prop} {nt : Nat → Prop} {opn : Prop} {now : Int32} {swd : Nat → Prop} {H' : Nat → Nat → Int32} {A' : Nat → Nat → Nat → Int32} {up' : Int32 → (Nat → Int32) → Prop} {dn' : Int32 → (Nat → Int32) → Prop} {swd' : Nat → Prop} {p : Nat} {q r : Nat → Int32} (h : LI nP pf ctr sent H A up dn kp nt opn now swd) (hp : p < nP) (hq : up now q) (q0 : q 0 = 0) (q1 : q 1 = Int32.ofNat p) (ho : opn)
    (hH : ∀ n f, n < 1000 → f = 0 ∨ f = 7 ∨ f = 8 ∨ f = 9 ∨ f = 12 → n ≠ p ∨ f = 7 ∨ f = 8 ∨ f = 9 → H' n f = H n f) (h0 : H p 0 ≠ 0 → H' p 0 = H p 0) (h1 : H' p 0 = 1 ∨ H' p 0 = 2) (h12 : H' p 12 = H p 12 ∨ H' p 0 = 1)
    (hA : ∀ n t f, n < 1000 → t = 63 ∨ t = 64 ∨ t = 62 ∧ n ≠ p → A' n t f = A n t f) (hA2 : A' p 62 0 = pf p 1 ∧ A' p 62 1 = pf p 4 ∧ A' p 62 2 = pf p 3)
    (hsw : ∀ p, swd p → swd' p) (hu : ∀ d g, up' d g → up d g) (hd : ∀ d g, dn' d g → dn d g ∨ g = r) (hr : r 0 = 4 ∧ r 1 = Int32.ofNat p ∧ r 13 = 0 ∧ r 12 = 1) (hr1 : r 11 = 1 → H' p 0 = 1) (hr2 : r 11 = 0 → H' p 0 = 2) : LI nP pf ctr sent H' A' up' dn' kp nt opn now swd' := by
  obtain ⟨np, cd, ct, upk, kpk, dnk, pst, sntI, tkb, s4, s2, k0, k7, hld, ntp, j0, j1, j2⟩ := h
  have p1 : p < 1000 := by omega
  have e0 : ∀ n, n < 1000 → n ≠ p → H' n 0 = H n 0 := fun n hn hne => hH n 0 hn (by simp) (Or.inl hne)
  have e7 : ∀ n, n < 1000 → H' n 7 = H n 7 := fun n hn => hH n 7 hn (by simp) (by simp)
  have e8 : ∀ n, n < 1000 → H' n 8 = H n 8 := fun n hn => hH n 8 hn (by simp) (by simp)
  have e9 : ∀ n, n < 1000 → H' n 9 = H n 9 := fun n hn => hH n 9 hn (by simp) (by simp)
  have e12 : ∀ n, n < 1000 → n ≠ p → H' n 12 = H n 12 := fun n hn hne => hH n 12 hn (by simp) (Or.inl hne)
  have a62 : ∀ n f, n < 1000 → n ≠ p → A' n 62 f = A n 62 f := fun n f hn hne => hA n 62 f hn (by simp [hne])
  have a63 : ∀ n f, n < 1000 → A' n 63 f = A n 63 f := fun n f hn => hA n 63 f hn (by simp)
  have a64 : ∀ n f, n < 1000 → A' n 64 f = A n 64 f := fun n f hn => hA n 64 f hn (by simp)
  have au : ∀ p d, askU up' p d → askU up p d := fun p d ⟨g, h1, h2⟩ => ⟨g, hu _ _ h1, h2⟩
  have hask : askU up p now := ⟨q, hq, q0, q1⟩
  have hin : ∀ n, n < nP → Int32.ofNat n = Int32.ofNat p → n = p := fun n hn e => inj2 e (by omega) (by omega)
  have dd : ∀ n, n < nP → den pf dn' n → den pf dn n ∨ (n = p ∧ H' p 0 = 2) := by
    intro n hn w
    rcases w with w | ⟨d, g, w1, w2, w3, w4⟩
    · exact Or.inl (Or.inl w)
    · rcases hd d g w1 with w1 | w1
      · exact Or.inl (Or.inr ⟨d, g, w1, w2, w3, w4⟩)
      · subst w1
        exact Or.inr ⟨hin n hn (w3.symm.trans hr.2.1), hr2 w4⟩
  have hne : (2 : Int32) ≠ 1 := by decide
  have hnz : (2 : Int32) ≠ 0 := by decide
  have hnz1 : (1 : Int32) ≠ 0 := by decide
  have h7 : H p 7 = 0 := (j2 p now hp hask).1
  have hnt : ¬ nt p := fun w => (ntp p p1 w).2 ho
  have hmono : ∀ n, n < 1000 → H n 0 = 1 → H' n 0 = 1 := by
    intro n hn w
    by_cases e : n = p
    · subst e
      rw [h0 (by rw [w]; exact hnz1), w]
    · rw [e0 n hn e, w]
  have hmono2 : ∀ n, n < 1000 → H n 0 = 2 → H' n 0 = 2 := by
    intro n hn w
    by_cases e : n = p
    · subst e
      rw [h0 (by rw [w]; exact hnz), w]
    · rw [e0 n hn e, w]
  refine ⟨np, cd, ct, ?_, kpk, ?_, ?_, ?_, ?_, ?_, ?_, ?_, ?_, ?_, ntp, ?_, ?_, ?_⟩
  · grind
  · intro d g hg
    rcases hd d g hg with hg | hg
    · obtain ⟨x1, n, x2, x3, x4, x5, x6, x7⟩ := dnk d g hg
      have hn : n < 1000 := by omega
      exact ⟨x1, n, x2, x3, fun w1 w2 w3 => hmono n hn (x4 w1 w2 w3), by rw [e7 n hn]; exact x5, by rw [e8 n hn, e9 n hn]; exact x6, by rw [e8 n hn]; exact x7⟩
    · subst hg
      obtain ⟨y1, y2, y3, y4⟩ := hr
      refine ⟨y3, p, hp, y2, fun _ w _ => hr1 w, fun _ _ w => absurd y4 w, fun w => ?_, fun w => ?_⟩
      · rw [y1] at w; exact absurd w (by decide)
      · rw [y1] at w; exact absurd w (by decide)
  · grind
  · grind
  · grind
  · grind
  · intro n hn w
    have hn1 : n < 1000 := by omega
    rw [e7 n hn1]
    exact ⟨fun w2 => hmono n hn1 ((s2 n hn w).1 w2), (s2 n hn w).2⟩
  · intro n hn w
    by_cases e : n = p
    · subst e; exact ⟨hp, hA2⟩
    · rw [e0 n hn e] at w
      rw [a62 n 0 hn e, a62 n 1 hn e, a62 n 2 hn e]
      exact k0 n hn w
  · grind
  · intro n hn w
    by_cases e : n = p
    · subst e
      rcases h12 with q | q
      · rw [q] at w
        rw [e7 n hn]
        exact (hld n hn w).imp (hmono n hn) id
      · exact Or.inl q
    · rw [e12 n hn e] at w
      rw [e0 n hn e, e7 n hn]
      exact hld n hn w
  · grind
  · intro n hn w
    have hn1 : n < 1000 := by omega
    rw [e7 n hn1]
    by_cases e : n = p
    · subst e
      have two : H' n 0 = 2 := by
        rcases dd n hn w with w | w
        · exact hmono2 n hn1 (((j1 n hn w).2.2.2 now hask).2.1 ho)
        · exact w.2
      refine ⟨by rw [two]; exact hne, h7, hnt, fun d w => ⟨j0 n d now hn (au n d w) hask, fun _ => two, fun w => absurd ho w⟩⟩
    · rcases dd n hn w with w | w
      · obtain ⟨y1, y2, y3, y4⟩ := j1 n hn w
        rw [e0 n hn1 e]
        exact ⟨y1, y2, y3, fun d w => ⟨(y4 d (au n d w)).1, (y4 d (au n d w)).2.1, fun w2 => hsw n ((y4 d (au n d w)).2.2 w2)⟩⟩
      · exact absurd w.1 e
  · intro n d hn w
    have hn1 : n < 1000 := by omega
    have w2 := au n d w
    rw [e7 n hn1]
    by_cases e : n = p
    · subst e
      exact ⟨h7, fun q => absurd q hnt, fun _ => ⟨j0 n d now hn w2 hask, ho⟩⟩
    · rw [e0 n hn1 e]
      exact j2 n d hn w2
/-- the switch answers an ASK -/
theorem LI_askS {nP : Nat} {pf : Nat → Nat → Int32} {ctr : Nat → Int32} {sent : Nat → Prop} {H : Nat → Nat → Int32} {A : Nat → Nat → Nat → Int32} {up dn : Int32 → (Nat → Int32) → Prop} {kp : (Nat → Int32) → Prop} {nt : Nat → Prop} {opn : Prop} {now : Int32} {swd : Nat → Prop} {H' : Nat → Nat → Int32} {A' : Nat → Nat → Nat → Int32} {up' : Int32 → (Nat → Int32) → Prop} {dn' : Int32 → (Nat → Int32) → Prop} {nt' : Nat → Prop} {swd' : Nat → Prop} {p : Nat} {q r : Nat → Int32} {w : Int32} (h : LI nP pf ctr sent H A up dn kp nt opn now swd) (hp : p < nP) (hq : up now q) (q0 : q 0 = 0) (q1 : q 1 = Int32.ofNat p) (ho : ¬ opn)
    (hH : ∀ n f, n < 1000 → f = 0 ∨ f = 7 ∨ f = 8 ∨ f = 9 ∨ f = 12 → H' n f = H n f) (hA : ∀ n t f, n < 1000 → t = 62 ∨ t = 63 ∨ t = 64 → A' n t f = A n t f)
    (hsw : ∀ p, swd p → swd' p) (hn1 : ∀ k, nt k → nt' k) (hn2 : ∀ k, k < 1000 → nt' k → nt k ∨ k = p) (hw : w = 1 ∨ w = 2) (hw1 : w = 1 → nt' p ∧ (nt p ∨ ¬ swd p)) (hw2 : w = 2 → ¬ nt' p ∧ swd p)
    (hu : ∀ d g, up' d g → up d g) (hd : ∀ d g, dn' d g → dn d g ∨ g = r) (hr : r 0 = 4 ∧ r 1 = Int32.ofNat p ∧ r 13 = 0 ∧ r 12 ≠ 1) (hr1 : r 11 = 1 → w = 1) (hr2 : r 11 = 0 → w = 2) : LI nP pf ctr sent H' A' up' dn' kp nt' opn now swd' := by
  obtain ⟨np, cd, ct, upk, kpk, dnk, pst, sntI, tkb, s4, s2, k0, k7, hld, ntp, j0, j1, j2⟩ := h
  have p1 : p < 1000 := by omega
  have e0 : ∀ n, n < 1000 → H' n 0 = H n 0 := fun n hn => hH n 0 hn (by simp)
  have e7 : ∀ n, n < 1000 → H' n 7 = H n 7 := fun n hn => hH n 7 hn (by simp)
  have e8 : ∀ n, n < 1000 → H' n 8 = H n 8 := fun n hn => hH n 8 hn (by simp)
  have e9 : ∀ n, n < 1000 → H' n 9 = H n 9 := fun n hn => hH n 9 hn (by simp)
  have e12 : ∀ n, n < 1000 → H' n 12 = H n 12 := fun n hn => hH n 12 hn (by simp)
  have a62 : ∀ n f, n < 1000 → A' n 62 f = A n 62 f := fun n f hn => hA n 62 f hn (by simp)
  have a63 : ∀ n f, n < 1000 → A' n 63 f = A n 63 f := fun n f hn => hA n 63 f hn (by simp)
  have a64 : ∀ n f, n < 1000 → A' n 64 f = A n 64 f := fun n f hn => hA n 64 f hn (by simp)
  have au : ∀ p d, askU up' p d → askU up p d := fun p d ⟨g, h1, h2⟩ => ⟨g, hu _ _ h1, h2⟩
  have hask : askU up p now := ⟨q, hq, q0, q1⟩
  have hin : ∀ n, n < nP → Int32.ofNat n = Int32.ofNat p → n = p := fun n hn e => inj2 e (by omega) (by omega)
  have dd : ∀ n, n < nP → den pf dn' n → den pf dn n ∨ (n = p ∧ w = 2) := by
    intro n hn w
    rcases w with w | ⟨d, g, w1, w2, w3, w4⟩
    · exact Or.inl (Or.inl w)
    · rcases hd d g w1 with w1 | w1
      · exact Or.inl (Or.inr ⟨d, g, w1, w2, w3, w4⟩)
      · subst w1
        exact Or.inr ⟨hin n hn (w3.symm.trans hr.2.1), hr2 w4⟩
  have h7 : H p 7 = 0 := (j2 p now hp hask).1
  have hz : H p 0 = 0 := by
    refine Decidable.byContradiction (fun w => ho ((j2 p now hp hask).2.2 w).2)
  have dp : den pf dn p → w = 2 := by
    intro x
    rcases hw with q | q
    · obtain ⟨-, -, y3, y4⟩ := j1 p hp x
      rcases (hw1 q).2 with z | z
      · exact absurd z y3
      · exact absurd ((y4 now hask).2.2 ho) z
    · exact q
  refine ⟨np, cd, ct, ?_, kpk, ?_, ?_, ?_, ?_, ?_, ?_, ?_, ?_, ?_, ?_, ?_, ?_, ?_⟩
  · grind
  · intro d g hg
    rcases hd d g hg with hg | hg
    · obtain ⟨x1, n, x2, x3, x4, x5, x6, x7⟩ := dnk d g hg
      have hn : n < 1000 := by omega
      exact ⟨x1, n, x2, x3, by rw [e0 n hn]; exact x4, fun w1 w2 w3 => by rw [e7 n hn]; exact (x5 w1 w2 w3).imp id (hn1 n), by rw [e8 n hn, e9 n hn]; exact x6, by rw [e8 n hn]; exact x7⟩
    · subst hg
      obtain ⟨y1, y2, y3, y4⟩ := hr
      refine ⟨y3, p, hp, y2, fun _ _ w => absurd w y4, fun _ w _ => Or.inr (hw1 (hr1 w)).1, fun w => ?_, fun w => ?_⟩
      · rw [y1] at w; exact absurd w (by decide)
      · rw [y1] at w; exact absurd w (by decide)
  · grind
  · grind
  · grind
  · grind
  · grind
  · grind
  · grind
  · grind
  · grind
  · grind
  · intro n hn x
    have hn1' : n < 1000 := by omega
    rw [e0 n hn1', e7 n hn1']
    by_cases e : n = p
    · subst e
      have two : w = 2 := by
        rcases dd n hn x with x | x
        · exact dp x
        · exact x.2
      refine ⟨by rw [hz]; decide, h7, (hw2 two).1, fun d x => ⟨j0 n d now hn (au n d x) hask, fun x => absurd x ho, fun _ => hsw n (hw2 two).2⟩⟩
    · rcases dd n hn x with x | x
      · obtain ⟨y1, y2, y3, y4⟩ := j1 n hn x
        refine ⟨y1, y2, fun z => ?_, fun d w => ⟨(y4 d (au n d w)).1, (y4 d (au n d w)).2.1, fun w2 => hsw n ((y4 d (au n d w)).2.2 w2)⟩⟩
        rcases hn2 n hn1' z with z | z
        · exact y3 z
        · exact e z
      · exact absurd x.1 e
  · intro n d hn x
    have hn1' : n < 1000 := by omega
    have w2 := au n d x
    rw [e0 n hn1', e7 n hn1']
    obtain ⟨y1, y2, y3⟩ := j2 n d hn w2
    refine ⟨y1, fun z => ?_, y3⟩
    rcases hn2 n hn1' z with z | z
    · exact y2 z
    · subst z
      exact j0 n d now hn w2 hask
