/-! ===== who was granted what: what else comes up and is DONE ===== -/
/-- a TAKE BACK is heard -/
theorem LI_tb {nP : Nat} {pf : Nat → Nat → Int32} {ctr : Nat → Int32} {sent : Nat → Prop} {H : Nat → Nat → Int32} {A : Nat → Nat → Nat → Int32} {up dn : Int32 → (Nat → Int32) → Prop} {kp : (Nat → Int32) → Prop} {nt : Nat → Prop} {opn : Prop} {now : Int32} {swd : Nat → Prop} {H' : Nat → Nat → Int32} {A' : Nat → Nat → Nat → Int32} {up' : Int32 → (Nat → Int32) → Prop} {dn' : Int32 → (Nat → Int32) → Prop} {swd' : Nat → Prop} {p : Nat} {q r : Nat → Int32} (h : LI nP pf ctr sent H A up dn kp nt opn now swd) (hp : p < nP) (hq : up now q) (q0 : q 0 = 1) (q1 : q 1 = Int32.ofNat p)
    (hH : ∀ n f, n < 1000 → f = 0 ∨ f = 7 ∨ f = 8 ∨ f = 9 ∨ f = 12 → n ≠ p ∨ f = 0 ∨ f = 7 ∨ f = 8 → H' n f = H n f) (h12 : H' p 12 = 0) (h9 : H p 8 = 0 → H' p 9 ≠ 0) (h9' : H p 8 ≠ 0 → H' p 9 = H p 9) (hA : ∀ n t f, n < 1000 → t = 62 ∨ t = 63 ∨ t = 64 → A' n t f = A n t f)
    (hsw : ∀ p, swd p → swd' p) (hu : ∀ d g, up' d g → up d g) (hd : ∀ d g, dn' d g → dn d g ∨ g = r) (hr : r 0 = 5 ∧ r 1 = Int32.ofNat p ∧ r 13 = 0 ∧ r 8 = 1) : LI nP pf ctr sent H' A' up' dn' kp nt opn now swd' := by
  obtain ⟨np, cd, ct, upk, kpk, dnk, pst, sntI, tkb, s4, s2, k0, k7, hld, ntp, j0, j1, j2⟩ := h
  have p1 : p < 1000 := by omega
  have e0 : ∀ n, n < 1000 → H' n 0 = H n 0 := fun n hn => hH n 0 hn (by simp) (by simp)
  have e7 : ∀ n, n < 1000 → H' n 7 = H n 7 := fun n hn => hH n 7 hn (by simp) (by simp)
  have e8 : ∀ n, n < 1000 → H' n 8 = H n 8 := fun n hn => hH n 8 hn (by simp) (by simp)
  have e9 : ∀ n, n < 1000 → n ≠ p → H' n 9 = H n 9 := fun n hn hne => hH n 9 hn (by simp) (Or.inl hne)
  have e12 : ∀ n, n < 1000 → n ≠ p → H' n 12 = H n 12 := fun n hn hne => hH n 12 hn (by simp) (Or.inl hne)
  have a62 : ∀ n f, n < 1000 → A' n 62 f = A n 62 f := fun n f hn => hA n 62 f hn (by simp)
  have a63 : ∀ n f, n < 1000 → A' n 63 f = A n 63 f := fun n f hn => hA n 63 f hn (by simp)
  have a64 : ∀ n f, n < 1000 → A' n 64 f = A n 64 f := fun n f hn => hA n 64 f hn (by simp)
  have au : ∀ p d, askU up' p d → askU up p d := fun p d ⟨g, h1, h2⟩ => ⟨g, hu _ _ h1, h2⟩
  have dd : ∀ n, n < nP → den pf dn' n → den pf dn n := by
    intro n hn w
    rcases w with w | ⟨d, g, w1, w2, w3, w4⟩
    · exact Or.inl w
    · rcases hd d g w1 with w1 | w1
      · exact Or.inr ⟨d, g, w1, w2, w3, w4⟩
      · subst w1
        rw [hr.1] at w2
        exact absurd w2 (by decide)
  have hst : pf p 0 = 0 ∨ pf p 0 = 4 := by
    obtain ⟨-, p', x1, x2, x3, -⟩ := upk now q hq
    have := inj2 (q1.symm.trans x2) (by omega) (by omega)
    subst this
    exact x3 q0
  have mono : ∀ n, n < 1000 → H n 9 ≠ 0 → H' n 9 ≠ 0 := by
    intro n hn w
    by_cases e : n = p
    · subst e
      by_cases e8 : H n 8 = 0
      · exact h9 e8
      · rw [h9' e8]; exact w
    · rw [e9 n hn e]; exact w
  refine ⟨np, cd, ct, ?_, kpk, ?_, ?_, ?_, ?_, ?_, ?_, ?_, ?_, ?_, ?_, ?_, ?_, ?_⟩
  · grind
  · intro d g hg
    rcases hd d g hg with hg | hg
    · obtain ⟨x1, n, x2, x3, x4, x5, x6, x7⟩ := dnk d g hg
      have hn : n < 1000 := by omega
      exact ⟨x1, n, x2, x3, by rw [e0 n hn]; exact x4, by rw [e7 n hn]; exact x5, fun w1 w2 => by rw [e8 n hn]; exact (x6 w1 w2).imp (mono n hn) id, by rw [e8 n hn]; exact x7⟩
    · subst hg
      obtain ⟨y1, y2, y3, y4⟩ := hr
      refine ⟨y3, p, hp, y2, fun w => ?_, fun w => ?_, fun _ _ => ?_, fun _ w => ?_⟩
      · rw [y1] at w; exact absurd w (by decide)
      · rw [y1] at w; exact absurd w (by decide)
      · by_cases w : H p 8 = 0
        · exact Or.inl (h9 w)
        · exact Or.inr (by rw [e8 p p1]; exact w)
      · rw [y4] at w; exact absurd w (by decide)
  · grind
  · grind
  · intro n hn w
    by_cases e : n = p
    · subst e; exact ⟨hp, hst⟩
    · rw [e9 n hn e] at w
      exact tkb n hn w
  · intro n hn w
    exact (s4 n hn w).imp (mono n (by omega)) id
  · grind
  · grind
  · grind
  · intro n hn w
    by_cases e : n = p
    · subst e; exact absurd h12 w
    · rw [e12 n hn e] at w
      rw [e0 n hn, e7 n hn]
      exact hld n hn w
  · exact ntp
  · grind
  · intro n hn w
    have hn1 : n < 1000 := by omega
    obtain ⟨y1, y2, y3, y4⟩ := j1 n hn (dd n hn w)
    rw [e0 n hn1, e7 n hn1]
    exact ⟨y1, y2, y3, fun d w => ⟨(y4 d (au n d w)).1, (y4 d (au n d w)).2.1, fun w2 => hsw n ((y4 d (au n d w)).2.2 w2)⟩⟩
  · intro n d hn w
    have hn1 : n < 1000 := by omega
    rw [e0 n hn1, e7 n hn1]
    exact j2 n d hn (au n d w)
/-- a RECORD is posted, or was -/
theorem LI_rec {nP : Nat} {pf : Nat → Nat → Int32} {ctr : Nat → Int32} {sent : Nat → Prop} {H : Nat → Nat → Int32} {A : Nat → Nat → Nat → Int32} {up dn : Int32 → (Nat → Int32) → Prop} {kp : (Nat → Int32) → Prop} {nt : Nat → Prop} {opn : Prop} {now : Int32} {swd : Nat → Prop} {H' : Nat → Nat → Int32} {A' : Nat → Nat → Nat → Int32} {up' : Int32 → (Nat → Int32) → Prop} {dn' : Int32 → (Nat → Int32) → Prop} {swd' : Nat → Prop} {p : Nat} {q r : Nat → Int32} (h : LI nP pf ctr sent H A up dn kp nt opn now swd) (hp : p < nP) (hq : up now q) (q0 : q 0 = 2) (q1 : q 1 = Int32.ofNat p)
    (hH : ∀ n f, n < 1000 → f = 0 ∨ f = 7 ∨ f = 8 ∨ f = 9 ∨ f = 12 → n ≠ p ∨ f = 0 ∨ f = 7 ∨ f = 9 → H' n f = H n f) (h12 : H' p 12 = H p 12 ∨ H' p 12 = 0) (h8 : H' p 8 ≠ 0) (hA : ∀ n t f, n < 1000 → t = 62 ∨ t = 63 ∨ t = 64 ∧ n ≠ p → A' n t f = A n t f) (hA4 : A' p 64 0 = pf p 1 ∧ A' p 64 1 = pf p 4)
    (hsw : ∀ p, swd p → swd' p) (hu : ∀ d g, up' d g → up d g) (hd : ∀ d g, dn' d g → dn d g ∨ g = r) (hr : r 0 = 5 ∧ r 1 = Int32.ofNat p ∧ r 13 = 0 ∧ r 8 = 2) : LI nP pf ctr sent H' A' up' dn' kp nt opn now swd' := by
  obtain ⟨np, cd, ct, upk, kpk, dnk, pst, sntI, tkb, s4, s2, k0, k7, hld, ntp, j0, j1, j2⟩ := h
  have p1 : p < 1000 := by omega
  have e0 : ∀ n, n < 1000 → H' n 0 = H n 0 := fun n hn => hH n 0 hn (by simp) (by simp)
  have e7 : ∀ n, n < 1000 → H' n 7 = H n 7 := fun n hn => hH n 7 hn (by simp) (by simp)
  have e8 : ∀ n, n < 1000 → n ≠ p → H' n 8 = H n 8 := fun n hn hne => hH n 8 hn (by simp) (Or.inl hne)
  have e9 : ∀ n, n < 1000 → H' n 9 = H n 9 := fun n hn => hH n 9 hn (by simp) (by simp)
  have e12 : ∀ n, n < 1000 → n ≠ p → H' n 12 = H n 12 := fun n hn hne => hH n 12 hn (by simp) (Or.inl hne)
  have a62 : ∀ n f, n < 1000 → A' n 62 f = A n 62 f := fun n f hn => hA n 62 f hn (by simp)
  have a63 : ∀ n f, n < 1000 → A' n 63 f = A n 63 f := fun n f hn => hA n 63 f hn (by simp)
  have a64 : ∀ n f, n < 1000 → n ≠ p → A' n 64 f = A n 64 f := fun n f hn hne => hA n 64 f hn (by simp [hne])
  have au : ∀ p d, askU up' p d → askU up p d := fun p d ⟨g, h1, h2⟩ => ⟨g, hu _ _ h1, h2⟩
  have dd : ∀ n, n < nP → den pf dn' n → den pf dn n := by
    intro n hn w
    rcases w with w | ⟨d, g, w1, w2, w3, w4⟩
    · exact Or.inl w
    · rcases hd d g w1 with w1 | w1
      · exact Or.inr ⟨d, g, w1, w2, w3, w4⟩
      · subst w1
        rw [hr.1] at w2
        exact absurd w2 (by decide)
  have hst : sent p := by
    obtain ⟨-, p', x1, x2, -, x4⟩ := upk now q hq
    have := inj2 (q1.symm.trans x2) (by omega) (by omega)
    subst this
    exact (x4 q0).1
  have mono : ∀ n, n < 1000 → H n 8 ≠ 0 → H' n 8 ≠ 0 := by
    intro n hn w
    by_cases e : n = p
    · subst e; exact h8
    · rw [e8 n hn e]; exact w
  refine ⟨np, cd, ct, ?_, kpk, ?_, ?_, ?_, ?_, ?_, ?_, ?_, ?_, ?_, ?_, ?_, ?_, ?_⟩
  · grind
  · intro d g hg
    rcases hd d g hg with hg | hg
    · obtain ⟨x1, n, x2, x3, x4, x5, x6, x7⟩ := dnk d g hg
      have hn : n < 1000 := by omega
      exact ⟨x1, n, x2, x3, by rw [e0 n hn]; exact x4, by rw [e7 n hn]; exact x5, fun w1 w2 => by rw [e9 n hn]; exact (x6 w1 w2).imp id (mono n hn), fun w1 w2 => mono n hn (x7 w1 w2)⟩
    · subst hg
      obtain ⟨y1, y2, y3, y4⟩ := hr
      refine ⟨y3, p, hp, y2, fun w => ?_, fun w => ?_, fun _ w => ?_, fun _ w => h8⟩
      · rw [y1] at w; exact absurd w (by decide)
      · rw [y1] at w; exact absurd w (by decide)
      · rw [y4] at w; exact absurd w (by decide)
  · intro n hn w
    by_cases e : n = p
    · subst e; exact ⟨hp, (sntI n hp hst).1, hst, hA4⟩
    · rw [e8 n hn e] at w
      rw [a64 n 0 hn e, a64 n 1 hn e]
      exact pst n hn w
  · intro n hn w
    exact ⟨(sntI n hn w).1, (sntI n hn w).2.imp (mono n (by omega)) id⟩
  · grind
  · grind
  · grind
  · grind
  · grind
  · intro n hn w
    rw [e0 n hn, e7 n hn]
    by_cases e : n = p
    · subst e
      rcases h12 with q | q
      · rw [q] at w
        exact hld n hn w
      · exact absurd q w
    · rw [e12 n hn e] at w
      exact hld n hn w
  · exact ntp
  · grind
  · intro n hn w
    have hn1 : n < 1000 := by omega
    obtain ⟨y1, y2, y3, y4⟩ := j1 n hn (dd n hn w)
    rw [e0 n hn1, e7 n hn1]
    exact ⟨y1, y2, y3, fun d w => ⟨(y4 d (au n d w)).1, (y4 d (au n d w)).2.1, fun w2 => hsw n ((y4 d (au n d w)).2.2 w2)⟩⟩
  · intro n d hn w
    have hn1 : n < 1000 := by omega
    rw [e0 n hn1, e7 n hn1]
    exact j2 n d hn (au n d w)
/-- BACK MONEY is DONE: a reply that says nothing -/
theorem LI_dnew {nP : Nat} {pf : Nat → Nat → Int32} {ctr : Nat → Int32} {sent : Nat → Prop} {H : Nat → Nat → Int32} {A : Nat → Nat → Nat → Int32} {up dn : Int32 → (Nat → Int32) → Prop} {kp : (Nat → Int32) → Prop} {nt : Nat → Prop} {opn : Prop} {now : Int32} {swd : Nat → Prop} {dn' : Int32 → (Nat → Int32) → Prop} {p : Nat} {r : Nat → Int32} (h : LI nP pf ctr sent H A up dn kp nt opn now swd) (hp : p < nP) (hd : ∀ d g, dn' d g → dn d g ∨ g = r) (hr : r 0 = 5 ∧ r 1 = Int32.ofNat p ∧ r 13 = 0 ∧ r 8 = 3) : LI nP pf ctr sent H A up dn' kp nt opn now swd := by
  obtain ⟨np, cd, ct, upk, kpk, dnk, pst, sntI, tkb, s4, s2, k0, k7, hld, ntp, j0, j1, j2⟩ := h
  have dd : ∀ n, n < nP → den pf dn' n → den pf dn n := by
    intro n hn w
    rcases w with w | ⟨d, g, w1, w2, w3, w4⟩
    · exact Or.inl w
    · rcases hd d g w1 with w1 | w1
      · exact Or.inr ⟨d, g, w1, w2, w3, w4⟩
      · subst w1
        rw [hr.1] at w2
        exact absurd w2 (by decide)
  refine ⟨np, cd, ct, upk, kpk, ?_, pst, sntI, tkb, s4, s2, k0, k7, hld, ntp, j0, fun n hn w => j1 n hn (dd n hn w), j2⟩
  intro d g hg
  rcases hd d g hg with hg | hg
  · exact dnk d g hg
  · subst hg
    obtain ⟨y1, y2, y3, y4⟩ := hr
    refine ⟨y3, p, hp, y2, fun w => ?_, fun w => ?_, fun _ w => ?_, fun _ w => ?_⟩
    · rw [y1] at w; exact absurd w (by decide)
    · rw [y1] at w; exact absurd w (by decide)
    · rw [y4] at w; exact absurd w (by decide)
    · rw [y4] at w; exact absurd w (by decide)
