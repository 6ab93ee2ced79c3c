/-! ===== who was granted what: an abstract view of the house ===== -/
def okU (nP : Nat) (pf : Nat → Nat → Int32) (sent : Nat → Prop) (g : Nat → Int32) : Prop := g 13 = 0 ∧ ∃ p, p < nP ∧ g 1 = Int32.ofNat p ∧ (g 0 = 1 → pf p 0 = 0 ∨ pf p 0 = 4) ∧ (g 0 = 2 → sent p ∧ g 6 = 1 + pf p 8)
def okD (nP : Nat) (H : Nat → Nat → Int32) (nt : Nat → Prop) (g : Nat → Int32) : Prop := g 13 = 0 ∧ ∃ p, p < nP ∧ g 1 = Int32.ofNat p ∧ (g 0 = 4 → g 11 = 1 → g 12 = 1 → H p 0 = 1) ∧ (g 0 = 4 → g 11 = 1 → g 12 ≠ 1 → H p 7 ≠ 0 ∨ nt p) ∧ (g 0 = 5 → g 8 = 1 → H p 9 ≠ 0 ∨ H p 8 ≠ 0) ∧ (g 0 = 5 → g 8 = 2 → H p 8 ≠ 0)
def kpR (kp : (Nat → Int32) → Prop) (s : Int32) (p : Nat) : Prop := ∃ g, kp g ∧ g 0 = s ∧ g 1 = Int32.ofNat p
/-- an ASK of p is on its way -/
def askU (up : Int32 → (Nat → Int32) → Prop) (p : Nat) (d : Int32) : Prop := ∃ g, up d g ∧ g 0 = 0 ∧ g 1 = Int32.ofNat p
/-- p was denied, or will hear so -/
def den (pf : Nat → Nat → Int32) (dn : Int32 → (Nat → Int32) → Prop) (p : Nat) : Prop := pf p 0 = 3 ∨ ∃ d g, dn d g ∧ g 0 = 4 ∧ g 1 = Int32.ofNat p ∧ g 11 = 0
def LI (nP : Nat) (pf : Nat → Nat → Int32) (ctr : Nat → Int32) (sent : Nat → Prop) (H : Nat → Nat → Int32) (A : Nat → Nat → Nat → Int32) (up dn : Int32 → (Nat → Int32) → Prop) (kp : (Nat → Int32) → Prop) (nt : Nat → Prop) (opn : Prop) (now : Int32) (swd : Nat → Prop) : Prop :=
  (nP ≤ 200) ∧
  (∀ p p', p < nP → p' < nP → p ≠ p' → pf p 1 = pf p' 1 → pf p 4 ≠ pf p' 4) ∧
  (∀ p, p < nP → ∃ k c C, k < 8 ∧ pf p 1 = Int32.ofNat k ∧ pf p 4 = Int32.ofNat c ∧ ctr k = Int32.ofNat C ∧ c ≤ C ∧ C ≤ 200) ∧
  (∀ d g, up d g → okU nP pf sent g) ∧
  (∀ g, kp g → okU nP pf sent g ∧ g 0 ≠ 0) ∧
  (∀ d g, dn d g → okD nP H nt g) ∧
  (∀ n, n < 1000 → H n 8 ≠ 0 → n < nP ∧ (pf n 0 = 0 ∨ pf n 0 = 2) ∧ sent n ∧ A n 64 0 = pf n 1 ∧ A n 64 1 = pf n 4) ∧
  (∀ p, p < nP → sent p → (pf p 0 = 0 ∨ pf p 0 = 2) ∧ (H p 8 ≠ 0 ∨ kpR kp 2 p)) ∧
  (∀ n, n < 1000 → H n 9 ≠ 0 → n < nP ∧ (pf n 0 = 0 ∨ pf n 0 = 4)) ∧
  (∀ p, p < nP → pf p 0 = 4 → H p 9 ≠ 0 ∨ kpR kp 1 p) ∧
  (∀ p, p < nP → pf p 0 = 2 → (pf p 8 = 1 → H p 0 = 1) ∧ (pf p 8 = 2 → H p 7 ≠ 0 ∨ nt p)) ∧
  (∀ n, n < 1000 → H n 0 ≠ 0 → n < nP ∧ A n 62 0 = pf n 1 ∧ A n 62 1 = pf n 4 ∧ A n 62 2 = pf n 3) ∧
  (∀ n, n < 1000 → H n 7 ≠ 0 → n < nP ∧ A n 63 0 = pf n 1 ∧ A n 63 1 = pf n 4 ∧ A n 63 2 = pf n 3) ∧
  (∀ n, n < 1000 → H n 12 ≠ 0 → H n 0 = 1 ∨ H n 7 ≠ 0) ∧
  (∀ p, p < 1000 → nt p → p < nP ∧ ¬ opn) ∧
  (∀ p d d', p < nP → askU up p d → askU up p d' → d = d') ∧
  (∀ p, p < nP → den pf dn p → H p 0 ≠ 1 ∧ H p 7 = 0 ∧ ¬ nt p ∧ ∀ d, askU up p d → d = now ∧ (opn → H p 0 = 2) ∧ (¬ opn → swd p)) ∧
  (∀ p d, p < nP → askU up p d → H p 7 = 0 ∧ (nt p → d = now) ∧ (H p 0 ≠ 0 → d = now ∧ opn))
theorem inj2 {p p' : Nat} (h : Int32.ofNat p = Int32.ofNat p') (h1 : p ≤ 1000) (h2 : p' ≤ 1000) : p = p' := o_inj (by omega) (by omega) h
/-- lines lose, of what is known nothing that matters changes -/
theorem LI_less {nP : Nat} {pf : Nat → Nat → Int32} {ctr : Nat → Int32} {sent : Nat → Prop} {H : Nat → Nat → Int32} {A : Nat → Nat → Nat → Int32} {up dn : Int32 → (Nat → Int32) → Prop} {kp : (Nat → Int32) → Prop} {nt : Nat → Prop} {opn : Prop} {now : Int32} {swd : Nat → Prop} {H' : Nat → Nat → Int32} {A' : Nat → Nat → Nat → Int32} {up' : Int32 → (Nat → Int32) → Prop} {dn' : Int32 → (Nat → Int32) → Prop} {swd' : Nat → Prop} (h : LI nP pf ctr sent H A up dn kp nt opn now swd) (hH : ∀ n f, n < 1000 → f = 0 ∨ f = 7 ∨ f = 8 ∨ f = 9 ∨ f = 12 → H' n f = H n f) (hA : ∀ n t f, n < 1000 → t = 62 ∨ t = 63 ∨ t = 64 → A' n t f = A n t f)
    (hsw : ∀ p, swd p → swd' p) (hu : ∀ d g, up' d g → up d g) (hd : ∀ d g, dn' d g → dn d g) : LI nP pf ctr sent H' A' up' dn' kp nt opn now swd' := by
  obtain ⟨np, cd, ct, upk, kpk, dnk, pst, sntI, tkb, s4, s2, k0, k7, hld, ntp, j0, j1, j2⟩ := h
  have e0 : ∀ n, n < 1000 → H' n 0 = H n 0 := fun n hn => hH n 0 hn (by simp)
  have e7 : ∀ n, n < 1000 → H' n 7 = H n 7 := fun n hn => hH n 7 hn (by simp)
  have e8 : ∀ n, n < 1000 → H' n 8 = H n 8 := fun n hn => hH n 8 hn (by simp)
  have e9 : ∀ n, n < 1000 → H' n 9 = H n 9 := fun n hn => hH n 9 hn (by simp)
  have e12 : ∀ n, n < 1000 → H' n 12 = H n 12 := fun n hn => hH n 12 hn (by simp)
  have a62 : ∀ n f, n < 1000 → A' n 62 f = A n 62 f := fun n f hn => hA n 62 f hn (by simp)
  have a63 : ∀ n f, n < 1000 → A' n 63 f = A n 63 f := fun n f hn => hA n 63 f hn (by simp)
  have a64 : ∀ n f, n < 1000 → A' n 64 f = A n 64 f := fun n f hn => hA n 64 f hn (by simp)
  have au : ∀ p d, askU up' p d → askU up p d := fun p d ⟨g, h1, h2⟩ => ⟨g, hu _ _ h1, h2⟩
  have dd : ∀ p, den pf dn' p → den pf dn p := fun p q => q.imp id (fun ⟨d, g, h1, h2⟩ => ⟨d, g, hd _ _ h1, h2⟩)
  refine ⟨np, cd, ct, ?_, kpk, ?_, ?_, ?_, ?_, ?_, ?_, ?_, ?_, ?_, ntp, ?_, ?_, ?_⟩
  · grind
  · unfold okD at *; grind
  · grind
  · grind
  · grind
  · grind
  · grind
  · grind
  · grind
  · grind
  · grind
  · grind
  · grind
