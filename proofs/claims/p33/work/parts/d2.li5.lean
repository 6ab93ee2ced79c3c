/-! ===== who was granted what: calls ===== -/
/-- a payment -/
theorem LI_pay {nP : Nat} {pf : Nat → Nat → Int32} {ctr : Nat → Int32} {sent : Nat → Prop} {H : Nat → Nat → Int32} {A : Nat → Nat → Nat → Int32} {up dn : Int32 → (Nat → Int32) → Prop} {kp : (Nat → Int32) → Prop} {nt : Nat → Prop} {opn : Prop} {now : Int32} {swd : Nat → Prop} {nP' : Nat} {pf' : Nat → Nat → Int32} {ctr' : Nat → Int32} {up' : Int32 → (Nat → Int32) → Prop} {swd' : Nat → Prop} {k c : Nat} {D : Int32} {r : Nat → Int32} (h : LI nP pf ctr sent H A up dn kp nt opn now swd) (hn : nP' = nP + 1) (h200 : nP < 200) (hk : k < 8) (hc : ctr k + 1 = Int32.ofNat c) (hc2 : c ≤ 200) (hck : ctr' k = Int32.ofNat c) (hco : ∀ j, j < 8 → j ≠ k → ctr' j = ctr j)
    (hpf : ∀ n f, n < nP → f < 10 → pf' n f = pf n f) (hp0 : pf' nP 0 = 0 ∨ pf' nP 0 = 1) (hp1 : pf' nP 1 = Int32.ofNat k) (hp4 : pf' nP 4 = Int32.ofNat c) (hs : ¬ sent nP) (hsw : ∀ p, p < nP → swd p → swd' p)
    (hu : ∀ d g, up' d g → up d g ∨ g = r ∧ d = D) (hr : r 0 = 0 ∧ r 1 = Int32.ofNat nP ∧ r 13 = 0) : LI nP' pf' ctr' sent H A up' dn kp nt opn now swd' := by
  obtain ⟨np, cd, ct, upk, kpk, dnk, pst, sntI, tkb, s4, s2, k0, k7, hld, ntp, j0, j1, j2⟩ := h
  subst hn
  have okU' : ∀ g, okU nP pf sent g → okU (nP + 1) pf' sent g := by
    intro g ⟨x1, n, x2, x3, x4, x5⟩
    exact ⟨x1, n, by omega, x3, by rw [hpf n 0 x2 (by omega)]; exact x4, by rw [hpf n 8 x2 (by omega)]; exact x5⟩
  have okD' : ∀ g, okD nP H nt g → okD (nP + 1) H nt g := fun g ⟨x1, n, x2, x3, x4⟩ => ⟨x1, n, by omega, x3, x4⟩
  have hup : ∀ d g, up d g → ∃ n, n < nP ∧ g 1 = Int32.ofNat n := fun d g x => by
    obtain ⟨-, n, y1, y2, -⟩ := upk d g x
    exact ⟨n, y1, y2⟩
  have au : ∀ n d, n < nP → askU up' n d → askU up n d := by
    intro n d hn ⟨g, g1, g2, g3⟩
    rcases hu d g g1 with x | ⟨x, -⟩
    · exact ⟨g, x, g2, g3⟩
    · subst x
      have := inj2 (g3.symm.trans hr.2.1) (by omega) (by omega)
      omega
  have an : ∀ d, askU up' nP d → d = D := by
    intro d ⟨g, g1, g2, g3⟩
    rcases hu d g g1 with x | ⟨-, x⟩
    · obtain ⟨n, y1, y2⟩ := hup d g x
      have := inj2 (g3.symm.trans y2) (by omega) (by omega)
      omega
    · exact x
  have hH0 : H nP 0 = 0 := Decidable.byContradiction (fun w => by have := (k0 nP (by omega) w).1; omega)
  have hH7 : H nP 7 = 0 := Decidable.byContradiction (fun w => by have := (k7 nP (by omega) w).1; omega)
  have hnt : ¬ nt nP := fun w => by have := (ntp nP (by omega) w).1; omega
  have dd : ∀ n, n < nP → den pf' dn n → den pf dn n := fun n hn x => by
    rcases x with x | x
    · exact Or.inl ((hpf n 0 hn (by omega)).symm.trans x)
    · exact Or.inr x
  have dn' : ¬ den pf' dn nP := by
    intro x
    rcases x with x | ⟨d, g, x1, x2, x3, x4⟩
    · rcases hp0 with y | y <;> (rw [y] at x; exact absurd x (by decide))
    · obtain ⟨-, n, y1, y2, -⟩ := dnk d g x1
      have := inj2 (x3.symm.trans y2) (by omega) (by omega)
      omega
  have old : ∀ n, n < nP + 1 → n ≠ nP → n < nP := fun n _ _ => by omega
  have cnew : ∀ n, n < nP → pf n 1 = Int32.ofNat k → pf n 4 ≠ Int32.ofNat c := by
    intro n hn x y
    obtain ⟨k', c', C, y1, y2, y3, y4, y5, y6⟩ := ct n hn
    have := inj2 (y2.symm.trans x) (by omega) (by omega)
    subst this
    have e := inj2 (y3.symm.trans y) (by omega) (by omega)
    rw [y4, o_s] at hc
    have := inj2 hc (by omega) (by omega)
    omega
  refine ⟨by omega, ?_, ?_, fun d g hg => ?_, fun g hg => ⟨okU' g (kpk g hg).1, (kpk g hg).2⟩, fun d g hg => okD' g (dnk d g hg), ?_, ?_, ?_, ?_, ?_, ?_, ?_, hld, ?_, ?_, ?_, ?_⟩
  · intro n n' hn hn' hne x
    by_cases e : n = nP
    · subst e
      have hn' := old n' hn' (fun q => hne q.symm)
      rw [hp1, hpf n' 1 hn' (by omega)] at x
      rw [hp4, hpf n' 4 hn' (by omega)]
      exact fun y => cnew n' hn' x.symm y.symm
    · have hn := old n hn e
      rw [hpf n 1 hn (by omega)] at x
      rw [hpf n 4 hn (by omega)]
      by_cases e' : n' = nP
      · subst e'
        rw [hp1] at x
        rw [hp4]
        exact cnew n hn x
      · have hn' := old n' hn' e'
        rw [hpf n' 1 hn' (by omega)] at x
        rw [hpf n' 4 hn' (by omega)]
        exact cd n n' hn hn' hne x
  · intro n hn
    by_cases e : n = nP
    · subst e
      exact ⟨k, c, c, hk, hp1, hp4, hck, Nat.le_refl _, hc2⟩
    · have hn := old n hn e
      rw [hpf n 1 hn (by omega), hpf n 4 hn (by omega)]
      obtain ⟨k', c', C, y1, y2, y3, y4, y5, y6⟩ := ct n hn
      by_cases e2 : k' = k
      · subst e2
        rw [y4, o_s] at hc
        have := inj2 hc (by omega) (by omega)
        exact ⟨k', c', c, y1, y2, y3, hck, by omega, hc2⟩
      · exact ⟨k', c', C, y1, y2, y3, (hco k' y1 e2).trans y4, y5, y6⟩
  · rcases hu d g hg with x | ⟨x, -⟩
    · exact okU' g (upk d g x)
    · subst x
      refine ⟨hr.2.2, nP, by omega, hr.2.1, fun y => ?_, fun y => ?_⟩ <;> (rw [hr.1] at y; exact absurd y (by decide))
  · intro n hn x
    obtain ⟨y1, y2⟩ := pst n hn x
    rw [hpf n 0 y1 (by omega), hpf n 1 y1 (by omega), hpf n 4 y1 (by omega)]
    exact ⟨by omega, y2⟩
  · intro n hn x
    have hn := old n hn (fun e => hs (e ▸ x))
    rw [hpf n 0 hn (by omega)]
    exact sntI n hn x
  · intro n hn x
    obtain ⟨y1, y2⟩ := tkb n hn x
    rw [hpf n 0 y1 (by omega)]
    exact ⟨by omega, y2⟩
  · intro n hn x
    have hn := old n hn (fun e => by subst e; rcases hp0 with y | y <;> (rw [y] at x; exact absurd x (by decide)))
    rw [hpf n 0 hn (by omega)] at x
    exact s4 n hn x
  · intro n hn x
    have hn := old n hn (fun e => by subst e; rcases hp0 with y | y <;> (rw [y] at x; exact absurd x (by decide)))
    rw [hpf n 0 hn (by omega)] at x
    rw [hpf n 8 hn (by omega)]
    exact s2 n hn x
  · intro n hn x
    obtain ⟨y1, y2⟩ := k0 n hn x
    rw [hpf n 1 y1 (by omega), hpf n 3 y1 (by omega), hpf n 4 y1 (by omega)]
    exact ⟨by omega, y2⟩
  · intro n hn x
    obtain ⟨y1, y2⟩ := k7 n hn x
    rw [hpf n 1 y1 (by omega), hpf n 3 y1 (by omega), hpf n 4 y1 (by omega)]
    exact ⟨by omega, y2⟩
  · intro p hp x
    exact ⟨by have := (ntp p hp x).1; omega, (ntp p hp x).2⟩
  · intro n d d' hn x y
    by_cases e : n = nP
    · subst e
      exact (an d x).trans (an d' y).symm
    · have hn := old n hn e
      exact j0 n d d' hn (au n d hn x) (au n d' hn y)
  · intro n hn x
    by_cases e : n = nP
    · subst e; exact absurd x dn'
    · have hn := old n hn e
      obtain ⟨y1, y2, y3, y4⟩ := j1 n hn (dd n hn x)
      exact ⟨y1, y2, y3, fun d w => ⟨(y4 d (au n d hn w)).1, (y4 d (au n d hn w)).2.1, fun w2 => hsw n hn ((y4 d (au n d hn w)).2.2 w2)⟩⟩
  · intro n d hn x
    by_cases e : n = nP
    · subst e
      exact ⟨hH7, fun q => absurd q hnt, fun q => absurd hH0 q⟩
    · have hn := old n hn e
      exact j2 n d hn (au n d hn x)
/-- a message is kept and put that is no ASK and no TAKE BACK -/
theorem LI_keep {nP : Nat} {pf : Nat → Nat → Int32} {ctr : Nat → Int32} {sent : Nat → Prop} {H : Nat → Nat → Int32} {A : Nat → Nat → Nat → Int32} {up dn : Int32 → (Nat → Int32) → Prop} {kp : (Nat → Int32) → Prop} {nt : Nat → Prop} {opn : Prop} {now : Int32} {swd : Nat → Prop} {sent' : Nat → Prop} {up' : Int32 → (Nat → Int32) → Prop} {kp' : (Nat → Int32) → Prop} {p : Nat} {r : Nat → Int32} (h : LI nP pf ctr sent H A up dn kp nt opn now swd) (hp : p < nP) (hr : r 0 = 3 ∨ r 0 = 2 ∧ sent' p ∧ r 6 = 1 + pf p 8) (hr1 : r 1 = Int32.ofNat p ∧ r 13 = 0) (hs : ∀ n, sent n → sent' n) (hs2 : ∀ n, n < nP → sent' n → sent n ∨ n = p ∧ r 0 = 2 ∧ (pf p 0 = 0 ∨ pf p 0 = 2))
    (hk : ∀ g, kp' g ↔ kp g ∨ g = r) (hu : ∀ d g, up' d g → up d g ∨ g = r) : LI nP pf ctr sent' H A up' dn kp' nt opn now swd := by
  obtain ⟨np, cd, ct, upk, kpk, dnk, pst, sntI, tkb, s4, s2, k0, k7, hld, ntp, j0, j1, j2⟩ := h
  have okU' : ∀ g, okU nP pf sent g → okU nP pf sent' g := fun g ⟨x1, n, x2, x3, x4, x5⟩ => ⟨x1, n, x2, x3, x4, fun y => ⟨hs n (x5 y).1, (x5 y).2⟩⟩
  have r01 : r 0 ≠ 1 ∧ r 0 ≠ 0 := by rcases hr with y | ⟨y, -⟩ <;> (rw [y]; decide)
  have okr : okU nP pf sent' r := ⟨hr1.2, p, hp, hr1.1, fun y => absurd y r01.1, fun y => by
    rcases hr with z | ⟨-, z⟩
    · rw [z] at y; exact absurd y (by decide)
    · exact z⟩
  have au : ∀ n d, askU up' n d → askU up n d := by
    intro n d ⟨g, g1, g2, g3⟩
    rcases hu d g g1 with x | x
    · exact ⟨g, x, g2, g3⟩
    · subst x
      exact absurd g2 r01.2
  have kk : ∀ s n, kpR kp s n → kpR kp' s n := fun s n => kpR_mono (fun g g1 _ _ => (hk g).mpr (Or.inl g1))
  refine ⟨np, cd, ct, fun d g hg => ?_, fun g hg => ?_, dnk, ?_, ?_, tkb, ?_, s2, k0, k7, hld, ntp, fun n d d' hn x y => j0 n d d' hn (au n d x) (au n d' y), fun n hn x => ?_, fun n d hn x => j2 n d hn (au n d x)⟩
  · rcases hu d g hg with x | x
    · exact okU' g (upk d g x)
    · subst x; exact okr
  · rcases (hk g).mp hg with x | x
    · exact ⟨okU' g (kpk g x).1, (kpk g x).2⟩
    · subst x; exact ⟨okr, r01.2⟩
  · intro n hn x
    obtain ⟨y1, y2, y3, y4⟩ := pst n hn x
    exact ⟨y1, y2, hs n y3, y4⟩
  · intro n hn x
    rcases hs2 n hn x with x | ⟨e, x1, x2⟩
    · exact ⟨(sntI n hn x).1, (sntI n hn x).2.imp id (kk 2 n)⟩
    · subst e
      exact ⟨x2, Or.inr ⟨r, (hk r).mpr (Or.inr rfl), x1, hr1.1⟩⟩
  · intro n hn x
    exact (s4 n hn x).imp id (kk 1 n)
  · obtain ⟨y1, y2, y3, y4⟩ := j1 n hn x
    exact ⟨y1, y2, y3, fun d w => y4 d (au n d w)⟩
/-- a note is heard -/
theorem LI_note {nP : Nat} {pf : Nat → Nat → Int32} {ctr : Nat → Int32} {sent : Nat → Prop} {H : Nat → Nat → Int32} {A : Nat → Nat → Nat → Int32} {up dn : Int32 → (Nat → Int32) → Prop} {kp : (Nat → Int32) → Prop} {nt : Nat → Prop} {opn : Prop} {now : Int32} {swd : Nat → Prop} {H' : Nat → Nat → Int32} {A' : Nat → Nat → Nat → Int32} {p : Nat} (h : LI nP pf ctr sent H A up dn kp nt opn now swd) (hp : p < nP) (hnp : nt p) (hn : ∀ d g, up d g → d ≠ now)
    (hH : ∀ n f, n < 1000 → f = 0 ∨ f = 7 ∨ f = 8 ∨ f = 9 ∨ f = 12 → n ≠ p ∨ f = 0 ∨ f = 8 ∨ f = 9 → H' n f = H n f) (h7 : H' p 7 ≠ 0) (hA : ∀ n t f, n < 1000 → t = 62 ∨ t = 64 ∨ t = 63 ∧ n ≠ p → A' n t f = A n t f) (hA3 : A' p 63 0 = pf p 1 ∧ A' p 63 1 = pf p 4 ∧ A' p 63 2 = pf p 3) : LI nP pf ctr sent H' A' up dn kp nt opn now swd := by
  obtain ⟨np, cd, ct, upk, kpk, dnk, pst, sntI, tkb, s4, s2, k0, k7, hld, ntp, j0, j1, j2⟩ := h
  have p1 : p < 1000 := by omega
  have e0 : ∀ n, n < 1000 → H' n 0 = H n 0 := fun n hn => hH n 0 hn (by simp) (by simp)
  have e7 : ∀ n, n < 1000 → n ≠ p → H' n 7 = H n 7 := fun n hn hne => hH n 7 hn (by simp) (Or.inl hne)
  have e8 : ∀ n, n < 1000 → H' n 8 = H n 8 := fun n hn => hH n 8 hn (by simp) (by simp)
  have e9 : ∀ n, n < 1000 → H' n 9 = H n 9 := fun n hn => hH n 9 hn (by simp) (by simp)
  have e12 : ∀ n, n < 1000 → n ≠ p → H' n 12 = H n 12 := fun n hn hne => hH n 12 hn (by simp) (Or.inl hne)
  have a62 : ∀ n f, n < 1000 → A' n 62 f = A n 62 f := fun n f hn => hA n 62 f hn (by simp)
  have a63 : ∀ n f, n < 1000 → n ≠ p → A' n 63 f = A n 63 f := fun n f hn hne => hA n 63 f hn (by simp [hne])
  have a64 : ∀ n f, n < 1000 → A' n 64 f = A n 64 f := fun n f hn => hA n 64 f hn (by simp)
  have na : ∀ n d, askU up n d → d ≠ now := fun n d ⟨g, g1, _⟩ => hn d g g1
  have mono : ∀ n, n < 1000 → H n 7 ≠ 0 → H' n 7 ≠ 0 := by
    intro n hn w
    by_cases e : n = p
    · subst e; exact h7
    · rw [e7 n hn e]; exact w
  refine ⟨np, cd, ct, upk, kpk, fun d g hg => ?_, ?_, ?_, ?_, ?_, ?_, ?_, ?_, ?_, ntp, j0, ?_, ?_⟩
  · obtain ⟨x1, n, x2, x3, x4, x5, x6, x7⟩ := dnk d g hg
    have hn : n < 1000 := by omega
    exact ⟨x1, n, x2, x3, by rw [e0 n hn]; exact x4, fun w1 w2 w3 => (x5 w1 w2 w3).imp (mono n hn) id, by rw [e8 n hn, e9 n hn]; exact x6, by rw [e8 n hn]; exact x7⟩
  · grind
  · grind
  · grind
  · grind
  · intro n hn x
    have hn1 : n < 1000 := by omega
    rw [e0 n hn1]
    exact ⟨(s2 n hn x).1, fun y => ((s2 n hn x).2 y).imp (mono n hn1) id⟩
  · grind
  · intro n hn x
    by_cases e : n = p
    · subst e; exact ⟨hp, hA3⟩
    · rw [e7 n hn e] at x
      rw [a63 n 0 hn e, a63 n 1 hn e, a63 n 2 hn e]
      exact k7 n hn x
  · intro n hn x
    by_cases e : n = p
    · subst e; exact Or.inr h7
    · rw [e12 n hn e] at x
      rw [e0 n hn]
      exact (hld n hn x).imp id (mono n hn)
  · intro n hn x
    have hn1 : n < 1000 := by omega
    obtain ⟨y1, y2, y3, y4⟩ := j1 n hn x
    have e : n ≠ p := fun e => y3 (e ▸ hnp)
    rw [e0 n hn1, e7 n hn1 e]
    exact ⟨y1, y2, y3, y4⟩
  · intro n d hn x
    have hn1 : n < 1000 := by omega
    obtain ⟨y1, y2, y3⟩ := j2 n d hn x
    have e : n ≠ p := fun e => na n d x (y2 (e ▸ hnp))
    rw [e0 n hn1, e7 n hn1 e]
    exact ⟨y1, y2, y3⟩
/-- the issuer is open again -/
theorem LI_open {nP : Nat} {pf : Nat → Nat → Int32} {ctr : Nat → Int32} {sent : Nat → Prop} {H : Nat → Nat → Int32} {A : Nat → Nat → Nat → Int32} {up dn : Int32 → (Nat → Int32) → Prop} {kp : (Nat → Int32) → Prop} {nt : Nat → Prop} {opn : Prop} {now : Int32} {swd : Nat → Prop} {nt' : Nat → Prop} {opn' : Prop} {swd' : Nat → Prop} (h : LI nP pf ctr sent H A up dn kp nt opn now swd) (hn : ∀ d g, up d g → d ≠ now) (h7 : ∀ p, p < nP → nt p → H p 7 ≠ 0) (hnt : ∀ p, p < 1000 → ¬ nt' p) : LI nP pf ctr sent H A up dn kp nt' opn' now swd' := by
  obtain ⟨np, cd, ct, upk, kpk, dnk, pst, sntI, tkb, s4, s2, k0, k7, hld, ntp, j0, j1, j2⟩ := h
  have na : ∀ n d, askU up n d → d ≠ now := fun n d ⟨g, g1, _⟩ => hn d g g1
  refine ⟨np, cd, ct, upk, kpk, fun d g hg => ?_, pst, sntI, tkb, s4, ?_, k0, k7, hld, fun p hp x => absurd x (hnt p hp), j0, fun n hn x => ?_, fun n d hn x => ?_⟩
  · obtain ⟨x1, n, x2, x3, x4, x5, x6, x7⟩ := dnk d g hg
    exact ⟨x1, n, x2, x3, x4, fun w1 w2 w3 => Or.inl ((x5 w1 w2 w3).elim id (h7 n x2)), x6, x7⟩
  · intro n hn x
    exact ⟨(s2 n hn x).1, fun y => Or.inl (((s2 n hn x).2 y).elim id (h7 n hn))⟩
  · obtain ⟨y1, y2, y3, y4⟩ := j1 n hn x
    exact ⟨y1, y2, hnt n (by omega), fun d w => absurd (y4 d w).1 (na n d w)⟩
  · obtain ⟨y1, y2, y3⟩ := j2 n d hn x
    exact ⟨y1, fun w => absurd w (hnt n (by omega)), fun w => absurd (y3 w).1 (na n d x)⟩
/-- at the start -/
theorem LI_0 {nP : Nat} {pf : Nat → Nat → Int32} {ctr : Nat → Int32} {sent : Nat → Prop} {H : Nat → Nat → Int32} {A : Nat → Nat → Nat → Int32} {up dn : Int32 → (Nat → Int32) → Prop} {kp : (Nat → Int32) → Prop} {nt : Nat → Prop} {opn : Prop} {now : Int32} {swd : Nat → Prop} (h1 : nP = 0) (h2 : ∀ n f, n < 1000 → f = 0 ∨ f = 7 ∨ f = 8 ∨ f = 9 ∨ f = 12 → H n f = 0) (h3 : ∀ d g, ¬ up d g) (h4 : ∀ d g, ¬ dn d g) (h5 : ∀ g, ¬ kp g) (h6 : ∀ p, p < 1000 → ¬ nt p) : LI nP pf ctr sent H A up dn kp nt opn now swd := by
  subst h1
  refine ⟨by omega, fun p p' x => absurd x (by omega), fun p x => absurd x (by omega), fun d g x => absurd x (h3 d g), fun g x => absurd x (h5 g), fun d g x => absurd x (h4 d g), fun n hn x => absurd (h2 n 8 hn (by simp)) x, fun p x => absurd x (by omega), fun n hn x => absurd (h2 n 9 hn (by simp)) x, fun p x => absurd x (by omega), fun p x => absurd x (by omega), fun n hn x => absurd (h2 n 0 hn (by simp)) x, fun n hn x => absurd (h2 n 7 hn (by simp)) x, fun n hn x => absurd (h2 n 12 hn (by simp)) x, fun p hp x => absurd x (h6 p hp), fun p d d' x => absurd x (by omega), fun p x => absurd x (by omega), fun p d x => absurd x (by omega)⟩
