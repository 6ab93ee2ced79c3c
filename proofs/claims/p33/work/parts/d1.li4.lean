/-! ===== who was granted what: terminals ===== -/
theorem kpR_mono {kp kp' : (Nat → Int32) → Prop} {s : Int32} {p : Nat} (hk : ∀ g, kp g → g 0 = s → g 1 = Int32.ofNat p → kp' g) (h : kpR kp s p) : kpR kp' s p := by
  obtain ⟨g, g1, g2, g3⟩ := h
  exact ⟨g, hk g g1 g2 g3, g2, g3⟩
/-- an ANSWER comes down -/
theorem LI_ans {nP : Nat} {pf : Nat → Nat → Int32} {ctr : Nat → Int32} {sent : Nat → Prop} {H : Nat → Nat → Int32} {A : Nat → Nat → Nat → Int32} {up dn : Int32 → (Nat → Int32) → Prop} {kp : (Nat → Int32) → Prop} {nt : Nat → Prop} {opn : Prop} {now : Int32} {swd : Nat → Prop} {pf' : Nat → Nat → Int32} {dn' : Int32 → (Nat → Int32) → Prop} {p : Nat} {q : Nat → Int32} {w by' : Int32} (h : LI nP pf ctr sent H A up dn kp nt opn now swd) (hp : p < nP) (hq : dn now q) (q0 : q 0 = 4) (q1 : q 1 = Int32.ofNat p) (hw : (w = 1 ∧ q 11 = 1) ∨ (w = 2 ∧ q 11 = 0)) (hb : (by' = 1 ∧ q 12 = 1) ∨ (by' = 2 ∧ q 12 = 0))
    (h14 : ∀ n, n < nP → pf' n 1 = pf n 1 ∧ pf' n 3 = pf n 3 ∧ pf' n 4 = pf n 4) (h0 : ∀ n, n ≠ p → pf' n 0 = pf n 0) (hps : ∀ n, n < nP → pf n 0 = 0 ∨ pf n 0 = 2 → pf' n 8 = pf n 8)
    (hne : pf p 0 ≠ 1 → pf' p 0 = pf p 0) (h1 : pf p 0 = 1 → pf' p 0 = 1 ∨ w = 2 ∧ pf' p 0 = 3 ∨ w ≠ 2 ∧ pf' p 0 = 2 ∧ pf' p 8 = by') (hd : ∀ d g, dn' d g → dn d g) : LI nP pf' ctr sent H A up dn' kp nt opn now swd := by
  obtain ⟨np, cd, ct, upk, kpk, dnk, pst, sntI, tkb, s4, s2, k0, k7, hld, ntp, j0, j1, j2⟩ := h
  have fin : ∀ n, n < nP → pf n 0 ≠ 1 → pf' n 0 = pf n 0 := by
    intro n hn x
    by_cases e : n = p
    · subst e; exact hne x
    · exact h0 n e
  have f04 : ∀ n, n < nP → pf n 0 = 0 ∨ pf n 0 = 4 → pf' n 0 = 0 ∨ pf' n 0 = 4 := by
    intro n hn x
    rw [fin n hn (by rcases x with x | x <;> rw [x] <;> decide)]
    exact x
  have f02 : ∀ n, n < nP → pf n 0 = 0 ∨ pf n 0 = 2 → (pf' n 0 = 0 ∨ pf' n 0 = 2) ∧ pf' n 8 = pf n 8 := by
    intro n hn x
    rw [fin n hn (by rcases x with x | x <;> rw [x] <;> decide)]
    exact ⟨x, hps n hn x⟩
  have okU' : ∀ g, okU nP pf sent g → okU nP pf' sent g := by
    intro g ⟨x1, n, x2, x3, x4, x5⟩
    exact ⟨x1, n, x2, x3, fun y => f04 n x2 (x4 y), fun y => ⟨(x5 y).1, by rw [(f02 n x2 (sntI n x2 (x5 y).1).1).2]; exact (x5 y).2⟩⟩
  have dd : ∀ n, n < nP → den pf' dn' n → den pf dn n := by
    intro n hn x
    rcases x with x | ⟨d, g, x1, x2⟩
    · by_cases e : n = p
      · subst e
        by_cases e1 : pf n 0 = 1
        · rcases h1 e1 with y | ⟨y1, y2⟩ | ⟨-, y2, -⟩
          · rw [y] at x; exact absurd x (by decide)
          · refine Or.inr ⟨now, q, hq, q0, q1, ?_⟩
            rcases hw with z | z
            · rw [z.1] at y1; exact absurd y1 (by decide)
            · exact z.2
          · rw [y2] at x; exact absurd x (by decide)
        · exact Or.inl ((hne e1).symm.trans x)
      · exact Or.inl ((h0 n e).symm.trans x)
    · exact Or.inr ⟨d, g, hd d g x1, x2⟩
  refine ⟨np, ?_, ?_, fun d g hg => okU' g (upk d g hg), fun g hg => ⟨okU' g (kpk g hg).1, (kpk g hg).2⟩, fun d g hg => dnk d g (hd d g hg), ?_, ?_, ?_, ?_, ?_, ?_, ?_, hld, ntp, j0, fun n hn x => j1 n hn (dd n hn x), j2⟩
  · intro n n' hn hn' hne'
    rw [(h14 n hn).1, (h14 n' hn').1, (h14 n hn).2.2, (h14 n' hn').2.2]
    exact cd n n' hn hn' hne'
  · intro n hn
    rw [(h14 n hn).1, (h14 n hn).2.2]
    exact ct n hn
  · intro n hn x
    obtain ⟨y1, y2, y3, y4⟩ := pst n hn x
    rw [(h14 n y1).1, (h14 n y1).2.2]
    exact ⟨y1, (f02 n y1 y2).1, y3, y4⟩
  · intro n hn x
    obtain ⟨y1, y2⟩ := sntI n hn x
    exact ⟨(f02 n hn y1).1, y2⟩
  · intro n hn x
    obtain ⟨y1, y2⟩ := tkb n hn x
    exact ⟨y1, f04 n y1 y2⟩
  · intro n hn x
    refine s4 n hn ?_
    by_cases e : n = p
    · subst e
      by_cases e1 : pf n 0 = 1
      · rcases h1 e1 with y | ⟨-, y⟩ | ⟨-, y, -⟩ <;> (rw [y] at x; exact absurd x (by decide))
      · exact (hne e1).symm.trans x
    · exact (h0 n e).symm.trans x
  · intro n hn x
    by_cases e1 : n = p ∧ pf n 0 = 1
    · obtain ⟨e, e1⟩ := e1
      subst e
      rcases h1 e1 with y | ⟨-, y⟩ | ⟨y0, -, y⟩
      · rw [y] at x; exact absurd x (by decide)
      · rw [y] at x; exact absurd x (by decide)
      · have hw1 : q 11 = 1 := by
          rcases hw with z | z
          · exact z.2
          · exact absurd z.1 y0
        obtain ⟨-, n', x2, x3, x4, x5, -⟩ := dnk now q hq
        have := inj2 (q1.symm.trans x3) (by omega) (by omega)
        subst this
        rw [y]
        rcases hb with ⟨b1, b2⟩ | ⟨b1, b2⟩
        · exact ⟨fun _ => x4 q0 hw1 b2, fun z => absurd (b1.symm.trans z) (by decide)⟩
        · exact ⟨fun z => absurd (b1.symm.trans z) (by decide), fun _ => x5 q0 hw1 (by rw [b2]; decide)⟩
    · have y : pf' n 0 = pf n 0 := by
        by_cases e : n = p
        · subst e; exact hne (fun z => e1 ⟨rfl, z⟩)
        · exact h0 n e
      rw [y] at x
      rw [hps n hn (Or.inr x)]
      exact s2 n hn x
  · intro n hn x
    obtain ⟨y1, y2⟩ := k0 n hn x
    rw [(h14 n y1).1, (h14 n y1).2.1, (h14 n y1).2.2]
    exact ⟨y1, y2⟩
  · intro n hn x
    obtain ⟨y1, y2⟩ := k7 n hn x
    rw [(h14 n y1).1, (h14 n y1).2.1, (h14 n y1).2.2]
    exact ⟨y1, y2⟩
/-- a DONE comes down -/
theorem LI_dne {nP : Nat} {pf : Nat → Nat → Int32} {ctr : Nat → Int32} {sent : Nat → Prop} {H : Nat → Nat → Int32} {A : Nat → Nat → Nat → Int32} {up dn : Int32 → (Nat → Int32) → Prop} {kp : (Nat → Int32) → Prop} {nt : Nat → Prop} {opn : Prop} {now : Int32} {swd : Nat → Prop} {dn' : Int32 → (Nat → Int32) → Prop} {kp' : (Nat → Int32) → Prop} {q : Nat → Int32} (h : LI nP pf ctr sent H A up dn kp nt opn now swd) (hq : dn now q) (q0 : q 0 = 5) (hd : ∀ d g, dn' d g → dn d g) (hk : ∀ g, kp' g → kp g) (hk2 : ∀ g, kp g → kp' g ∨ g 1 = q 1 ∧ (g 0 = 1 ∧ q 8 = 1 ∨ g 0 = 2 ∧ q 8 = 2 ∨ g 0 = 3 ∧ q 8 = 3)) : LI nP pf ctr sent H A up dn' kp' nt opn now swd := by
  obtain ⟨np, cd, ct, upk, kpk, dnk, pst, sntI, tkb, s4, s2, k0, k7, hld, ntp, j0, j1, j2⟩ := h
  obtain ⟨-, p, p2, p3, -, -, p6, p7⟩ := dnk now q hq
  refine ⟨np, cd, ct, upk, fun g hg => kpk g (hk g hg), fun d g hg => dnk d g (hd d g hg), pst, ?_, tkb, ?_, s2, k0, k7, hld, ntp, j0, fun n hn x => j1 n hn (x.imp id (fun ⟨d, g, y1, y2⟩ => ⟨d, g, hd d g y1, y2⟩)), j2⟩
  · intro n hn x
    obtain ⟨y1, y2⟩ := sntI n hn x
    refine ⟨y1, ?_⟩
    rcases y2 with y2 | ⟨g, g1, g2, g3⟩
    · exact Or.inl y2
    · rcases hk2 g g1 with z | ⟨z1, z⟩
      · exact Or.inr ⟨g, z, g2, g3⟩
      · have := inj2 (g3.symm.trans (z1.trans p3)) (by omega) (by omega)
        subst this
        rcases z with z | z | z
        · rw [z.1] at g2; exact absurd g2 (by decide)
        · exact Or.inl (p7 q0 z.2)
        · rw [z.1] at g2; exact absurd g2 (by decide)
  · intro n hn x
    rcases s4 n hn x with y2 | ⟨g, g1, g2, g3⟩
    · exact Or.inl y2
    · rcases hk2 g g1 with z | ⟨z1, z⟩
      · exact Or.inr ⟨g, z, g2, g3⟩
      · have := inj2 (g3.symm.trans (z1.trans p3)) (by omega) (by omega)
        subst this
        rcases z with z | z | z
        · rcases p6 q0 z.2 with w | w
          · exact Or.inl w
          · have := (pst n (by omega) w).2.1
            rw [x] at this
            exact absurd this (by decide)
        · rw [z.1] at g2; exact absurd g2 (by decide)
        · rw [z.1] at g2; exact absurd g2 (by decide)
/-- p is given up -/
theorem LI_give {nP : Nat} {pf : Nat → Nat → Int32} {ctr : Nat → Int32} {sent : Nat → Prop} {H : Nat → Nat → Int32} {A : Nat → Nat → Nat → Int32} {up dn : Int32 → (Nat → Int32) → Prop} {kp : (Nat → Int32) → Prop} {nt : Nat → Prop} {opn : Prop} {now : Int32} {swd : Nat → Prop} {pf' : Nat → Nat → Int32} {up' : Int32 → (Nat → Int32) → Prop} {kp' : (Nat → Int32) → Prop} {p : Nat} {r : Nat → Int32} (h : LI nP pf ctr sent H A up dn kp nt opn now swd) (hp : p < nP) (hs : pf p 0 = 1) (hs' : pf' p 0 = 0 ∨ pf' p 0 = 4) (h0 : ∀ n, n ≠ p → pf' n 0 = pf n 0) (h14 : ∀ n, n < nP → pf' n 1 = pf n 1 ∧ pf' n 3 = pf n 3 ∧ pf' n 4 = pf n 4) (hps : ∀ n, n < nP → pf n 0 = 0 ∨ pf n 0 = 2 → pf' n 8 = pf n 8)
    (hr : r 0 = 1 ∧ r 1 = Int32.ofNat p ∧ r 13 = 0) (hk : ∀ g, kp' g ↔ kp g ∨ g = r) (hu : ∀ d g, up' d g → up d g ∨ g = r) : LI nP pf' ctr sent H A up' dn kp' nt opn now swd := by
  obtain ⟨np, cd, ct, upk, kpk, dnk, pst, sntI, tkb, s4, s2, k0, k7, hld, ntp, j0, j1, j2⟩ := h
  have np1 : ∀ n, n < nP → pf n 0 ≠ 1 → n ≠ p := fun n _ x e => x (by rw [e]; exact hs)
  have f04 : ∀ n, n < nP → pf n 0 = 0 ∨ pf n 0 = 4 → pf' n 0 = 0 ∨ pf' n 0 = 4 := by
    intro n hn x
    rw [h0 n (np1 n hn (by rcases x with x | x <;> rw [x] <;> decide))]
    exact x
  have f02 : ∀ n, n < nP → pf n 0 = 0 ∨ pf n 0 = 2 → (pf' n 0 = 0 ∨ pf' n 0 = 2) ∧ pf' n 8 = pf n 8 := by
    intro n hn x
    rw [h0 n (np1 n hn (by rcases x with x | x <;> rw [x] <;> decide))]
    exact ⟨x, hps n hn x⟩
  have okU' : ∀ g, okU nP pf sent g → okU nP pf' sent g := by
    intro g ⟨x1, n, x2, x3, x4, x5⟩
    exact ⟨x1, n, x2, x3, fun y => f04 n x2 (x4 y), fun y => ⟨(x5 y).1, by rw [(f02 n x2 (sntI n x2 (x5 y).1).1).2]; exact (x5 y).2⟩⟩
  have okr : okU nP pf' sent r := ⟨hr.2.2, p, hp, hr.2.1, fun _ => hs', fun y => by rw [hr.1] at y; exact absurd y (by decide)⟩
  have au : ∀ n d, askU up' n d → askU up n d := by
    intro n d ⟨g, g1, g2, g3⟩
    rcases hu d g g1 with x | x
    · exact ⟨g, x, g2, g3⟩
    · subst x
      rw [hr.1] at g2
      exact absurd g2 (by decide)
  have dd : ∀ n, den pf' dn n → den pf dn n := by
    intro n x
    rcases x with x | x
    · refine Or.inl ?_
      by_cases e : n = p
      · subst e
        rcases hs' with y | y <;> (rw [y] at x; exact absurd x (by decide))
      · exact (h0 n e).symm.trans x
    · exact Or.inr x
  have kk : ∀ s n, kpR kp s n → kpR kp' s n := fun s n => kpR_mono (fun g g1 _ _ => (hk g).mpr (Or.inl g1))
  refine ⟨np, ?_, ?_, fun d g hg => ?_, fun g hg => ?_, dnk, ?_, ?_, ?_, ?_, ?_, ?_, ?_, hld, ntp, fun n d d' hn x y => j0 n d d' hn (au n d x) (au n d' y), fun n hn x => ?_, fun n d hn x => j2 n d hn (au n d x)⟩
  · intro n n' hn hn' hne'
    rw [(h14 n hn).1, (h14 n' hn').1, (h14 n hn).2.2, (h14 n' hn').2.2]
    exact cd n n' hn hn' hne'
  · intro n hn
    rw [(h14 n hn).1, (h14 n hn).2.2]
    exact ct n hn
  · rcases hu d g hg with x | x
    · exact okU' g (upk d g x)
    · subst x; exact okr
  · rcases (hk g).mp hg with x | x
    · exact ⟨okU' g (kpk g x).1, (kpk g x).2⟩
    · subst x; exact ⟨okr, by rw [hr.1]; decide⟩
  · intro n hn x
    obtain ⟨y1, y2, y3, y4⟩ := pst n hn x
    rw [(h14 n y1).1, (h14 n y1).2.2]
    exact ⟨y1, (f02 n y1 y2).1, y3, y4⟩
  · intro n hn x
    obtain ⟨y1, y2⟩ := sntI n hn x
    exact ⟨(f02 n hn y1).1, y2.imp id (kk 2 n)⟩
  · intro n hn x
    obtain ⟨y1, y2⟩ := tkb n hn x
    exact ⟨y1, f04 n y1 y2⟩
  · intro n hn x
    by_cases e : n = p
    · subst e
      exact Or.inr ⟨r, (hk r).mpr (Or.inr rfl), hr.1, hr.2.1⟩
    · rw [h0 n e] at x
      exact (s4 n hn x).imp id (kk 1 n)
  · intro n hn x
    have e : n ≠ p := by
      intro e
      subst e
      rcases hs' with y | y <;> (rw [y] at x; exact absurd x (by decide))
    rw [h0 n e] at x
    rw [hps n hn (Or.inr x)]
    exact s2 n hn x
  · intro n hn x
    obtain ⟨y1, y2⟩ := k0 n hn x
    rw [(h14 n y1).1, (h14 n y1).2.1, (h14 n y1).2.2]
    exact ⟨y1, y2⟩
  · intro n hn x
    obtain ⟨y1, y2⟩ := k7 n hn x
    rw [(h14 n y1).1, (h14 n y1).2.1, (h14 n y1).2.2]
    exact ⟨y1, y2⟩
  · obtain ⟨y1, y2, y3, y4⟩ := j1 n hn (dd n x)
    exact ⟨y1, y2, y3, fun d w => y4 d (au n d w)⟩
/-- a kept message is put again -/
theorem LI_rep {nP : Nat} {pf : Nat → Nat → Int32} {ctr : Nat → Int32} {sent : Nat → Prop} {H : Nat → Nat → Int32} {A : Nat → Nat → Nat → Int32} {up dn : Int32 → (Nat → Int32) → Prop} {kp : (Nat → Int32) → Prop} {nt : Nat → Prop} {opn : Prop} {now : Int32} {swd : Nat → Prop} {up' : Int32 → (Nat → Int32) → Prop} (h : LI nP pf ctr sent H A up dn kp nt opn now swd) (hu : ∀ d g, up' d g → up d g ∨ kp g) : LI nP pf ctr sent H A up' dn kp nt opn now swd := by
  obtain ⟨np, cd, ct, upk, kpk, dnk, pst, sntI, tkb, s4, s2, k0, k7, hld, ntp, j0, j1, j2⟩ := h
  have au : ∀ n d, askU up' n d → askU up n d := by
    intro n d ⟨g, g1, g2, g3⟩
    rcases hu d g g1 with x | x
    · exact ⟨g, x, g2, g3⟩
    · exact absurd g2 (kpk g x).2
  refine ⟨np, cd, ct, fun d g hg => (hu d g hg).elim (upk d g) (fun x => (kpk g x).1), kpk, dnk, pst, sntI, tkb, s4, s2, k0, k7, hld, ntp, fun n d d' hn x y => j0 n d d' hn (au n d x) (au n d' y), fun n hn x => ?_, fun n d hn x => j2 n d hn (au n d x)⟩
  obtain ⟨y1, y2, y3, y4⟩ := j1 n hn x
  exact ⟨y1, y2, y3, fun d w => y4 d (au n d w)⟩
/-- the clock; whether the issuer is open: nothing is due -/
theorem LI_clk {nP : Nat} {pf : Nat → Nat → Int32} {ctr : Nat → Int32} {sent : Nat → Prop} {H : Nat → Nat → Int32} {A : Nat → Nat → Nat → Int32} {up dn : Int32 → (Nat → Int32) → Prop} {kp : (Nat → Int32) → Prop} {nt : Nat → Prop} {opn : Prop} {now : Int32} {swd : Nat → Prop} {opn' : Prop} {now' : Int32} {swd' : Nat → Prop} (h : LI nP pf ctr sent H A up dn kp nt opn now swd) (hn : ∀ d g, up d g → d ≠ now) (ho : (∃ p, p < 1000 ∧ nt p) → ¬ opn') : LI nP pf ctr sent H A up dn kp nt opn' now' swd' := by
  obtain ⟨np, cd, ct, upk, kpk, dnk, pst, sntI, tkb, s4, s2, k0, k7, hld, ntp, j0, j1, j2⟩ := h
  have na : ∀ n d, askU up n d → d ≠ now := fun n d ⟨g, g1, _⟩ => hn d g g1
  refine ⟨np, cd, ct, upk, kpk, dnk, pst, sntI, tkb, s4, s2, k0, k7, hld, fun p hp x => ⟨(ntp p hp x).1, ho ⟨p, hp, x⟩⟩, j0, fun n hn x => ?_, fun n d hn x => ?_⟩
  · obtain ⟨y1, y2, y3, y4⟩ := j1 n hn x
    exact ⟨y1, y2, y3, fun d w => absurd (y4 d w).1 (na n d w)⟩
  · obtain ⟨y1, y2, y3⟩ := j2 n d hn x
    exact ⟨y1, fun w => absurd (y2 w) (na n d x), fun w => absurd (y3 w).1 (na n d x)⟩
