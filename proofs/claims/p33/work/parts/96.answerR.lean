/-! ===== an ANSWER comes to its payment: alike ===== -/
/-- what such a step is, payment p apart -/
def PqP (a a' b b' : TS) (p : Nat) : Prop := R0 a' b' ∧ chF [] FpA a a' ∧ chF [86, 87] [] b b' ∧ PS a a' b b' ∧ W87 b b' ∧ (∀ p', p' ≠ p → tI b' 87 0 (10 * p') = tI b 87 0 (10 * p')) ∧ Wr a a' ∧ Wr b b'
theorem PqP_t {a a1 a2 b b1 b2 : TS} {p : Nat} (h1 : PqP a a1 b b1 p) (h2 : PqS a1 a2 b1 b2) : PqP a a2 b b2 p := by
  obtain ⟨-, x2, x3, x4, x5, x6, x7, x8⟩ := h1
  obtain ⟨y1, y2, y3, y4, y5, y6, y7, y8⟩ := h2
  exact ⟨y1, chF_t x2 y2, chF_t x3 y3, PS_t x4 y4, W87_t x5 y5, fun p h => (y6 p).trans (x6 p h), x7.t y7, x8.t y8⟩
theorem r_P' {a b : TS} (h : R0 a b) : RP a b := h.2.2.2.2.2.2.2.2.2.2.1
/-- the payments' rows at one payment -/
theorem RQ_at {a a' b b' : TS} {p : Nat} (h : RQ a b) (ha : chF [] FpA a a') (hb : chF [86, 87] [] b b') (e87 : W87 b b')
    (oA : ∀ p', p' ≠ p → ∀ f, tI a' 38 p' f = tI a 38 p' f) (oB : ∀ p', p' ≠ p → tI b' 87 0 (10 * p') = tI b 87 0 (10 * p') ∧ tI b' 87 0 (10 * p' + 5) = tI b 87 0 (10 * p' + 5) ∧ tI b' 87 0 (10 * p' + 7) = tI b 87 0 (10 * p' + 7) ∧ tI b' 87 0 (10 * p' + 8) = tI b 87 0 (10 * p' + 8))
    (own : p < tZ a 29 0 → tI a' 38 p 5 = tI b' 87 0 (10 * p + 5) ∧ tI a' 38 p 7 = tI b' 87 0 (10 * p) ∧ tI a' 38 p 8 = tI b' 87 0 (10 * p + 7) ∧ tI a' 38 p 9 = tI b' 87 0 (10 * p + 8) ∧ ∃ n, n < 5 ∧ tI b' 87 0 (10 * p) = Int32.ofNat n ∧ (n = 2 → tI b' 87 0 (10 * p + 8) = 1 ∨ tI b' 87 0 (10 * p + 8) = 2) ∧ (n ≠ 2 → tI b' 87 0 (10 * p + 8) = 0) ∧ tI b' 87 0 (10 * p + 5) = pst b p (if n = 0 then 1 else 2)) : RQ a' b' := by
  have hd : dpk [] FpA [29] [(38, 10)] = true := by decide
  have hd' : dpk [86, 87] [] [70] [] = true := by decide
  obtain ⟨q1, q2⟩ := h
  refine ⟨fun p' hp' => ?_, fun p' hp' => ?_⟩
  · rw [dZ ha hd (s := 29) (by decide)] at hp'
    obtain ⟨e1, e2, e3, e4, e5, e6, n, n1, n2, n3, n4, n5⟩ := q1 p' hp'
    rw [dI ha hd (s := 38) (k := 10) (by decide), dIS hb hd' (s := 70) (by decide)]
    by_cases e : p' = p
    · subst e
      obtain ⟨o1, o2, o3, o4, m, m1, m2, m3, m4, m5⟩ := own hp'
      exact ⟨o1, o2, o3, o4, e5, e6, m, m1, m2, m3, m4, by rw [W87_pst e87]; exact m5⟩
    · obtain ⟨b0, b5, b7, b8⟩ := oB p' e
      rw [oA p' e, oA p' e, oA p' e, oA p' e, b0, b5, b7, b8]
      exact ⟨e1, e2, e3, e4, e5, e6, n, n1, n2, n3, n4, by rw [W87_pst e87]; exact n5⟩
  · rw [dZ ha hd (s := 29) (by decide)] at hp'
    rw [dIS hb hd' (s := 70) (by decide)]
    exact q2 p' hp'
theorem i32_1 {n : Nat} (h : n < 5) (e : Int32.ofNat n = 1) : n = 1 := o_inj (by omega) (by omega) e
set_option maxHeartbeats 2000000 in
theorem st_R0 {a b : TS} {p : Nat} {w by' rs : Int32} (hR : R0 a b) (hp : p < tZ a 29 0) (hs : tI b 87 0 (10 * p) = 1) (hb : by' = 1 ∨ by' = 2) : PqP a (stA a p w by' rs) b (stB b p w by' rs) p ∧ tI (stB b p w by' rs) 87 0 (10 * p) ≠ 1 := by
  have ha : chF [] FpA a (stA a p w by' rs) := by
    unfold stA
    split <;> exact chF_I (by decide) (chF_I (by decide) (chF_r _ _ _))
  have hbb : chF [86, 87] [] b (stB b p w by' rs) := by
    unfold stB
    split <;> exact chF_I (by simp) (chF_I (by simp) (chF_r _ _ _))
  have wa : Wr a (stA a p w by' rs) := by
    unfold stA
    split <;> exact ((Wr.rf _).cI _ _ _ _).cI _ _ _ _
  have wb : Wr b (stB b p w by' rs) := by
    unfold stB
    split <;> exact ((Wr.rf _).cI _ _ _ _).cI _ _ _ _
  have vB : ∀ k, tI (stB b p w by' rs) 87 0 k = if k = 10 * p then (if w = 2 then 3 else 2) else if k = 10 * p + 7 then (if w = 2 then rs else tI b 87 0 k) else if k = 10 * p + 8 then (if w = 2 then tI b 87 0 k else by') else tI b 87 0 k := fun k => by
    unfold stB
    by_cases e : w = 2
    · simp only [if_pos e, tI_sI, true_and]
      by_cases e1 : k = 10 * p
      · rw [if_pos e1, if_neg (by omega), if_pos (by omega)]
      · by_cases e2 : k = 10 * p + 7
        · rw [if_pos e2, if_neg e1, if_pos e2]
        · rw [if_neg e2, if_neg (by omega), if_neg e1, if_neg e2]
          split <;> rfl
    · simp only [if_neg e, tI_sI, true_and]
      by_cases e1 : k = 10 * p
      · rw [if_pos e1, if_neg (by omega), if_pos (by omega)]
      · by_cases e2 : k = 10 * p + 8
        · rw [if_pos e2, if_neg e1, if_neg (by omega), if_pos e2]
        · rw [if_neg e2, if_neg (by omega), if_neg e1, if_neg e2]
          split <;> rfl
  have vA : ∀ f, tI (stA a p w by' rs) 38 p f = if f = 7 then (if w = 2 then 3 else 2) else if f = 8 then (if w = 2 then rs else tI a 38 p f) else if f = 9 then (if w = 2 then tI a 38 p f else by') else tI a 38 p f := fun f => by
    unfold stA
    by_cases e : w = 2
    · simp only [if_pos e, tI_sI, true_and]
      by_cases e1 : f = 7
      · rw [if_pos e1, if_neg (by omega), if_pos (by omega)]
      · by_cases e2 : f = 8
        · rw [if_pos e2, if_neg e1, if_pos e2]
        · rw [if_neg e2, if_neg (by omega), if_neg e1, if_neg e2]
          split <;> rfl
    · simp only [if_neg e, tI_sI, true_and]
      by_cases e1 : f = 7
      · rw [if_pos e1, if_neg (by omega), if_pos (by omega)]
      · by_cases e2 : f = 9
        · rw [if_pos e2, if_neg e1, if_neg (by omega), if_pos e2]
        · rw [if_neg e2, if_neg (by omega), if_neg e1, if_neg e2]
          split <;> rfl
  have oA : ∀ p', p' ≠ p → ∀ f, tI (stA a p w by' rs) 38 p' f = tI a 38 p' f := fun p' h f => stA_I a p w by' rs (fun q => h q.2)
  have v86 : ∀ k, tI (stB b p w by' rs) 86 0 k = tI b 86 0 k := fun k => by
    unfold stB
    split <;> rw [tI_sI, if_neg (fun q => absurd q.1 (by decide)), tI_sI, if_neg (fun q => absurd q.1 (by decide))]
  have v37 : ∀ i k, tI (stA a p w by' rs) 37 i k = tI a 37 i k := fun i k => stA_I a p w by' rs (fun q => absurd q.1 (by decide))
  have zA : ∀ s i, tZ (stA a p w by' rs) s i = tZ a s i := fun s i => by unfold stA; split <;> rfl
  generalize stA a p w by' rs = a' at *
  generalize stB b p w by' rs = b' at *
  have e87 : W87 b b' := by
    refine ⟨fun p' => ?_, fun p' => ?_, fun p' => ?_, fun p' => ?_, fun p' => ?_, fun p' => ?_⟩ <;> rw [vB, if_neg (by omega), if_neg (by omega), if_neg (by omega)]
  have oB : ∀ p', p' ≠ p → tI b' 87 0 (10 * p') = tI b 87 0 (10 * p') ∧ tI b' 87 0 (10 * p' + 5) = tI b 87 0 (10 * p' + 5) ∧ tI b' 87 0 (10 * p' + 7) = tI b 87 0 (10 * p' + 7) ∧ tI b' 87 0 (10 * p' + 8) = tI b 87 0 (10 * p' + 8) := fun p' h => by
    refine ⟨?_, ?_, ?_, ?_⟩ <;> rw [vB, if_neg (by omega), if_neg (by omega), if_neg (by omega)]
  have b5 : tI b' 87 0 (10 * p + 5) = tI b 87 0 (10 * p + 5) := by rw [vB, if_neg (by omega), if_neg (by omega), if_neg (by omega)]
  have b0 : tI b' 87 0 (10 * p) = if w = 2 then 3 else 2 := by rw [vB, if_pos rfl]
  have b7 : tI b' 87 0 (10 * p + 7) = if w = 2 then rs else tI b 87 0 (10 * p + 7) := by rw [vB, if_neg (by omega), if_pos rfl]
  have b8 : tI b' 87 0 (10 * p + 8) = if w = 2 then tI b 87 0 (10 * p + 8) else by' := by rw [vB, if_neg (by omega), if_neg (by omega), if_pos rfl]
  have hQ' : RQ a' b' := RQ_at (r_Q hR) ha hbb e87 oA oB (fun _ => by
    obtain ⟨e1, e2, e3, e4, e5, e6, n, n1, n2, n3, n4, n5⟩ := (r_Q hR).1 p hp
    have hn : n = 1 := i32_1 n1 (n2.symm.trans hs)
    subst hn
    rw [b0, b5, b7, b8, vA 5, vA 7, vA 8, vA 9]
    simp (config := {decide := true}) only [if_true, if_false]
    by_cases e : w = 2
    · simp only [if_pos e]
      exact ⟨e1, trivial, trivial, e4, 3, by decide, rfl, fun q => absurd q (by decide), fun _ => n4 (by decide), n5⟩
    · simp only [if_neg e]
      exact ⟨e1, trivial, e3, trivial, 2, by decide, rfl, fun _ => hb, fun q => absurd rfl q, n5⟩)
  have hD' : RD a' b' := by
    have hd : dpk [] FpA [28, 29] [] = true := by decide
    have := r_D hR
    unfold RD at *
    simp only [v37, v86, zA]
    exact this
  have hsp : ∀ p', p' < tZ a 29 0 → (tI b 87 0 (10 * p') = 0 ∨ tI b 87 0 (10 * p') = 2) → p' ≠ p := fun p' _ h e => by
    rw [e, hs] at h
    rcases h with h | h <;> exact absurd h (by decide)
  refine ⟨⟨pq_R0 hR ha hbb e87 ⟨fun k => v86 _, fun k => v86 _, fun k => v86 _⟩ (fun k hk => ?_) hD' hQ' (fun p' h1 h2 => ⟨(oB p' (hsp p' h1 h2)).1, (oB p' (hsp p' h1 h2)).2.1⟩) wa wb, ha, hbb, pq_PS ha e87 (fun p' h1 h2 => ⟨(oB p' (hsp p' h1 h2)).1, (oB p' (hsp p' h1 h2)).2.1, (oB p' (hsp p' h1 h2)).2.2.2⟩), e87, fun p' h => (oB p' h).1, wa, wb⟩, ?_⟩
  · rw [vB, if_neg (by omega), if_neg (by omega), if_neg (by omega)]
    exact (r_P' hR).2.2.2.2.2.2 k hk
  · rw [b0]
    split <;> decide
theorem tI_10 (b : TS) (p : Nat) : 10 * p + 0 = 10 * p := rfl
/-- an ANSWER is heard alike by its payment -/
theorem hp_R0 {a b : TS} {p cd : Nat} {w by' rs told : Int32} {R : Prop} [Decidable R] (hR : R0 a b) (hp : p < tZ a 29 0) (hcd : cd < tZ a 28 0) (hs : tI b 87 0 (10 * p) = 1) (hb : by' = 1 ∨ by' = 2) :
    PqP a (hpA a p cd w by' rs told R) b (hpB b p cd w by' rs told R) p := by
  obtain ⟨h1, h2⟩ := st_R0 (w := w) (rs := rs) hR hp hs hb
  have z28 : tZ (stA a p w by' rs) 28 0 = tZ a 28 0 := by unfold stA; split <;> rfl
  unfold hpA hpB
  by_cases e : R
  · rw [if_pos e, if_pos e]
    have hA : PqS (stA a p w by' rs) (anA (stA a p w by' rs) cd w) (stB b p w by' rs) (anB (stB b p w by' rs) cd w) := by
      unfold anA anB
      split
      · exact PqS_r h1.1
      · exact anew_R0 h1.1 (by rw [z28]; exact hcd)
    have z28' : tZ (anA (stA a p w by' rs) cd w) 28 0 = tZ a 28 0 := by
      unfold anA
      split <;> exact z28
    exact PqP_t h1 (PqS_t hA (tol_R0 told hA.1 (by rw [z28']; exact hcd)))
  · rw [if_neg e, if_neg e]
    by_cases e2 : w = 2 ∨ by' = 2
    · rw [if_pos e2, if_pos e2]
      exact h1
    · rw [if_neg e2, if_neg e2]
      exact ⟨hR, chF_r _ _ _, chF_r _ _ _, PS_r a b, W87_r b, fun _ _ => rfl, Wr.rf _, Wr.rf _⟩
theorem hpB_N (b : TS) (p cd : Nat) (w by' rs told : Int32) (R : Prop) [Decidable R] (s : Nat) : tN (hpB b p cd w by' rs told R) s = tN b s := by
  have h1 : ∀ X, tN (stB X p w by' rs) s = tN X s := fun X => by unfold stB; split <;> rfl
  have h2 : ∀ X, tN (anB X cd w) s = tN X s := fun X => by unfold anB; split <;> rfl
  have h3 : ∀ X, tN (tolB X cd told) s = tN X s := fun X => by
    unfold tolB
    dsimp only
    split <;> split <;> split <;> rfl
  unfold hpB
  split
  · rw [h3, h2, h1]
  · split
    · exact h1 b
    · rfl
