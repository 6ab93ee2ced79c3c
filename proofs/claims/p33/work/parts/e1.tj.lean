/-! ===== when what is kept was put: a shop ===== -/
def oUw (b : TS) (s : Nat) (d : Int32) (g : Nat → Int32) : Prop := (d, g) ∈ vQ b (2 * s)
def oDw (b : TS) (s : Nat) (d : Int32) (g : Nat → Int32) : Prop := (d, g) ∈ vQ b (2 * s + 1)
def oKw (a b : TS) (s : Nat) (k : Nat → Int32) (l : Int32) : Prop := ∃ x, x ∈ kL a b s ∧ qv b x.2.1 = k ∧ x.2.2 = l
def lostN (b : TS) (s : Nat) : Nat := (tI b 48 (2 * s) 0).toNatClampNeg + (tI b 48 (2 * s + 1) 0).toNatClampNeg
def TJs (a b : TS) (s X T d : Nat) : Prop := lostN b s ≤ 37 ∧ TI1 d X (lostN b s) (oUw b s) (oDw b s) (oKw a b s) ∧ (∀ t g, oUw b s t g → ∃ n, t = Int32.ofNat n ∧ T ≤ n ∧ n ≤ X + 399) ∧ (∀ t g, oDw b s t g → ∃ n, t = Int32.ofNat n ∧ T ≤ n ∧ n ≤ X + 408) ∧
  ∀ k l, oKw a b s k l → (∃ n, l = Int32.ofNat n ∧ n ≤ T ∧ (T ≤ n + 10 ∨ T ≤ X + 10)) ∧ k 0 ≠ 0 ∧ k 13 = 0
def TJ (a b : TS) (X T d : Nat) : Prop := KpQ a b ∧ tI b 95 0 5 ≠ 0 ∧ (X ≤ 3000 ∧ T ≤ 3000 ∧ tI b 95 0 1 = Int32.ofNat T ∧ tI b 95 0 2 = Int32.ofNat d ∧ 1 ≤ d ∧ d ≤ 5) ∧ (∀ p, p < tZ a 29 0 → tI b 87 0 (10 * p) = 1 → T ≤ X + 10) ∧ ∀ s, s < tZ a 27 0 → TJs a b s X T d
theorem i32_pred {x : Int32} (h : 0 < x) : (x - 1).toNatClampNeg + 1 = x.toNatClampNeg := by
  rw [Int32.lt_iff_toInt_lt] at h
  have h : (0 : Int) < x.toInt := h
  have hb := Int32.toInt_lt x
  have e : (x - 1).toInt = x.toInt - 1 := by
    rw [Int32.toInt_sub]
    exact Int.bmod_eq_of_le (by have : (1 : Int32).toInt = 1 := rfl; omega) (by have : (1 : Int32).toInt = 1 := rfl; omega)
  rw [x_ix, x_ix, e]
  omega
theorem due_n {t d : Nat} : Int32.ofNat t + Int32.ofNat d = Int32.ofNat (t + d) ∧ Int32.ofNat t + Int32.ofNat d + 4 = Int32.ofNat (t + d + 4) := by
  have e1 : Int32.ofNat t + Int32.ofNat d = Int32.ofNat (t + d) := (Int32.ofNat_add t d).symm
  refine ⟨e1, ?_⟩
  rw [e1]
  exact (Int32.ofNat_add (t + d) 4).symm
/-- what a put leaves: lost, or laid -/
theorem laid_n {f : Nat → Int32} {T d : Nat} {g : Nat → Int32} : ((fR f 0).toNatClampNeg + 1 ≤ (f 0).toNatClampNeg ∨ ((fR f 0).toNatClampNeg ≤ (f 0).toNatClampNeg ∧ ∃ t', (t' = T + d ∨ t' = T + d + 4) ∧ (Int32.ofNat t', g) ∈ laid (fK f) (Int32.ofNat T + Int32.ofNat d) g)) ∧ ∀ e ∈ laid (fK f) (Int32.ofNat T + Int32.ofNat d) g, e.2 = g ∧ ∃ t', (t' = T + d ∨ t' = T + d + 4) ∧ e.1 = Int32.ofNat t' := by
  have hall : ∀ e ∈ laid (fK f) (Int32.ofNat T + Int32.ofNat d) g, e.2 = g ∧ ∃ t', (t' = T + d ∨ t' = T + d + 4) ∧ e.1 = Int32.ofNat t' := by
    intro e he
    obtain ⟨h1, h2⟩ := laid_mem he
    refine ⟨h1, ?_⟩
    rcases h2 with h2 | h2
    · exact ⟨T + d, Or.inl rfl, h2.trans due_n.1⟩
    · exact ⟨T + d + 4, Or.inr rfl, h2.trans due_n.2⟩
  refine ⟨?_, hall⟩
  rcases laid_lost f (Int32.ofNat T + Int32.ofNat d) g with ⟨h1, -, h3⟩ | ⟨-, ⟨e, h2⟩, h3⟩
  · left
    rw [h3]
    have := i32_pred h1
    omega
  · right
    rw [h3]
    refine ⟨Nat.le_refl _, ?_⟩
    obtain ⟨h4, t', h5, h6⟩ := hall e h2
    have e6 : e = (Int32.ofNat t', g) := Prod.ext h6 h4
    exact ⟨t', h5, by rw [← e6]; exact h2⟩
theorem TJs_o {a a' b b' : TS} {s X T d : Nat} (h : TJs a b s X T d) (h1 : vQ b' (2 * s) = vQ b (2 * s)) (h2 : vQ b' (2 * s + 1) = vQ b (2 * s + 1)) (h3 : tI b' 48 (2 * s) = tI b 48 (2 * s)) (h4 : tI b' 48 (2 * s + 1) = tI b 48 (2 * s + 1)) (hK : ∀ k l, oKw a' b' s k l → oKw a b s k l) : TJs a' b' s X T d := by
  obtain ⟨j1, j2, j3, j4, j5⟩ := h
  have e : lostN b' s = lostN b s := by unfold lostN; rw [h3, h4]
  have eU : oUw b' s = oUw b s := by unfold oUw; rw [h1]
  have eD : oDw b' s = oDw b s := by unfold oDw; rw [h2]
  unfold TJs
  rw [e, eU, eD]
  exact ⟨j1, TI1_m j2 (fun _ _ w => w) (fun _ _ w => w) hK (Nat.le_refl _), j3, j4, fun k l w => j5 k l (hK k l w)⟩
/-- a put on the way up -/
theorem TJs_put {a a' b b' : TS} {s X T d : Nat} {g : Nat → Int32} (h : TJs a b s X T d) (hX : X ≤ 3000) (hT : T ≤ 3000) (hd : d ≤ 5) (e1 : tI b 95 0 1 = Int32.ofNat T) (e2 : tI b 95 0 2 = Int32.ofNat d)
    (h1 : vQ b' (2 * s) = vQ b (2 * s) ++ laid (fK (tI b 48 (2 * s))) (tI b 95 0 1 + tI b 95 0 2) g) (h2 : vQ b' (2 * s + 1) = vQ b (2 * s + 1)) (h3 : tI b' 48 (2 * s) = fR (tI b 48 (2 * s))) (h4 : tI b' 48 (2 * s + 1) = tI b 48 (2 * s + 1))
    (g13 : g 13 = 0) (g0 : g 0 ≠ 0) (hin : oKw a' b' s g (Int32.ofNat T)) (hK : ∀ k l, oKw a' b' s k l → oKw a b s k l ∨ k = g ∧ l = Int32.ofNat T ∧ (T ≤ X + 10 ∨ ∃ l0, l0 ≤ 4000 ∧ oKw a b s g (Int32.ofNat l0) ∧ T = l0 + 10)) : TJs a' b' s X T d := by
  obtain ⟨j1, j2, j3, j4, j5⟩ := h
  rw [e1, e2] at h1
  obtain ⟨ll, la⟩ := laid_n (f := tI b 48 (2 * s)) (T := T) (d := d) (g := g)
  have hR : lostN b' s ≤ lostN b s := by unfold lostN; rw [h3, h4]; rcases ll with w | w <;> omega
  have hp : lostN b' s + 1 ≤ lostN b s ∨ ∃ t', (t' = T + d ∨ t' = T + d + 4) ∧ oUw b' s (Int32.ofNat t') g := by
    rcases ll with w | ⟨-, t', w1, w2⟩
    · left; unfold lostN; rw [h3, h4]; omega
    · right; exact ⟨t', w1, by unfold oUw; rw [h1]; exact List.mem_append_right _ w2⟩
  have hU : ∀ t g, oUw b s t g → oUw b' s t g := fun t g w => by unfold oUw at *; rw [h1]; exact List.mem_append_left _ w
  have eD : oDw b' s = oDw b s := by unfold oDw; rw [h2]
  have ti := TI1_put (R' := lostN b' s) (U' := oUw b' s) (D' := oDw b' s) (K' := oKw a' b' s) (g := g) (now := T) j2 hT hd j1 hU (fun t g w => by rw [eD]; exact w) hR g13 (fun t g w => by
    obtain ⟨n, n1, n2, n3⟩ := j3 t g w
    exact ⟨n, by omega, n1, n2⟩) (fun t g w => by
    obtain ⟨n, n1, n2, n3⟩ := j4 t g w
    exact ⟨n, by omega, n1, n2⟩) hp hK
  have hb := TI1_bd ti (by omega) hin
  refine ⟨by omega, ti, fun t r w => ?_, fun t r w => ?_, fun k l w => ?_⟩
  · unfold oUw at w
    rw [h1] at w
    rcases List.mem_append.mp w with w | w
    · exact j3 t r w
    · obtain ⟨-, t', w1, w2⟩ := la _ w
      exact ⟨t', w2, by omega, by omega⟩
  · rw [eD] at w
    exact j4 t r w
  · rcases hK k l w with w | ⟨w1, w2, w3⟩
    · exact j5 k l w
    · subst w1
      exact ⟨⟨T, w2, Nat.le_refl _, Or.inl (by omega)⟩, g0, g13⟩
/-- a message goes up no more, and is answered -/
theorem TJs_hear {a a' b b' : TS} {s X T d : Nat} {q r : Nat → Int32} {pre post : List (Int32 × (Nat → Int32))} (h : TJs a b s X T d) (hX : X ≤ 3000) (hT : T ≤ 3000) (hd : d ≤ 5) (hd1 : 1 ≤ d)
    (h0 : vQ b (2 * s) = pre ++ (Int32.ofNat T, q) :: post) (h1 : vQ b' (2 * s) = pre ++ post) (h2 : vQ b' (2 * s + 1) = vQ b (2 * s + 1) ++ laid (fK (tI b 48 (2 * s + 1))) (Int32.ofNat T + Int32.ofNat d) r) (h3 : tI b' 48 (2 * s) = tI b 48 (2 * s)) (h4 : tI b' 48 (2 * s + 1) = fR (tI b 48 (2 * s + 1)))
    (hK : ∀ k l, oKw a' b' s k l → oKw a b s k l) (hr : q 13 = 0 → q 0 ≠ 0 → r 13 = 0 ∧ r 0 = 5 ∧ r 8 = q 0 ∧ r 1 = q 1 ∧ r 7 = q 7) : TJs a' b' s X T d := by
  obtain ⟨j1, j2, j3, j4, j5⟩ := h
  obtain ⟨ll, la⟩ := laid_n (f := tI b 48 (2 * s + 1)) (T := T) (d := d) (g := r)
  have hR : lostN b' s ≤ lostN b s := by unfold lostN; rw [h3, h4]; rcases ll with w | w <;> omega
  have hTX : T ≤ X + 399 := by
    obtain ⟨n, n1, n2, n3⟩ := j3 (Int32.ofNat T) q (by unfold oUw; rw [h0]; simp)
    have := o_inj (by omega) (by omega) n1
    omega
  refine ⟨by omega, ?_, fun t g w => j3 t g ?_, fun t g w => ?_, fun k l w => j5 k l (hK k l w)⟩
  · refine TI1_hear (q := q) (r := r) (now := T) j2 hT hd (fun t g w => ?_) (fun t g w => ?_) (fun k l w => ⟨hK k l w, (j5 k l (hK k l w)).2.1⟩) hR (fun w1 w2 => ?_)
    · unfold oUw at *
      rw [h0] at w
      rw [h1]
      rcases List.mem_append.mp w with w | w
      · exact Or.inl (List.mem_append_left _ w)
      · rcases List.mem_cons.mp w with w | w
        · exact Or.inr ⟨(Prod.mk.inj w).1, (Prod.mk.inj w).2⟩
        · exact Or.inl (List.mem_append_right _ w)
    · unfold oDw at *
      rw [h2]
      exact List.mem_append_left _ w
    · rcases ll with w | ⟨-, t', w3, w4⟩
      · left; unfold lostN; rw [h3, h4]; omega
      · right
        exact ⟨t', w3, by unfold oDw; rw [h2]; exact List.mem_append_right _ w4, hr w1 w2⟩
  · unfold oUw at *
    rw [h1] at w
    rw [h0]
    rcases List.mem_append.mp w with w | w
    · exact List.mem_append_left _ w
    · exact List.mem_append_right _ (List.mem_cons_of_mem _ w)
  · unfold oDw at w
    rw [h2] at w
    rcases List.mem_append.mp w with w | w
    · exact j4 t g w
    · obtain ⟨-, t', w1, w2⟩ := la _ w
      exact ⟨t', w2, by omega, by omega⟩
theorem oK_same {a a' b b' : TS} (hQ : KpQ a b) (hk : ∀ s, s < tZ a 27 0 → kL a' b' s = kL a b s) (hg : groQ b b') {s : Nat} (hs : s < tZ a 27 0) : ∀ k l, oKw a' b' s k l → oKw a b s k l := by
  intro k l ⟨x, x1, x2, x3⟩
  rw [hk s hs] at x1
  obtain ⟨q, q1, q2, q3⟩ := hQ s hs x x1
  refine ⟨x, x1, ?_, x3⟩
  rw [← x2, q1]
  exact (qv_gro hg q2 q3).symm
