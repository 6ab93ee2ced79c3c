/-! ===== the room: what holds between calls bounds it ===== -/
theorem pigE {P H : Nat} {R : Nat → Nat → Prop} (h : ∀ j, j < H → ∃ n, n < P ∧ R j n) (hi : ∀ i j n, R i n → R j n → i = j) : H ≤ P := by
  have hx : ∀ j, ∃ n, j < H → n < P ∧ R j n := fun j => by
    by_cases q : j < H
    · obtain ⟨n, h1⟩ := h j q
      exact ⟨n, fun _ => h1⟩
    · exact ⟨0, fun z => absurd z q⟩
  obtain ⟨f, hf⟩ := Classical.axiomOfChoice hx
  exact pig P H f (fun j hj => (hf j hj).1) (fun i j h1 h2 e => hi i j (f i) (hf i h1).2 (by rw [e]; exact (hf j h2).2))
theorem sumS_bd {f : Nat → Nat} {n B : Nat} (h : ∀ i, i < n → f i ≤ B) : sumS n f ≤ n * B := by
  induction n with
  | zero => exact Nat.zero_le _
  | succ n ih =>
    rw [sumS_s, Nat.succ_mul]
    have := ih (fun i hi => h i (by omega))
    have := h n (by omega)
    omega
theorem sumS_2 {f : Nat → Nat} {K : Nat} : ∀ S, (∀ s, s < S → f (2 * s) ≤ 2 * K ∧ f (2 * s + 1) ≤ 8 * K) → sumS (2 * S) f ≤ S * (10 * K) := by
  intro S
  induction S with
  | zero => exact fun _ => Nat.zero_le _
  | succ S ih =>
    intro h
    have e : (S + 1) * (10 * K) = S * (10 * K) + 10 * K := Nat.succ_mul ..
    rw [show 2 * (S + 1) = 2 * S + 1 + 1 by omega, sumS_s, sumS_s, e]
    have := ih (fun s hs => h s (by omega))
    have := h S (by omega)
    omega
theorem sumS_1 {f : Nat → Nat} {B : Nat} (h : f 0 ≤ B) : sumS 1 f ≤ B := by
  rw [sumS_s]
  show 0 + f 0 ≤ B
  omega
/-- what the class makes, at most: cells, the size of each, places of lists -/
def gNa (s : Nat) : Nat := if s = 1 then 8 else if s = 2 then 8 else if s = 4 then 1000 else if s = 5 then 400 else if s = 6 then 400 else if s = 7 then 1000 else if s = 8 then 8 else if s = 9 then 8 else if s = 10 then 60480 else if s = 11 then 1512 else if s = 12 then 1512 else if s = 16 then 400 else if s = 17 then 400 else if s = 18 then 4 else if s = 19 then 4 else if s = 20 then 4 else if s = 21 then 4 else if s = 22 then 4 else if s = 23 then 1512 else if s = 35 then 8 else if s = 36 then 4 else if s = 37 then 8 else if s = 38 then 200 else if s = 39 then 1512 else tN aS0 s
def gZa (s : Nat) : Nat := if s = 1 then 201 else if s = 2 then 201 else if s = 4 then 13 else if s = 5 then 15 else if s = 6 then 15 else if s = 7 then 15 else if s = 8 then 3 else if s = 9 then 3 else if s = 10 then 15 else if s = 11 then 15 else if s = 12 then 15 else if s = 16 then 15 else if s = 17 then 15 else if s = 18 then 3 else if s = 19 then 3 else if s = 20 then 100 else if s = 21 then 4 else if s = 22 then 4 else if s = 23 then 15 else if s = 35 then 3 else if s = 36 then 13 else if s = 37 then 17 else if s = 38 then 12 else if s = 39 then 15 else 0
def gSa (s : Nat) : Nat := if dyN s = true then gNa s * gZa s else Sl aS0 s
def gTa (s : Nat) : Nat := if s = 9 then 400000 else if s = 13 then 1300 else if s = 15 then 3000 else if s = 18 then 12000 else if s = 19 then 12000 else if s = 26 then 3000 else if s = 27 then 3000 else if s = 28 then 3000 else if s = 29 then 3000 else 0
theorem gA_sum : sumS 100 gNa ≤ 70500 ∧ sumS 100 gSa ≤ 1060000 ∧ sumS 100 gTa ≤ 440300 := by decide +kernel
def IvH (a b : TS) (_ : Nat) : Prop := ∃ C, Core a b C ∧ True ∧ True ∧ True
/-- what is known of the numbers of things -/
theorem know_n {a b : TS} {n : Nat} (h : IvH a b n) : ∃ C, C ≤ 512 ∧ Kc a ≤ 1512 ∧ Kb b ≤ 1512 ∧ Mt b ≤ 292200 ∧ (∀ s ∈ [5, 6, 16, 17], tN a s ≤ 400) ∧ tN a 10 ≤ 60480 ∧ S5 b ≤ 484864 ∧ C = C := by
  obtain ⟨C, ⟨⟨hR, hN, hL, hAs, hK⟩, ⟨T, m1, m2, m3, m4, m5, m6, m7⟩, ht⟩, hp, htw, hB⟩ := h
  obtain ⟨s4, -⟩ := r_S hR
  obtain ⟨-, -, -, -, c1, c2, c3, -⟩ := hL.1
  have kk : Kc a ≤ 1512 := by omega
  have hz : ∀ s, s < tZ a 27 0 → tZ a 9 (2 * s) ≤ 2 * Kc a ∧ tZ a 9 (2 * s + 1) ≤ 8 * Kc a := fun s hs => ⟨(m7 s hs).2.2.2.1, (m7 s hs).2.2.2.2⟩
  have hs := sumS_2 (tZ a 27 0) hz
  have h40 : tZ a 27 0 * (10 * Kc a) ≤ 4 * (10 * 1512) := Nat.mul_le_mul s4 (by omega)
  have c3 : tN a 10 = sumS (2 * tZ a 27 0) (tZ a 9) := c3
  have hc : sumC b (2 * tZ a 27 0) ≤ 256 + 2 * sumS (2 * tZ a 27 0) (tZ a 9) := by
    have e : sumC b (2 * tZ a 27 0) = sumS (2 * tZ a 27 0) (capc b) := rfl
    have e1 := sumS_le (f := capc b) (g := fun c => 32 + 2 * tZ a 9 c) (2 * tZ a 27 0) (fun c hc => by
      have := c1 c hc
      show capc b c ≤ 32 + 2 * tZ a 9 c
      omega)
    rw [sumS_add (fun _ => 32) (fun c => 2 * tZ a 9 c), sumS_mul] at e1
    have e2 := sumS_bd (f := fun _ => 32) (n := 2 * tZ a 27 0) (B := 32) (fun _ _ => Nat.le_refl _)
    omega
  refine ⟨C, m2, kk, by omega, by omega, fun s hs => ?_, by omega, by omega, rfl⟩
  have := m6 s hs
  omega
theorem szk {s K z B : Nat} (h : kd s = K) (h2 : (Nat.blt K 24 || Nat.beq K 2000) = true) (h3 : Nat.ble (if K < 24 then nF K else 3) B = true) : szN s z ≤ B := by
  unfold szN
  rw [h]
  rw [Bool.or_eq_true] at h2
  have h3 := Nat.le_of_ble_eq_true h3
  by_cases q : K < 24
  · rw [if_pos q] at h3 ⊢
    exact h3
  · rcases h2 with w | w
    · exact absurd (Nat.le_of_ble_eq_true w) q
    · rw [if_neg q] at h3 ⊢
      rw [if_pos (Nat.eq_of_beq_eq_true w)]
      exact h3
theorem szr {s z : Nat} (h1 : ¬ kd s < 24) (h2 : kd s ≠ 2000) (h3 : kd s ≠ 1000000) : szN s z = z := by
  unfold szN
  rw [if_neg h1, if_neg h2, if_neg h3]
theorem room_a {a b : TS} {n e : Nat} (h : IvH a b n) (hA : AcP aS0 e a) (he : e ≤ 512) : tc a ≤ 159100 ∧ tz a ≤ 2494100 := by
  obtain ⟨C0, -, kc, kb, mt, m6, n10, s5', -⟩ := know_n h
  obtain ⟨p1, p2, p3, p4, p5, p6, p7, p8⟩ := hA
  obtain ⟨C, ⟨⟨hR, hN, hL, hAs, hK⟩, -, ht⟩, -⟩ := h
  obtain ⟨B8, Bc, B35, -⟩ := r_B hR
  obtain ⟨S4, Sc, ⟨S36, S21, S22, S18, S19, S20⟩, -, Sr⟩ := r_S hR
  obtain ⟨C8, Cc', ⟨C37, C1, C2⟩, -, Cr⟩ := r_C hR
  obtain ⟨P200, Pc, P38, -⟩ := r_P hR
  obtain ⟨⟨-, -, k4⟩, -⟩ := r_K hR
  obtain ⟨z7, -⟩ := r_Z hR
  obtain ⟨⟨⟨-, -, o3⟩, l9, l2⟩, -, -, -, -, -, -, c8, -⟩ := hL.1
  have n4 : tN a 4 ≤ 1000 := pigE k4 (fun i j n h1 h2 => congrArg Prod.snd (Option.some.inj (h1.symm.trans h2)))
  have n7 : tN a 7 ≤ 1000 := pigE z7 (fun i j n h1 h2 => congrArg Prod.snd (Option.some.inj (h1.symm.trans h2)))
  have kcc : tN a 11 + tN a 12 + tN a 23 + tN a 39 ≤ 1512 := kc
  have hn : ∀ s ∈ sA, tN a s ≤ gNa s := fun s hs => by
    simp only [sA, List.mem_cons, List.not_mem_nil, or_false] at hs
    rcases hs with q | q | q | q | q | q | q | q | q | q | q | q | q | q | q | q | q | q | q | q | q | q | q | q <;> subst q
    · exact by show tN a 1 ≤ 8; omega
    · exact by show tN a 2 ≤ 8; omega
    · exact n4
    · exact m6 5 (by simp)
    · exact m6 6 (by simp)
    · exact n7
    · exact by show tN a 8 ≤ 8; omega
    · exact by show tN a 9 ≤ 8; omega
    · exact by show tN a 10 ≤ 60480; omega
    · exact by show tN a 11 ≤ 1512; omega
    · exact by show tN a 12 ≤ 1512; omega
    · exact m6 16 (by simp)
    · exact m6 17 (by simp)
    · exact by show tN a 18 ≤ 4; omega
    · exact by show tN a 19 ≤ 4; omega
    · exact by show tN a 20 ≤ 4; omega
    · exact by show tN a 21 ≤ 4; omega
    · exact by show tN a 22 ≤ 4; omega
    · exact by show tN a 23 ≤ 1512; omega
    · exact by show tN a 35 ≤ 8; omega
    · exact by show tN a 36 ≤ 4; omega
    · exact by show tN a 37 ≤ 8; omega
    · exact by show tN a 38 ≤ 200; omega
    · exact by show tN a 39 ≤ 1512; omega
  have hz : ∀ s ∈ sA, ∀ i, i < tN a s → szN s (tZ a s i) ≤ gZa s := fun s hs i hi => by
    simp only [sA, List.mem_cons, List.not_mem_nil, or_false] at hs
    rcases hs with q | q | q | q | q | q | q | q | q | q | q | q | q | q | q | q | q | q | q | q | q | q | q | q <;> subst q
    · rw [show tZ a 1 i = 201 from (Cr i (by omega)).2.2.2.2.2.2.2.2.1]; decide +kernel
    · rw [show tZ a 2 i = 201 from (Cr i (by omega)).2.2.2.2.2.2.2.2.2]; decide +kernel
    · exact szk (K := 4) (by decide +kernel) (by decide +kernel) (by decide +kernel)
    · exact szk (K := 6) (by decide +kernel) (by decide +kernel) (by decide +kernel)
    · exact szk (K := 6) (by decide +kernel) (by decide +kernel) (by decide +kernel)
    · exact szk (K := 6) (by decide +kernel) (by decide +kernel) (by decide +kernel)
    · rw [show tZ a 8 i = 3 from (l2 i (by omega)).1.2.2.2.2.2.2.1]; decide +kernel
    · exact szk (K := 2000) (by decide +kernel) (by decide +kernel) (by decide +kernel)
    · exact szk (K := 6) (by decide +kernel) (by decide +kernel) (by decide +kernel)
    · exact szk (K := 6) (by decide +kernel) (by decide +kernel) (by decide +kernel)
    · exact szk (K := 6) (by decide +kernel) (by decide +kernel) (by decide +kernel)
    · exact szk (K := 6) (by decide +kernel) (by decide +kernel) (by decide +kernel)
    · exact szk (K := 6) (by decide +kernel) (by decide +kernel) (by decide +kernel)
    · exact szk (K := 2000) (by decide +kernel) (by decide +kernel) (by decide +kernel)
    · exact szk (K := 2000) (by decide +kernel) (by decide +kernel) (by decide +kernel)
    · rw [show tZ a 20 i = 100 from (Sr i (by omega)).2.2.2.2.2.2.2.2.2.2]; decide +kernel
    · exact szk (K := 5) (by decide +kernel) (by decide +kernel) (by decide +kernel)
    · exact szk (K := 5) (by decide +kernel) (by decide +kernel) (by decide +kernel)
    · exact szk (K := 6) (by decide +kernel) (by decide +kernel) (by decide +kernel)
    · exact szk (K := 0) (by decide +kernel) (by decide +kernel) (by decide +kernel)
    · exact szk (K := 10) (by decide +kernel) (by decide +kernel) (by decide +kernel)
    · exact szk (K := 1) (by decide +kernel) (by decide +kernel) (by decide +kernel)
    · exact szk (K := 7) (by decide +kernel) (by decide +kernel) (by decide +kernel)
    · exact szk (K := 6) (by decide +kernel) (by decide +kernel) (by decide +kernel)
  have dyA : ∀ s, dyN s = true → s ∈ sA ∨ s ∈ sB := fun s h1 => by
    have h1 := any_mem h1
    unfold sA sB
    simp only [List.mem_cons, List.not_mem_nil, or_false] at h1 ⊢
    omega
  have stN : ∀ s, s < 100 → dyN s = false → tN aS0 s ≤ gNa s := by decide +kernel
  have oth : ∀ s, s ∈ sB → tN a s = 0 := (r_FC hR).1
  have hN100 : ∀ s, s < 100 → tN a s ≤ gNa s := fun s hs => by
    cases q : dyN s with
    | false => rw [p5 s q]; exact stN s hs q
    | true =>
      rcases dyA s q with w | w
      · exact hn s w
      · rw [oth s w]; exact Nat.zero_le _
  have hS100 : ∀ s, s < 100 → Sl a s ≤ gSa s := fun s hs => by
    unfold gSa
    cases q : dyN s with
    | false =>
      rw [if_neg (by decide)]
      refine Nat.le_of_eq ?_
      unfold Sl
      rw [p5 s q]
      refine sumS_eq _ (fun i _ => ?_)
      by_cases k1 : kd s = 2000
      · unfold szN
        rw [k1]
        rfl
      · by_cases k2 : kd s = 1000000
        · unfold szN
          rw [k2]
          rfl
        · rw [p6 s i q k1 k2]
    | true =>
      rw [if_pos rfl]
      rcases dyA s q with w | w
      · exact Nat.le_trans (sumS_bd (hz s w)) (Nat.mul_le_mul_right _ (hn s w))
      · unfold Sl
        rw [oth s w]
        exact Nat.zero_le _
  have ls : ∀ s, s < 100 → (kd s = 2000 ∨ kd s = 1000000) → s ∈ [9, 13, 15, 18, 19, 26, 27, 28, 29] := by decide +kernel
  have one : ∀ s, dyN s = false → tN aS0 s = 1 → tN a s = 1 := fun s q e => (p5 s q).trans e
  have hT100 : ∀ s, s < 100 → Tl a s ≤ gTa s := fun s hs => by
    unfold Tl
    split
    · rename_i k
      have hm := ls s hs k
      simp only [List.mem_cons, List.not_mem_nil, or_false] at hm
      rcases hm with q | q | q | q | q | q | q | q | q <;> subst q
      · refine Nat.le_trans (sumS_bd (B := 50000) (fun i hi => by have := (o3 i hi).2.1; omega)) ?_
        show tN a 9 * 50000 ≤ 400000
        omega
      · rw [one 13 (by decide +kernel) (by decide +kernel)]
        exact sumS_1 (Nat.le_trans ht.2.2.1 (Nat.le_of_eq rfl))
      · rw [one 15 (by decide +kernel) (by decide +kernel)]
        exact sumS_1 (Nat.le_trans (Nat.le_of_lt hN.1.2.1) (Nat.le_of_eq rfl))
      · refine Nat.le_trans (sumS_bd (B := 3000) (fun i hi => by have := (hAs.1 i (by omega)).1.2.1; omega)) ?_
        show tN a 18 * 3000 ≤ 12000
        omega
      · refine Nat.le_trans (sumS_bd (B := 3000) (fun i hi => by have := (hK.1 i (by omega)).1.2.1; omega)) ?_
        show tN a 19 * 3000 ≤ 12000
        omega
      · rw [one 26 (by decide +kernel) (by decide +kernel)]
        exact sumS_1 (Nat.le_trans (Nat.le_of_lt Bc.2.1) (Nat.le_of_eq rfl))
      · rw [one 27 (by decide +kernel) (by decide +kernel)]
        exact sumS_1 (Nat.le_trans (Nat.le_of_lt Sc.2.1) (Nat.le_of_eq rfl))
      · rw [one 28 (by decide +kernel) (by decide +kernel)]
        exact sumS_1 (Nat.le_trans (Nat.le_of_lt Cc'.2.1) (Nat.le_of_eq rfl))
      · rw [one 29 (by decide +kernel) (by decide +kernel)]
        exact sumS_1 (Nat.le_trans (Nat.le_of_lt Pc.2.1) (Nat.le_of_eq rfl))
    · exact Nat.zero_le _
  obtain ⟨g1, g2, g3⟩ := gA_sum
  have w1 := sumS_le 100 hN100
  have w2 := sumS_le 100 hS100
  have w3 := sumS_le 100 hT100
  omega
theorem law_all (H : ALLU) {sc : List Int32} {w : Hp} (hL : sc.length < 2 ^ 31) (h0 : hG w (some (0, 0)) = some (1000, sc.map aI)) (he : ∀ s, s ≠ 0 → w.1 s = []) :
    ∃ h', Ru 333 0 [(0, aR (some (0, 0)))] [] w = some (.inl (some (aI 1)), h') ∧ h'.2.1 ≤ w.2.1 + 159200 ∧ h'.2.2 ≤ w.2.2 + 2494200 := by
  obtain ⟨a, w', j, q1, q2, q3, q4, b, hC⟩ := x333 H hL h0 he
  have hA : AcP aS0 j a := q2 (fun k x => AcP aS0 k x) (fun j x y hw hx => AcP_Wr hw hx) (fun j x hx => AcP_e hx) Ac_a
  obtain ⟨r1, r2⟩ := room_a (n := 0) ⟨70, hC, trivial, trivial, trivial⟩ hA (by omega)
  refine ⟨_, q1, ?_, ?_⟩
  · show tc a + w'.2.1 ≤ _
    rw [q4]
    show tc a + (w.2.1 + 2) ≤ _
    omega
  · show tz a + w'.2.2 ≤ _
    rw [q4]
    show tz a + (w.2.2 + 61) ≤ _
    omega
