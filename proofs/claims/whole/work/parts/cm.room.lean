/-! ===== the room: what holds between calls bounds it ===== -/
theorem pigE {P H : Nat} {R : Nat → Nat → Prop} (h : ∀ j, j < H → ∃ n, n < P ∧ R j n) (hi : ∀ i j n, R i n → R j n → i = j) : H ≤ P := by
  have hx : ∀ j, ∃ n, j < H → n < P ∧ R j n := fun j => by
    by_cases q : j < H
    · obtain ⟨n, h1⟩ := h j q
      exact ⟨n, fun _ => h1⟩
    · exact ⟨0, fun z => absurd z q⟩
  obtain ⟨f, hf⟩ := Classical.axiomOfChoice hx
  exact pig P H f (fun j hj => (hf j hj).1) (fun i j h1 h2 e => hi i j (f i) (hf i h1).2 (by rw [e]; exact (hf j h2).2))
theorem sumS_bd {f : Nat → Nat} {n B : Nat} (h : ∀ i, i < n → f i ≤ B) : sumS n f ≤ n * B := by
  induction n with
  | zero => exact Nat.zero_le _
  | succ n ih =>
    rw [sumS_s, Nat.succ_mul]
    have := ih (fun i hi => h i (by omega))
    have := h n (by omega)
    omega
theorem sumS_2 {f : Nat → Nat} {K : Nat} : ∀ S, (∀ s, s < S → f (2 * s) ≤ 2 * K ∧ f (2 * s + 1) ≤ 8 * K) → sumS (2 * S) f ≤ S * (10 * K) := by
  intro S
  induction S with
  | zero => exact fun _ => Nat.zero_le _
  | succ S ih =>
    intro h
    have e : (S + 1) * (10 * K) = S * (10 * K) + 10 * K := Nat.succ_mul ..
    rw [show 2 * (S + 1) = 2 * S + 1 + 1 by omega, sumS_s, sumS_s, e]
    have := ih (fun s hs => h s (by omega))
    have := h S (by omega)
    omega
theorem sumS_1 {f : Nat → Nat} {B : Nat} (h : f 0 ≤ B) : sumS 1 f ≤ B := by
  rw [sumS_s]
  show 0 + f 0 ≤ B
  omega
/-- what the class makes, at most: cells, the size of each, places of lists -/
def gNa (s : Nat) : Nat := if s = 1 then 8 else if s = 2 then 8 else if s = 4 then 1000 else if s = 5 then 400 else if s = 6 then 400 else if s = 7 then 1000 else if s = 8 then 8 else if s = 9 then 8 else if s = 10 then 60480 else if s = 11 then 1512 else if s = 12 then 1512 else if s = 16 then 400 else if s = 17 then 400 else if s = 18 then 4 else if s = 19 then 4 else if s = 20 then 4 else if s = 21 then 4 else if s = 22 then 4 else if s = 23 then 1512 else if s = 35 then 8 else if s = 36 then 4 else if s = 37 then 8 else if s = 38 then 200 else if s = 39 then 1512 else tN aS0 s
def gZa (s : Nat) : Nat := if s = 1 then 201 else if s = 2 then 201 else if s = 4 then 13 else if s = 5 then 15 else if s = 6 then 15 else if s = 7 then 15 else if s = 8 then 3 else if s = 9 then 3 else if s = 10 then 15 else if s = 11 then 15 else if s = 12 then 15 else if s = 16 then 15 else if s = 17 then 15 else if s = 18 then 3 else if s = 19 then 3 else if s = 20 then 100 else if s = 21 then 4 else if s = 22 then 4 else if s = 23 then 15 else if s = 35 then 3 else if s = 36 then 13 else if s = 37 then 17 else if s = 38 then 12 else if s = 39 then 15 else 0
def gSa (s : Nat) : Nat := if dyN s = true then gNa s * gZa s else Sl aS0 s
def gTa (s : Nat) : Nat := if s = 9 then 400000 else if s = 13 then 1300 else if s = 15 then 3000 else if s = 18 then 12000 else if s = 19 then 12000 else if s = 26 then 3000 else if s = 27 then 3000 else if s = 28 then 3000 else if s = 29 then 3000 else 0
def gNb (s : Nat) : Nat := if s = 48 then 8 else if s = 49 then 8 else if s = 50 then 8 else if s = 61 then 1000 else if s = 62 then 1000 else if s = 63 then 1000 else if s = 64 then 1000 else if s = 74 then 4 else if s = 75 then 4 else if s = 76 then 1512 else if s = 77 then 1512 else if s = 78 then 1512 else if s = 51 then 0 else if s = 52 then 0 else if s = 79 then 0 else if s = 80 then 0 else if s = 81 then 0 else tN bS0 s
def gZb (s : Nat) : Nat := if s = 48 then 3 else if s = 49 then 32 else if s = 50 then 32 else if s = 61 then 17 else if s = 62 then 3 else if s = 63 then 3 else if s = 64 then 3 else if s = 74 then 4 else if s = 75 then 4 else if s = 76 then 14 else if s = 77 then 14 else if s = 78 then 14 else 0
def gSb (s : Nat) : Nat := if dyN s = true then gNb s * gZb s else Sl bS0 s
theorem gA_sum : sumS 100 gNa ≤ 70500 ∧ sumS 100 gSa ≤ 1060000 ∧ sumS 100 gTa ≤ 440300 := by decide +kernel
theorem gB_sum : sumS 100 gNb ≤ 8700 ∧ sumS 100 gSb ≤ 110000 := by decide +kernel
/-- what is known of the numbers of things -/
theorem know_n {a b : TS} {n : Nat} (h : IvH a b n) : ∃ C, C ≤ 512 ∧ Kc a ≤ 1512 ∧ Kb b ≤ 1512 ∧ Mt b ≤ 292200 ∧ (∀ s ∈ [5, 6, 16, 17], tN a s ≤ 400) ∧ tN a 10 ≤ 60480 ∧ S5 b ≤ 484864 ∧ C = C := by
  obtain ⟨C, ⟨⟨hR, hN, hL, hAs, hK⟩, ⟨T, m1, m2, m3, m4, m5, m6, m7⟩, ht⟩, hp, htw, hB⟩ := h
  obtain ⟨s4, -⟩ := r_S hR
  obtain ⟨-, -, -, -, c1, c2, c3, -⟩ := hL.1
  have kk : Kc a ≤ 1512 := by omega
  have hz : ∀ s, s < tZ a 27 0 → tZ a 9 (2 * s) ≤ 2 * Kc a ∧ tZ a 9 (2 * s + 1) ≤ 8 * Kc a := fun s hs => ⟨(m7 s hs).2.2.2.1, (m7 s hs).2.2.2.2⟩
  have hs := sumS_2 (tZ a 27 0) hz
  have h40 : tZ a 27 0 * (10 * Kc a) ≤ 4 * (10 * 1512) := Nat.mul_le_mul s4 (by omega)
  have c3 : tN a 10 = sumS (2 * tZ a 27 0) (tZ a 9) := c3
  have hc : sumC b (2 * tZ a 27 0) ≤ 256 + 2 * sumS (2 * tZ a 27 0) (tZ a 9) := by
    have e : sumC b (2 * tZ a 27 0) = sumS (2 * tZ a 27 0) (capc b) := rfl
    have e1 := sumS_le (f := capc b) (g := fun c => 32 + 2 * tZ a 9 c) (2 * tZ a 27 0) (fun c hc => by
      have := c1 c hc
      show capc b c ≤ 32 + 2 * tZ a 9 c
      omega)
    rw [sumS_add (fun _ => 32) (fun c => 2 * tZ a 9 c), sumS_mul] at e1
    have e2 := sumS_bd (f := fun _ => 32) (n := 2 * tZ a 27 0) (B := 32) (fun _ _ => Nat.le_refl _)
    omega
  refine ⟨C, m2, kk, by omega, by omega, fun s hs => ?_, by omega, by omega, rfl⟩
  have := m6 s hs
  omega
theorem szk {s K z B : Nat} (h : kd s = K) (h2 : (Nat.blt K 24 || Nat.beq K 2000) = true) (h3 : Nat.ble (if K < 24 then nF K else 3) B = true) : szN s z ≤ B := by
  unfold szN
  rw [h]
  rw [Bool.or_eq_true] at h2
  have h3 := Nat.le_of_ble_eq_true h3
  by_cases q : K < 24
  · rw [if_pos q] at h3 ⊢
    exact h3
  · rcases h2 with w | w
    · exact absurd (Nat.le_of_ble_eq_true w) q
    · rw [if_neg q] at h3 ⊢
      rw [if_pos (Nat.eq_of_beq_eq_true w)]
      exact h3
theorem szr {s z : Nat} (h1 : ¬ kd s < 24) (h2 : kd s ≠ 2000) (h3 : kd s ≠ 1000000) : szN s z = z := by
  unfold szN
  rw [if_neg h1, if_neg h2, if_neg h3]
theorem room_a {a b : TS} {n e : Nat} (h : IvH a b n) (hA : AcP aS0 e a) (he : e ≤ 512) : tc a ≤ 159100 ∧ tz a ≤ 2494100 := by
  obtain ⟨C0, -, kc, kb, mt, m6, n10, s5', -⟩ := know_n h
  obtain ⟨p1, p2, p3, p4, p5, p6, p7, p8⟩ := hA
  obtain ⟨C, ⟨⟨hR, hN, hL, hAs, hK⟩, -, ht⟩, -⟩ := h
  obtain ⟨B8, Bc, B35, -⟩ := r_B hR
  obtain ⟨S4, Sc, ⟨S36, S21, S22, S18, S19, S20⟩, -, Sr⟩ := r_S hR
  obtain ⟨C8, Cc', ⟨C37, C1, C2⟩, -, Cr⟩ := r_C hR
  obtain ⟨P200, Pc, P38, -⟩ := r_P hR
  obtain ⟨⟨-, -, k4⟩, -⟩ := r_K hR
  obtain ⟨z7, -⟩ := r_Z hR
  obtain ⟨⟨⟨-, -, o3⟩, l9, l2⟩, -, -, -, -, -, -, c8, -⟩ := hL.1
  have n4 : tN a 4 ≤ 1000 := pigE k4 (fun i j n h1 h2 => congrArg Prod.snd (Option.some.inj (h1.symm.trans h2)))
  have n7 : tN a 7 ≤ 1000 := pigE z7 (fun i j n h1 h2 => congrArg Prod.snd (Option.some.inj (h1.symm.trans h2)))
  have kcc : tN a 11 + tN a 12 + tN a 23 + tN a 39 ≤ 1512 := kc
  have hn : ∀ s ∈ sA, tN a s ≤ gNa s := fun s hs => by
    simp only [sA, List.mem_cons, List.not_mem_nil, or_false] at hs
    rcases hs with q | q | q | q | q | q | q | q | q | q | q | q | q | q | q | q | q | q | q | q | q | q | q | q <;> subst q
    · exact by show tN a 1 ≤ 8; omega
    · exact by show tN a 2 ≤ 8; omega
    · exact n4
    · exact m6 5 (by simp)
    · exact m6 6 (by simp)
    · exact n7
    · exact by show tN a 8 ≤ 8; omega
    · exact by show tN a 9 ≤ 8; omega
    · exact by show tN a 10 ≤ 60480; omega
    · exact by show tN a 11 ≤ 1512; omega
    · exact by show tN a 12 ≤ 1512; omega
    · exact m6 16 (by simp)
    · exact m6 17 (by simp)
    · exact by show tN a 18 ≤ 4; omega
    · exact by show tN a 19 ≤ 4; omega
    · exact by show tN a 20 ≤ 4; omega
    · exact by show tN a 21 ≤ 4; omega
    · exact by show tN a 22 ≤ 4; omega
    · exact by show tN a 23 ≤ 1512; omega
    · exact by show tN a 35 ≤ 8; omega
    · exact by show tN a 36 ≤ 4; omega
    · exact by show tN a 37 ≤ 8; omega
    · exact by show tN a 38 ≤ 200; omega
    · exact by show tN a 39 ≤ 1512; omega
  have hz : ∀ s ∈ sA, ∀ i, i < tN a s → szN s (tZ a s i) ≤ gZa s := fun s hs i hi => by
    simp only [sA, List.mem_cons, List.not_mem_nil, or_false] at hs
    rcases hs with q | q | q | q | q | q | q | q | q | q | q | q | q | q | q | q | q | q | q | q | q | q | q | q <;> subst q
    · rw [show tZ a 1 i = 201 from (Cr i (by omega)).2.2.2.2.2.2.2.2.1]; decide +kernel
    · rw [show tZ a 2 i = 201 from (Cr i (by omega)).2.2.2.2.2.2.2.2.2]; decide +kernel
    · exact szk (K := 4) (by decide +kernel) (by decide +kernel) (by decide +kernel)
    · exact szk (K := 6) (by decide +kernel) (by decide +kernel) (by decide +kernel)
    · exact szk (K := 6) (by decide +kernel) (by decide +kernel) (by decide +kernel)
    · exact szk (K := 6) (by decide +kernel) (by decide +kernel) (by decide +kernel)
    · rw [show tZ a 8 i = 3 from (l2 i (by omega)).1.2.2.2.2.2.2.1]; decide +kernel
    · exact szk (K := 2000) (by decide +kernel) (by decide +kernel) (by decide +kernel)
    · exact szk (K := 6) (by decide +kernel) (by decide +kernel) (by decide +kernel)
    · exact szk (K := 6) (by decide +kernel) (by decide +kernel) (by decide +kernel)
    · exact szk (K := 6) (by decide +kernel) (by decide +kernel) (by decide +kernel)
    · exact szk (K := 6) (by decide +kernel) (by decide +kernel) (by decide +kernel)
    · exact szk (K := 6) (by decide +kernel) (by decide +kernel) (by decide +kernel)
    · exact szk (K := 2000) (by decide +kernel) (by decide +kernel) (by decide +kernel)
    · exact szk (K := 2000) (by decide +kernel) (by decide +kernel) (by decide +kernel)
    · rw [show tZ a 20 i = 100 from (Sr i (by omega)).2.2.2.2.2.2.2.2.2.2]; decide +kernel
    · exact szk (K := 5) (by decide +kernel) (by decide +kernel) (by decide +kernel)
    · exact szk (K := 5) (by decide +kernel) (by decide +kernel) (by decide +kernel)
    · exact szk (K := 6) (by decide +kernel) (by decide +kernel) (by decide +kernel)
    · exact szk (K := 0) (by decide +kernel) (by decide +kernel) (by decide +kernel)
    · exact szk (K := 10) (by decide +kernel) (by decide +kernel) (by decide +kernel)
    · exact szk (K := 1) (by decide +kernel) (by decide +kernel) (by decide +kernel)
    · exact szk (K := 7) (by decide +kernel) (by decide +kernel) (by decide +kernel)
    · exact szk (K := 6) (by decide +kernel) (by decide +kernel) (by decide +kernel)
  have dyA : ∀ s, dyN s = true → s ∈ sA ∨ s ∈ sB := fun s h1 => by
    have h1 := any_mem h1
    unfold sA sB
    simp only [List.mem_cons, List.not_mem_nil, or_false] at h1 ⊢
    omega
  have stN : ∀ s, s < 100 → dyN s = false → tN aS0 s ≤ gNa s := by decide +kernel
  have oth : ∀ s, s ∈ sB → tN a s = 0 := (r_FC hR).1
  have hN100 : ∀ s, s < 100 → tN a s ≤ gNa s := fun s hs => by
    cases q : dyN s with
    | false => rw [p5 s q]; exact stN s hs q
    | true =>
      rcases dyA s q with w | w
      · exact hn s w
      · rw [oth s w]; exact Nat.zero_le _
  have hS100 : ∀ s, s < 100 → Sl a s ≤ gSa s := fun s hs => by
    unfold gSa
    cases q : dyN s with
    | false =>
      rw [if_neg (by decide)]
      refine Nat.le_of_eq ?_
      unfold Sl
      rw [p5 s q]
      refine sumS_eq _ (fun i _ => ?_)
      by_cases k1 : kd s = 2000
      · unfold szN
        rw [k1]
        rfl
      · by_cases k2 : kd s = 1000000
        · unfold szN
          rw [k2]
          rfl
        · rw [p6 s i q k1 k2]
    | true =>
      rw [if_pos rfl]
      rcases dyA s q with w | w
      · exact Nat.le_trans (sumS_bd (hz s w)) (Nat.mul_le_mul_right _ (hn s w))
      · unfold Sl
        rw [oth s w]
        exact Nat.zero_le _
  have ls : ∀ s, s < 100 → (kd s = 2000 ∨ kd s = 1000000) → s ∈ [9, 13, 15, 18, 19, 26, 27, 28, 29] := by decide +kernel
  have one : ∀ s, dyN s = false → tN aS0 s = 1 → tN a s = 1 := fun s q e => (p5 s q).trans e
  have hT100 : ∀ s, s < 100 → Tl a s ≤ gTa s := fun s hs => by
    unfold Tl
    split
    · rename_i k
      have hm := ls s hs k
      simp only [List.mem_cons, List.not_mem_nil, or_false] at hm
      rcases hm with q | q | q | q | q | q | q | q | q <;> subst q
      · refine Nat.le_trans (sumS_bd (B := 50000) (fun i hi => by have := (o3 i hi).2.1; omega)) ?_
        show tN a 9 * 50000 ≤ 400000
        omega
      · rw [one 13 (by decide +kernel) (by decide +kernel)]
        exact sumS_1 (Nat.le_trans ht.2.2.1 (Nat.le_of_eq rfl))
      · rw [one 15 (by decide +kernel) (by decide +kernel)]
        exact sumS_1 (Nat.le_trans (Nat.le_of_lt hN.1.2.1) (Nat.le_of_eq rfl))
      · refine Nat.le_trans (sumS_bd (B := 3000) (fun i hi => by have := (hAs.1 i (by omega)).1.2.1; omega)) ?_
        show tN a 18 * 3000 ≤ 12000
        omega
      · refine Nat.le_trans (sumS_bd (B := 3000) (fun i hi => by have := (hK.1 i (by omega)).1.2.1; omega)) ?_
        show tN a 19 * 3000 ≤ 12000
        omega
      · rw [one 26 (by decide +kernel) (by decide +kernel)]
        exact sumS_1 (Nat.le_trans (Nat.le_of_lt Bc.2.1) (Nat.le_of_eq rfl))
      · rw [one 27 (by decide +kernel) (by decide +kernel)]
        exact sumS_1 (Nat.le_trans (Nat.le_of_lt Sc.2.1) (Nat.le_of_eq rfl))
      · rw [one 28 (by decide +kernel) (by decide +kernel)]
        exact sumS_1 (Nat.le_trans (Nat.le_of_lt Cc'.2.1) (Nat.le_of_eq rfl))
      · rw [one 29 (by decide +kernel) (by decide +kernel)]
        exact sumS_1 (Nat.le_trans (Nat.le_of_lt Pc.2.1) (Nat.le_of_eq rfl))
    · exact Nat.zero_le _
  obtain ⟨g1, g2, g3⟩ := gA_sum
  have w1 := sumS_le 100 hN100
  have w2 := sumS_le 100 hS100
  have w3 := sumS_le 100 hT100
  omega
/-- the rows that grow, and the mails of a hearing, are counted apart -/
def xNb (b : TS) (s : Nat) : Nat := if s = 51 ∨ s = 52 ∨ s = 79 ∨ s = 80 ∨ s = 81 then tN b s else 0
def xSb (b : TS) (s : Nat) : Nat := if s = 51 ∨ s = 52 ∨ s = 79 ∨ s = 80 ∨ s = 81 then Sl b s else 0
theorem sum5 (f : Nat → Nat) : sumS 100 (fun s => if s = 51 ∨ s = 52 ∨ s = 79 ∨ s = 80 ∨ s = 81 then f s else 0) = f 51 + f 52 + f 79 + f 80 + f 81 := by
  have key : ∀ n, sumS n (fun s => if s = 51 ∨ s = 52 ∨ s = 79 ∨ s = 80 ∨ s = 81 then f s else 0) = (if 51 < n then f 51 else 0) + (if 52 < n then f 52 else 0) + (if 79 < n then f 79 else 0) + (if 80 < n then f 80 else 0) + (if 81 < n then f 81 else 0) := by
    intro n
    induction n with
    | zero => rfl
    | succ n ih =>
      rw [sumS_s, ih]
      by_cases e1 : n = 51
      · subst e1; simp (config := {decide := true}) only [if_true, if_false, reduceIte]; omega
      · by_cases e2 : n = 52
        · subst e2; simp (config := {decide := true}) only [if_true, if_false, reduceIte]; omega
        · by_cases e3 : n = 79
          · subst e3; simp (config := {decide := true}) only [if_true, if_false, reduceIte]; omega
          · by_cases e4 : n = 80
            · subst e4; simp (config := {decide := true}) only [if_true, if_false, reduceIte]; omega
            · by_cases e5 : n = 81
              · subst e5; simp (config := {decide := true}) only [if_true, if_false, reduceIte]; omega
              · have e6 : (if n = 51 ∨ n = 52 ∨ n = 79 ∨ n = 80 ∨ n = 81 then f n else 0) = 0 := if_neg (by omega)
                have : ∀ k v : Nat, n ≠ k → (if k < n + 1 then v else 0) = if k < n then v else 0 := fun k v h => by
                  by_cases q : k < n
                  · rw [if_pos q, if_pos (by omega)]
                  · rw [if_neg q, if_neg (by omega)]
                rw [this 51 _ e1, this 52 _ e2, this 79 _ e3, this 80 _ e4, this 81 _ e5, e6]
                rfl
  rw [key]
  rfl
theorem sumS_ge {f : Nat → Nat} {n B : Nat} (h : ∀ i, i < n → B ≤ f i) : n * B ≤ sumS n f := by
  induction n with
  | zero => exact Nat.le_of_eq (Nat.zero_mul _)
  | succ n ih =>
    rw [sumS_s, Nat.succ_mul]
    have := ih (fun i hi => h i (by omega))
    have := h n (by omega)
    omega
theorem room_b {a b : TS} {n : Nat} (h : IvH a b n) (hA : AcP bS0 0 b) : tc b ≤ 331204 ∧ tz b ≤ 4685664 := by
  obtain ⟨C0, -, kc, kb, mt, m6, n10, s5', -⟩ := know_n h
  obtain ⟨p1, p2, p3, p4, p5, p6, p7, p8⟩ := hA
  obtain ⟨C, ⟨⟨hR, hN, hL, hAs, hK⟩, -, ht⟩, -⟩ := h
  obtain ⟨S4, -⟩ := r_S hR
  obtain ⟨-, ⟨-, -, k62, kz, k61⟩, -⟩ := r_K hR
  obtain ⟨-, ⟨ca1, -⟩, -, -, -, -, -, -, ⟨c48, c49, c50⟩, c74, c75⟩ := hL.1
  have n61 : tN b 61 ≤ 1000 := pigE k61 (fun i j n h1 h2 => congrArg Prod.snd (Option.some.inj (h1.symm.trans h2)))
  have kbb : tN b 76 + tN b 77 + tN b 78 ≤ 1512 := kb
  have hn : ∀ s ∈ sB, tN b s ≤ gNb s + xNb b s := fun s hs => by
    unfold sB at hs
    simp only [List.mem_cons, List.not_mem_nil, or_false] at hs
    rcases hs with q | q | q | q | q | q | q | q | q | q | q | q | q | q | q | q | q <;> subst q
    · show tN b 48 ≤ 8 + 0; omega
    · show tN b 49 ≤ 8 + 0; omega
    · show tN b 50 ≤ 8 + 0; omega
    · exact Nat.le_of_eq (by show tN b 51 = 0 + tN b 51; omega)
    · exact Nat.le_of_eq (by show tN b 52 = 0 + tN b 52; omega)
    · show tN b 61 ≤ 1000 + 0; omega
    · show tN b 62 ≤ 1000 + 0; omega
    · show tN b 63 ≤ 1000 + 0; omega
    · show tN b 64 ≤ 1000 + 0; omega
    · show tN b 74 ≤ 4 + 0; omega
    · show tN b 75 ≤ 4 + 0; omega
    · show tN b 76 ≤ 1512 + 0; omega
    · show tN b 77 ≤ 1512 + 0; omega
    · show tN b 78 ≤ 1512 + 0; omega
    · exact Nat.le_of_eq (by show tN b 79 = 0 + tN b 79; omega)
    · exact Nat.le_of_eq (by show tN b 80 = 0 + tN b 80; omega)
    · exact Nat.le_of_eq (by show tN b 81 = 0 + tN b 81; omega)
  have hz : ∀ s ∈ sB, Sl b s ≤ gNb s * gZb s + xSb b s := fun s hs => by
    unfold sB at hs
    simp only [List.mem_cons, List.not_mem_nil, or_false] at hs
    rcases hs with q | q | q | q | q | q | q | q | q | q | q | q | q | q | q | q | q <;> subst q
    · refine Nat.le_trans (sumS_bd (B := 3) (fun i hi => by rw [show tZ b 48 i = 3 from by obtain ⟨m, ds, di, ms, mi, cap, ⟨-, -, -, -, q5, -⟩, -⟩ := ca1 i (by omega); exact q5]; decide +kernel)) ?_
      show tN b 48 * 3 ≤ 8 * 3 + 0
      have := Nat.mul_le_mul_right 3 (show tN b 48 ≤ 8 by omega)
      omega
    · refine Nat.le_trans (sumS_bd (B := 32) (fun i hi => by have := p7 49 i (by simp) hi; exact Nat.le_trans (Nat.le_of_eq (szr (by decide +kernel) (by decide +kernel) (by decide +kernel))) this)) ?_
      show tN b 49 * 32 ≤ 8 * 32 + 0
      have := Nat.mul_le_mul_right 32 (show tN b 49 ≤ 8 by omega)
      omega
    · refine Nat.le_trans (sumS_bd (B := 32) (fun i hi => by have := p7 50 i (by simp) hi; exact Nat.le_trans (Nat.le_of_eq (szr (by decide +kernel) (by decide +kernel) (by decide +kernel))) this)) ?_
      show tN b 50 * 32 ≤ 8 * 32 + 0
      have := Nat.mul_le_mul_right 32 (show tN b 50 ≤ 8 by omega)
      omega
    · show Sl b 51 ≤ 0 + Sl b 51; omega
    · show Sl b 52 ≤ 0 + Sl b 52; omega
    · refine Nat.le_trans (sumS_bd (B := 17) (fun i hi => szk (K := 15) (by decide +kernel) (by decide +kernel) (by decide +kernel))) ?_
      show tN b 61 * 17 ≤ 1000 * 17 + 0
      have := Nat.mul_le_mul_right 17 (show tN b 61 ≤ 1000 by omega)
      omega
    · refine Nat.le_trans (sumS_bd (B := 3) (fun i hi => by rw [show tZ b 62 i = 3 from (kz i (by omega)).2.2.2.1]; decide +kernel)) ?_
      show tN b 62 * 3 ≤ 1000 * 3 + 0
      have := Nat.mul_le_mul_right 3 (show tN b 62 ≤ 1000 by omega)
      omega
    · refine Nat.le_trans (sumS_bd (B := 3) (fun i hi => by rw [show tZ b 63 i = 3 from (kz i (by omega)).2.2.2.2.1]; decide +kernel)) ?_
      show tN b 63 * 3 ≤ 1000 * 3 + 0
      have := Nat.mul_le_mul_right 3 (show tN b 63 ≤ 1000 by omega)
      omega
    · refine Nat.le_trans (sumS_bd (B := 3) (fun i hi => by rw [show tZ b 64 i = 3 from (kz i (by omega)).2.2.2.2.2]; decide +kernel)) ?_
      show tN b 64 * 3 ≤ 1000 * 3 + 0
      have := Nat.mul_le_mul_right 3 (show tN b 64 ≤ 1000 by omega)
      omega
    · refine Nat.le_trans (sumS_bd (B := 4) (fun i hi => szk (K := 13) (by decide +kernel) (by decide +kernel) (by decide +kernel))) ?_
      show tN b 74 * 4 ≤ 4 * 4 + 0
      have := Nat.mul_le_mul_right 4 (show tN b 74 ≤ 4 by omega)
      omega
    · refine Nat.le_trans (sumS_bd (B := 4) (fun i hi => szk (K := 13) (by decide +kernel) (by decide +kernel) (by decide +kernel))) ?_
      show tN b 75 * 4 ≤ 4 * 4 + 0
      have := Nat.mul_le_mul_right 4 (show tN b 75 ≤ 4 by omega)
      omega
    · refine Nat.le_trans (sumS_bd (B := 14) (fun i hi => szk (K := 17) (by decide +kernel) (by decide +kernel) (by decide +kernel))) ?_
      show tN b 76 * 14 ≤ 1512 * 14 + 0
      have := Nat.mul_le_mul_right 14 (show tN b 76 ≤ 1512 by omega)
      omega
    · refine Nat.le_trans (sumS_bd (B := 14) (fun i hi => szk (K := 17) (by decide +kernel) (by decide +kernel) (by decide +kernel))) ?_
      show tN b 77 * 14 ≤ 1512 * 14 + 0
      have := Nat.mul_le_mul_right 14 (show tN b 77 ≤ 1512 by omega)
      omega
    · refine Nat.le_trans (sumS_bd (B := 14) (fun i hi => szk (K := 17) (by decide +kernel) (by decide +kernel) (by decide +kernel))) ?_
      show tN b 78 * 14 ≤ 1512 * 14 + 0
      have := Nat.mul_le_mul_right 14 (show tN b 78 ≤ 1512 by omega)
      omega
    · show Sl b 79 ≤ 0 + Sl b 79; omega
    · show Sl b 80 ≤ 0 + Sl b 80; omega
    · show Sl b 81 ≤ 0 + Sl b 81; omega
  have dyA : ∀ s, dyN s = true → s ∈ sA ∨ s ∈ sB := fun s h1 => by
    have h1 := any_mem h1
    unfold sA sB
    simp only [List.mem_cons, List.not_mem_nil, or_false] at h1 ⊢
    omega
  have stN : ∀ s, s < 100 → dyN s = false → tN bS0 s ≤ gNb s := by decide +kernel
  have oth : ∀ s, s ∈ sA → tN b s = 0 := (r_FR hR).1
  have hN100 : ∀ s, s < 100 → tN b s ≤ gNb s + xNb b s := fun s hs => by
    cases q : dyN s with
    | false => rw [p5 s q]; exact Nat.le_trans (stN s hs q) (Nat.le_add_right _ _)
    | true =>
      rcases dyA s q with w | w
      · rw [oth s w]; exact Nat.zero_le _
      · exact hn s w
  have hS100 : ∀ s, s < 100 → Sl b s ≤ gSb s + xSb b s := fun s hs => by
    unfold gSb
    cases q : dyN s with
    | false =>
      rw [if_neg (by decide)]
      refine Nat.le_trans (Nat.le_of_eq ?_) (Nat.le_add_right _ _)
      unfold Sl
      rw [p5 s q]
      refine sumS_eq _ (fun i _ => ?_)
      by_cases k1 : kd s = 2000
      · unfold szN
        rw [k1]
        rfl
      · by_cases k2 : kd s = 1000000
        · unfold szN
          rw [k2]
          rfl
        · rw [p6 s i q k1 k2]
    | true =>
      rw [if_pos rfl]
      rcases dyA s q with w | w
      · unfold Sl
        rw [oth s w]
        exact Nat.zero_le _
      · exact hz s w
  have hT100 : ∀ s, s < 100 → Tl b s ≤ 0 := fun s hs => by
    have z : ∀ s, s < 100 → dyN s = false → (kd s = 2000 ∨ kd s = 1000000) → tN bS0 s = 0 := by decide +kernel
    have d : ∀ s, s ∈ sB → ¬ (kd s = 2000 ∨ kd s = 1000000) := by
      show ∀ s ∈ sB, ¬ (kd s = 2000 ∨ kd s = 1000000)
      decide +kernel
    unfold Tl
    split
    · rename_i k
      cases q : dyN s with
      | false => rw [p5 s q, z s hs q k]; exact Nat.zero_le _
      | true =>
        rcases dyA s q with w | w
        · rw [oth s w]; exact Nat.zero_le _
        · exact absurd k (d s w)
    · exact Nat.zero_le _
  obtain ⟨g1, g2⟩ := gB_sum
  have w1 := sumS_le 100 hN100
  have w2 := sumS_le 100 hS100
  have w3 := sumS_le 100 hT100
  have z3 : sumS 100 (fun _ => 0) = 0 := by decide +kernel
  have x1 : sumS 100 (xNb b) = tN b 51 + tN b 52 + tN b 79 + tN b 80 + tN b 81 := sum5 (tN b)
  have x2 : sumS 100 (xSb b) = Sl b 51 + Sl b 52 + Sl b 79 + Sl b 80 + Sl b 81 := sum5 (Sl b)
  rw [sumS_add gNb (xNb b), x1] at w1
  rw [sumS_add gSb (xSb b), x2] at w2
  have sr : ∀ s i, s = 51 ∨ s = 52 → szN s (tZ b s i) = tZ b s i := fun s i q => by rcases q with q | q <;> subst q <;> exact szr (by decide +kernel) (by decide +kernel) (by decide +kernel)
  have e51 : Sl b 51 = s5 b 51 := sumS_eq _ (fun i _ => sr 51 i (Or.inl rfl))
  have e52 : Sl b 52 = s5 b 52 := sumS_eq _ (fun i _ => sr 52 i (Or.inr rfl))
  have u51 : tN b 51 * 16 ≤ s5 b 51 := sumS_ge (fun i hi => p8 51 i (Or.inl rfl) hi)
  have u52 : tN b 52 * 16 ≤ s5 b 52 := sumS_ge (fun i hi => p8 52 i (Or.inr rfl) hi)
  have u79 : ∀ s, s = 79 ∨ s = 80 ∨ s = 81 → Sl b s ≤ tN b s * 14 := fun s q => sumS_bd (fun i _ => by rcases q with q | q | q <;> subst q <;> exact szk (K := 17) (by decide +kernel) (by decide +kernel) (by decide +kernel))
  have v79 := u79 79 (by simp)
  have v80 := u79 80 (by simp)
  have v81 := u79 81 (by simp)
  have s5x : s5 b 51 + s5 b 52 ≤ 484864 := s5'
  have mtx : tN b 79 + tN b 80 + tN b 81 ≤ 292200 := mt
  omega
