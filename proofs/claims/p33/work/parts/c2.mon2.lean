/-! ===== money and holds: one number's record changes ===== -/
theorem i64_add {x d : Int64} {k : Int} (h : d.toInt = k) (h1 : -1000000000 ≤ x.toInt + k) (h2 : x.toInt + k ≤ 1000000000) : (x + d).toInt = x.toInt + k := by
  rw [Int64.toInt_add, h]
  exact Int.bmod_eq_of_le (by omega) (by omega)
theorem psI_add (x d : Int) : psI (x + d) ≤ psI x + psI d := by
  unfold psI
  split <;> split <;> split <;> omega
theorem psI_n {x : Int} : 0 ≤ psI x ∧ x ≤ psI x := by unfold psI; split <;> omega
theorem pcN_eq {b b' : TS} {p : Nat} (hp : p < 1000) (hk : ∀ n, n < 1000 → n ≠ p → (hI b' n 8 ≠ 0 ↔ hI b n 8 ≠ 0)) : (hI b' p 8 ≠ 0 ↔ hI b p 8 ≠ 0) → pcN b' 1000 = pcN b 1000 := fun e =>
  List.countP_congr (fun n hn => by
    have hn := List.mem_range.mp hn
    by_cases q : n = p
    · subst q; simpa using e
    · simpa using hk n hn q)
theorem cnt_one {P Q : Nat → Bool} {p : Nat} : ∀ N, p < N → (∀ n, n < N → n ≠ p → Q n = P n) → P p = false → Q p = true → (List.range N).countP Q = (List.range N).countP P + 1
  | 0, h, _, _, _ => absurd h (Nat.not_lt_zero _)
  | N + 1, h, e, h1, h2 => by
    rw [List.range_succ, List.countP_append, List.countP_append, List.countP_singleton, List.countP_singleton]
    by_cases q : p = N
    · subst q
      rw [if_pos h2, if_neg (by rw [h1]; decide)]
      have : (List.range p).countP Q = (List.range p).countP P := List.countP_congr (fun n hn => by
        have := List.mem_range.mp hn
        rw [e n (by omega) (by omega)])
      omega
    · rw [e N (by omega) (fun w => q w.symm), cnt_one N (by omega) (fun n hn => e n (by omega)) h1 h2]
      omega
theorem pcN_one {b b' : TS} {p : Nat} (hp : p < 1000) (hk : ∀ n, n < 1000 → n ≠ p → hI b' n 8 = hI b n 8) (h0 : hI b p 8 = 0) (h1 : hI b' p 8 ≠ 0) : pcN b' 1000 = pcN b 1000 + 1 :=
  cnt_one 1000 hp (fun n hn hne => by rw [hk n hn hne]) (by simp [h0]) (by simp [h1])
theorem lac_c {a a' b b' : TS} (hR : R0 a b) (hs : StaP a a' b b') {n : Nat} (hn : n < 1000) (h8 : hI b n 8 ≠ 0) (h64 : hA b' n 64 0 = hA b n 64 0) : lac b' n = lac b n := by
  obtain ⟨k, k1, k2, k3⟩ := pos_card hR hn h8
  unfold lac
  rw [h64, k2, o_ix (by omega)]
  exact hs.2.2 k k1
theorem MonI_p {a a' b b' : TS} {D p t sh : Nat} {put : Nat → Int64} {dd : Int64} {dI : Int} (hR : R0 a b) (h : MonI a b D put) (hs : StaP a a' b b') (h29 : tZ a' 29 0 = tZ a 29 0) (hp : p < 1000) (ht : t < tZ a 26 0) (hsh : sh < tZ a 27 0)
    (hk : ∀ n f, n < 1000 → n ≠ p → hI b' n f = hI b n f) (hk64 : ∀ n f, n < 1000 → n ≠ p → hA b' n 64 f = hA b n 64 f) (h97 : tI b' 97 0 6 = tI b 97 0 6) (h91 : tL b' 91 0 8 = tL b 91 0 8 ∧ tL b' 91 0 7 = tL b 91 0 7) (h45 : ∀ s, tL b' 45 0 s = tL b 45 0 s)
    (h43 : ∀ u, u < tZ a 26 0 → tL b' 43 0 u = if u = t then tL b 43 0 u - dd else tL b 43 0 u) (h46 : ∀ u, tL b' 46 0 u = if u = sh then tL b 46 0 u + dd else tL b 46 0 u)
    (A : MaA a' b' p) (B : MaB b' D p) (C : tI b' 94 0 12 = tI b 94 0 12 ∧ (hI b' p 8 ≠ 0 ↔ hI b p 8 ≠ 0) ∨ tI b' 94 0 12 = tI b 94 0 12 + 1 ∧ hI b p 8 = 0 ∧ hI b' p 8 ≠ 0)
    (Hd : ∀ u, u < tZ a 26 0 → tL b' 44 0 u = tL b 44 0 u + (ctH b' u p - ctH b u p)) (Bl : ∀ u, u < tZ a 26 0 → ctL b' u p = ctL b u p + if u = t then dd else 0)
    (hdd : dd.toInt = dI) (hd1 : -100000 ≤ dI ∧ dI ≤ 100000) (hG1 : psI dI ≤ pmI b' p - pmI b p) (hG2 : psI (-dI) + (lmI b' p - lmI b p) ≤ pmI b' p - pmI b p) : MonI a' b' D put := by
  obtain ⟨⟨z26, z27, z28, -⟩, -, -⟩ := id hs
  have hb := MonI_bnd hR h hsh
  obtain ⟨m1, m2, ⟨m3, m3'⟩, m4, m5, m6, g1, g2, g3, g4⟩ := h
  have e46 : (tL b' 46 0 sh).toInt = (tL b 46 0 sh).toInt + dI := by
    rw [h46, if_pos rfl]
    exact i64_add hdd (by omega) (by omega)
  refine ⟨fun n hn => ?_, fun n hn => ?_, ⟨h97.trans m3, ?_⟩, fun u hu => ?_, ?_, fun u hu => ?_, ?_, fun s hs' => ?_, ?_, ?_⟩
  · by_cases q : n = p
    · rw [q]; exact A
    · intro h12
      rw [hk n 12 hn q] at h12
      obtain ⟨w1, w2, w3, w4⟩ := m1 n hn h12
      rw [hk n 8 hn q, hk n 9 hn q, hk n 13 hn q, h29, pac_c hR hs w3]
      exact ⟨w1, w2, w3, w4⟩
  · by_cases q : n = p
    · rw [q]; exact B
    · unfold MaB
      rw [hk n 8 hn q, hk n 15 hn q, hk n 16 hn q, hk64 n 2 hn q]
      exact m2 n hn
  · rcases C with ⟨c1, c2⟩ | ⟨c1, c2, c3⟩
    · rw [c1, m3', pcN_eq hp (fun n hn hne => by rw [hk n 8 hn hne]) c2]
    · rw [c1, m3', pcN_one hp (fun n hn hne => hk n 8 hn hne) c2 c3, o_s]
  · rw [z26] at hu
    rw [S64_upd (f := ctH b u) 1000 hp (fun k hk' hne => by unfold ctH; rw [hk k 12 hk' hne, hk k 13 hk' hne]), m4 u hu, Hd u hu]
  · have hm : tL b 91 0 7 + S64 (fun u => tL b 43 0 u) (tZ a 26 0) + S64 (fun s => tL b 45 0 s + tL b 46 0 s) (tZ a 27 0) = tL b 91 0 8 := m5
    unfold MaE
    rw [z26, z27, h91.1, h91.2, ← hm, S64_upd (f := fun u => tL b 43 0 u) (tZ a 26 0) ht (fun k hk' hne => by show tL b' 43 0 k = _; rw [h43 k hk', if_neg hne]), S64_upd (f := fun s => tL b 45 0 s + tL b 46 0 s) (tZ a 27 0) hsh (fun k hk' hne => by show tL b' 45 0 k + tL b' 46 0 k = _; rw [h45, h46, if_neg hne])]
    simp only [h43 t ht, h46, h45, if_true]
    generalize S64 _ (tZ a 26 0) = X
    generalize S64 _ (tZ a 27 0) = Y
    grind
  · rw [z26] at hu
    rw [S64_upd (f := ctL b u) 1000 hp (fun k hk' hne => by
      unfold ctL
      rw [hk k 16 hk' hne]
      by_cases q8 : hI b k 8 ≠ 0
      · rw [lac_c hR hs hk' q8 (hk64 k 0 hk' hne)]
      · have := ((m2 k hk').1 (Decidable.not_not.mp q8)).2
        rw [this]
        simp), ← m6 u hu, Bl u hu, h43 u hu]
    generalize S64 _ 1000 = X
    by_cases q : u = t
    · rw [if_pos q, if_pos q]; grind
    · rw [if_neg q, if_neg q]; grind
  · rw [h91.2]; exact g1
  · rw [z27] at hs'
    rw [h45]; exact g2 s hs'
  · rw [z27, h91.2]
    have q1 : SI (shU b') (tZ a 27 0) = SI (shU b) (tZ a 27 0) + (shU b' sh - shU b sh) := SI_upd _ hsh (fun k hk' hne => by unfold shU; rw [h45, h46, if_neg hne])
    have q2 : SI (pmI b') 1000 = SI (pmI b) 1000 + (pmI b' p - pmI b p) := SI_upd _ hp (fun k hk' hne => by unfold pmI; rw [hk k 8 hk' hne, hk64 k 2 hk' hne])
    have q3 : shU b' sh - shU b sh ≤ psI dI := by
      unfold shU
      rw [h45, e46]
      have := psI_add (tL b 46 0 sh).toInt dI
      omega
    omega
  · rw [z27]
    have q1 : SI (shD b') (tZ a 27 0) = SI (shD b) (tZ a 27 0) + (shD b' sh - shD b sh) := SI_upd _ hsh (fun k hk' hne => by unfold shD; rw [h46, if_neg hne])
    have q2 : SI (pmI b') 1000 = SI (pmI b) 1000 + (pmI b' p - pmI b p) := SI_upd _ hp (fun k hk' hne => by unfold pmI; rw [hk k 8 hk' hne, hk64 k 2 hk' hne])
    have q4 : SI (lmI b') 1000 = SI (lmI b) 1000 + (lmI b' p - lmI b p) := SI_upd _ hp (fun k hk' hne => by unfold lmI; rw [hk k 16 hk' hne])
    have q3 : shD b' sh - shD b sh ≤ psI (-dI) := by
      unfold shD
      rw [e46]
      have := psI_add (-(tL b 46 0 sh).toInt) (-dI)
      have e : -((tL b 46 0 sh).toInt + dI) = -(tL b 46 0 sh).toInt + -dI := by omega
      rw [e]
      omega
    omega
/-- nothing of it changes -/
theorem MonI_c {a a' b b' : TS} {D : Nat} {put : Nat → Int64} (hR : R0 a b) (h : MonI a b D put) (hs : StaP a a' b b') (hk : ∀ n f, n < 1000 → f = 8 ∨ f = 9 ∨ f = 12 ∨ f = 13 ∨ f = 15 ∨ f = 16 → hI b' n f = hI b n f) (hk64 : ∀ n f, n < 1000 → hA b' n 64 f = hA b n 64 f)
    (h97 : tI b' 97 0 6 = tI b 97 0 6) (h94 : tI b' 94 0 12 = tI b 94 0 12) (h91 : tL b' 91 0 8 = tL b 91 0 8 ∧ tL b' 91 0 7 = tL b 91 0 7) (h45 : ∀ s, tL b' 45 0 s = tL b 45 0 s) (h43 : ∀ u, u < tZ a 26 0 → tL b' 43 0 u = tL b 43 0 u) (h44 : ∀ u, u < tZ a 26 0 → tL b' 44 0 u = tL b 44 0 u) (h46 : ∀ u, tL b' 46 0 u = tL b 46 0 u) : MonI a' b' D put := by
  obtain ⟨⟨z26, z27, z28, z29⟩, -, -⟩ := id hs
  obtain ⟨m1, m2, ⟨m3, m3'⟩, m4, m5, m6, g1, g2, g3, g4⟩ := h
  have epm : SI (pmI b') 1000 = SI (pmI b) 1000 := SI_eq _ (fun n hn => by unfold pmI; rw [hk n 8 hn (by simp), hk64 n 2 hn])
  refine ⟨fun n hn h12 => ?_, fun n hn => ?_, ⟨h97.trans m3, ?_⟩, fun u hu => ?_, ?_, fun u hu => ?_, ?_, fun s hs' => ?_, ?_, ?_⟩
  · rw [hk n 12 hn (by simp)] at h12
    obtain ⟨w1, w2, w3, w4⟩ := m1 n hn h12
    rw [hk n 8 hn (by simp), hk n 9 hn (by simp), hk n 13 hn (by simp), pac_c hR hs w3]
    exact ⟨w1, w2, by omega, w4⟩
  · unfold MaB
    rw [hk n 8 hn (by simp), hk n 15 hn (by simp), hk n 16 hn (by simp), hk64 n 2 hn]
    exact m2 n hn
  · rw [h94, m3', pcN_eq (p := 0) (b := b) (b' := b') (by omega) (fun n hn _ => by rw [hk n 8 hn (by simp)]) (by rw [hk 0 8 (by omega) (by simp)])]
  · rw [z26] at hu
    rw [h44 u hu, ← m4 u hu]
    exact S64_eq _ (fun n hn => by unfold ctH; rw [hk n 12 hn (by simp), hk n 13 hn (by simp)])
  · have hm : tL b 91 0 7 + S64 (fun u => tL b 43 0 u) (tZ a 26 0) + S64 (fun s => tL b 45 0 s + tL b 46 0 s) (tZ a 27 0) = tL b 91 0 8 := m5
    unfold MaE
    rw [z26, z27, h91.1, h91.2, ← hm, S64_eq (f := fun u => tL b' 43 0 u) (tZ a 26 0) (fun k hk' => h43 k hk'), S64_eq (f := fun s => tL b' 45 0 s + tL b' 46 0 s) (tZ a 27 0) (fun k hk' => by show tL b' 45 0 k + tL b' 46 0 k = _; rw [h45, h46])]
  · rw [z26] at hu
    rw [h43 u hu, ← m6 u hu, S64_eq (f := ctL b' u) (g := ctL b u) 1000 (fun n hn => by
      unfold ctL
      rw [hk n 16 hn (by simp)]
      by_cases q8 : hI b n 8 ≠ 0
      · rw [lac_c hR hs hn q8 (hk64 n 0 hn)]
      · rw [((m2 n hn).1 (Decidable.not_not.mp q8)).2]
        simp)]
  · rw [h91.2]; exact g1
  · rw [z27] at hs'
    rw [h45]; exact g2 s hs'
  · rw [z27, h91.2, epm, SI_eq (f := shU b') (g := shU b) _ (fun k _ => by unfold shU; rw [h45, h46])]
    exact g3
  · rw [z27, epm, SI_eq (f := shD b') (g := shD b) _ (fun k _ => by unfold shD; rw [h46]), SI_eq (f := lmI b') (g := lmI b) _ (fun n hn => by unfold lmI; rw [hk n 16 hn (by simp)])]
    exact g4
