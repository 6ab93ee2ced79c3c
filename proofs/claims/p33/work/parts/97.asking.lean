/-! ===== the payments that a terminal asks for ===== -/
/-- the payments of a shop that are asked for, in their order -/
def askL (b : TS) (n s : Nat) : List Nat := (List.range n).filter (fun p => decide (tI b 87 0 (10 * p + 2) = Int32.ofNat s ∧ tI b 87 0 (10 * p) = 1))
def As1 (a b : TS) (s : Nat) : Prop := capOK a 18 s ∧ (List.range (tZ a 18 s)).map (tR a 18 s) = (askL b (tZ a 29 0) s).map (fun p => some (38, p))
def As (a b : TS) : Prop := (∀ s, s < tZ a 27 0 → As1 a b s) ∧ ∀ p, p < tZ a 29 0 → (∃ n, n ≤ 3000 ∧ tI b 87 0 (10 * p + 6) = Int32.ofNat n) ∧ tI b 87 0 (10 * p + 6) ≤ tI b 95 0 1
theorem askL_mem {b : TS} {n s p : Nat} : p ∈ askL b n s ↔ p < n ∧ tI b 87 0 (10 * p + 2) = Int32.ofNat s ∧ tI b 87 0 (10 * p) = 1 := by
  unfold askL
  rw [List.mem_filter, List.mem_range, decide_eq_true_iff]
theorem askL_nodup (b : TS) (n s : Nat) : (askL b n s).Nodup := (List.nodup_range (n := n)).filter _
theorem askL_eq {b b' : TS} {n s : Nat} (h2 : ∀ p, p < n → tI b' 87 0 (10 * p + 2) = tI b 87 0 (10 * p + 2)) (h0 : ∀ p, p < n → tI b 87 0 (10 * p + 2) = Int32.ofNat s → (tI b' 87 0 (10 * p) = 1 ↔ tI b 87 0 (10 * p) = 1)) : askL b' n s = askL b n s := by
  unfold askL
  refine List.filter_congr (fun p hp => ?_)
  have hp := List.mem_range.mp hp
  rw [h2 p hp]
  by_cases e : tI b 87 0 (10 * p + 2) = Int32.ofNat s
  · have := h0 p hp e
    simp only [e, true_and, this]
  · simp only [e, false_and]
theorem nodup_er {l : List Nat} : ∀ {j p : Nat}, l.Nodup → l[j]? = some p → l.eraseIdx j = l.filter (fun x => decide (x ≠ p)) := by
  induction l with
  | nil => intro j p _ h; simp at h
  | cons x l ih =>
    intro j p hn h
    rw [List.nodup_cons] at hn
    cases j with
    | zero =>
      have e : x = p := by simpa using h
      subst e
      rw [List.eraseIdx_cons_zero, List.filter_cons_of_neg (by simp)]
      symm
      refine List.filter_eq_self.mpr (fun y hy => ?_)
      simp only [decide_eq_true_iff]
      exact fun e => hn.1 (e ▸ hy)
    | succ j =>
      have h' : l[j]? = some p := by simpa using h
      have hx : x ≠ p := fun e => hn.1 (e ▸ List.mem_of_getElem? h')
      rw [List.eraseIdx_cons_succ, List.filter_cons_of_pos (by simpa using hx), ih hn.2 h']
theorem askL_rm {b b' : TS} {n s p : Nat} (h2 : ∀ p', p' < n → tI b' 87 0 (10 * p' + 2) = tI b 87 0 (10 * p' + 2)) (h0 : ∀ p', p' ≠ p → tI b' 87 0 (10 * p') = tI b 87 0 (10 * p')) (hp : tI b' 87 0 (10 * p) ≠ 1) : askL b' n s = (askL b n s).filter (fun x => decide (x ≠ p)) := by
  unfold askL
  rw [List.filter_filter]
  refine List.filter_congr (fun q hq => ?_)
  have hq := List.mem_range.mp hq
  rw [h2 q hq]
  by_cases e : q = p
  · subst e
    simp [hp]
  · simp [h0 q e, e]
theorem map_er {α β : Type} (f : α → β) : ∀ (l : List α) (j : Nat), (l.map f).eraseIdx j = (l.eraseIdx j).map f
  | [], _ => rfl
  | _ :: _, 0 => rfl
  | x :: l, j + 1 => by
    rw [List.map_cons, List.eraseIdx_cons_succ, List.eraseIdx_cons_succ, List.map_cons, map_er f l j]
/-- an element of a list of references goes -/
theorem rm_map (a : TS) (s i j : Nat) (hj : j < tZ a s i) : (List.range (tZ (rmL a s i j) s i)).map (tR (rmL a s i j) s i) = ((List.range (tZ a s i)).map (tR a s i)).eraseIdx j := by
  apply List.ext_getElem?
  intro k
  rw [List.getElem?_eraseIdx, tZ_rmL, if_pos ⟨rfl, rfl⟩]
  by_cases hk : k < j
  · rw [if_pos hk, List.getElem?_map, List.getElem?_map, List.getElem?_range (by omega), List.getElem?_range (by omega), Option.map_some, Option.map_some, tR_rmL, if_pos ⟨rfl, rfl⟩, if_pos hk]
  · rw [if_neg hk]
    by_cases hk2 : k < tZ a s i - 1
    · rw [List.getElem?_map, List.getElem?_map, List.getElem?_range hk2, List.getElem?_range (by omega), Option.map_some, Option.map_some, tR_rmL, if_pos ⟨rfl, rfl⟩, if_neg hk]
    · rw [List.getElem?_eq_none (by rw [List.length_map, List.length_range]; omega), List.getElem?_eq_none (by rw [List.length_map, List.length_range]; omega)]
theorem As_at {a b : TS} {s k : Nat} (h : As1 a b s) (hk : k < tZ a 18 s) : ∃ p, (askL b (tZ a 29 0) s)[k]? = some p ∧ tR a 18 s k = some (38, p) ∧ p < tZ a 29 0 ∧ tI b 87 0 (10 * p + 2) = Int32.ofNat s ∧ tI b 87 0 (10 * p) = 1 := by
  have h1 : ((List.range (tZ a 18 s)).map (tR a 18 s))[k]? = ((askL b (tZ a 29 0) s).map (fun p => some ((38 : Nat), p)))[k]? := by rw [h.2]
  rw [List.getElem?_map, List.getElem?_range hk, List.getElem?_map] at h1
  cases e : (askL b (tZ a 29 0) s)[k]? with
  | none => rw [e] at h1; cases h1
  | some p =>
    rw [e] at h1
    have h1 := Option.some.inj h1
    obtain ⟨m1, m2, m3⟩ := askL_mem.mp (List.mem_of_getElem? e)
    exact ⟨p, rfl, h1, m1, m2, m3⟩
theorem As_len {a b : TS} {s : Nat} (h : As1 a b s) : tZ a 18 s = (askL b (tZ a 29 0) s).length := by
  have := congrArg List.length h.2
  rwa [List.length_map, List.length_range, List.length_map] at this
theorem askL_len (b : TS) (n s : Nat) : (askL b n s).length ≤ n := by
  unfold askL
  exact Nat.le_trans (List.length_filter_le _ _) (Nat.le_of_eq List.length_range)
/-- the search for the payment -/
theorem x72_to {a b : TS} {z : Hp} {sh r p : Nat} (hR : R0 a b) (hA : As1 a b sh) (hsh : sh < tZ a 27 0) (hr : r < tN a 10) (m1 : tI a 10 r 1 = Int32.ofNat p) (hp : p < tZ a 29 0) :
    ∀ j, j ≤ tZ a 18 sh → (∀ k q, k < j → (askL b (tZ a 29 0) sh)[k]? = some q → q ≠ p) → Ru 72 2 [(0, aR (some (36, sh))), (1, aR (some (10, r))), (2, aI 0)] [] (enc 1 a z) = Ru 72 2 [(0, aR (some (36, sh))), (1, aR (some (10, r))), (2, aI (Int32.ofNat j))] [] (enc 1 a z) := by
  have hfc := r_FC hR
  obtain ⟨S1, S2, ⟨S3, S4, S5', S6, S7, S8⟩, S9, S10⟩ := r_S hR
  obtain ⟨T1, T2, T3, T4, T5, T6, T7, T8, T9, T10, T11⟩ := S10 sh hsh
  obtain ⟨P1, P2, P3, P4, P5, P6, P7⟩ := r_P' hR
  have h36 : sh < tN a 36 := by omega
  have h18 : sh < tN a 18 := by omega
  have hcap := hA.1.1
  have hcap2 := hA.1.2.1
  intro j
  induction j with
  | zero => exact fun _ _ => rfl
  | succ j ih =>
    intro hj hne
    rw [ih (by omega) (fun k q hk => hne k q (by omega))]
    obtain ⟨q, q1, q2, q3, q4, q5⟩ := As_at hA (k := j) (by omega)
    obtain ⟨-, u1, -⟩ := P5 q q3
    have q38 : q < tN a 38 := by omega
    have g1 : ¬ Int32.ofNat j < 0 := o_lt0 (by omega)
    have g2 : (Int32.ofNat j).toNatClampNeg = j := o_ix (by omega)
    have g3 : ¬ Int32.ofNat (tZ a 18 sh) ≤ Int32.ofNat j := by rw [o_le (by omega) (by omega)]; omega
    have g4 : j < tZ a 18 sh := by omega
    have ne1 : ¬ Int32.ofNat q = Int32.ofNat p := fun e => hne j q (by omega) q1 (o_inj (by omega) (by omega) e)
    rw [lf_72_2]
    simp (config := {decide := true}) only [gfI_enc, gfL_enc, gfR_enc, pfI_enc, pfL_enc, pfR_enc, Option.bind_some, cI_v, cL_v, cF_v, cD_v, cR_v, cV_v, cI_x, cL_x, cR_x, cV_x, gz_0, gz_1, acc_enc, tI_sI, tL_sI, tR_sI, tN_sI, tZ_sI, tC_sI, tc_sI, tz_sI, tI_sL, tL_sL, tR_sL, tN_sL, tZ_sL, tC_sL, tc_sL, tz_sL, tI_sR, tL_sR, tR_sR, tN_sR, tZ_sR, tC_sR, tc_sR, tz_sR, tI_sZ, tL_sZ, tR_sZ, tN_sZ, tZ_sZ, tC_sZ, tc_sZ, tz_sZ, tI_sC, tL_sC, tR_sC, tN_sC, tZ_sC, tC_sC, tc_sC, tz_sC, tI_aC, tL_aC, tR_aC, tN_aC, tZ_aC, tC_aC, tc_aC, tz_aC, tI_rmL, tL_rmL, tR_rmL, tN_rmL, tZ_rmL, tC_rmL, tc_rmL, tz_rmL, tI_mk, tL_mk, tR_mk, tN_mk, tZ_mk, tC_mk, tc_mk, tz_mk, tI_pushL, tL_pushL, tR_pushL, tN_pushL, tZ_pushL, tC_pushL, tc_pushL, tz_pushL, tI_pushB, tL_pushB, tR_pushB, tN_pushB, tZ_pushB, tC_pushB, tc_pushB, tz_pushB, tI_cpL, tL_cpL, tR_cpL, tN_cpL, tZ_cpL, tC_cpL, tc_cpL, tz_cpL, eq_self, true_and, and_true, false_and, and_false, if_true, if_false, reduceIte, ite_true, ite_false, not_true_eq_false, not_false_eq_true, h36, T8, X405, X402, h18, g1, g2, g3, g4, q2, acc_enc, q38, u1, hr, m1, ne1, o_s]
theorem DpA_m : ∀ q ∈ FpA, q ∈ FpA ∨ q.1 ∈ [18] := fun q h => Or.inl h
/-- what an ANSWER leaves of a payment -/
def AnsP (b b' : TS) (p : Nat) (w by' : Int32) : Prop := (∀ p', p' ≠ p → tI b' 87 0 (10 * p') = tI b 87 0 (10 * p')) ∧ (tI b 87 0 (10 * p) ≠ 1 → tI b' 87 0 (10 * p) = tI b 87 0 (10 * p)) ∧
  (tI b 87 0 (10 * p) = 1 → tI b' 87 0 (10 * p) = 1 ∨ w = 2 ∧ tI b' 87 0 (10 * p) = 3 ∨ w ≠ 2 ∧ tI b' 87 0 (10 * p) = 2 ∧ tI b' 87 0 (10 * p + 8) = by')
theorem hpB_s {b : TS} {p cd : Nat} {w by' rs told : Int32} {R : Prop} [Decidable R] (hs : tI b 87 0 (10 * p) = 1) :
    tI (hpB b p cd w by' rs told R) 87 0 (10 * p) = 1 ∨ w = 2 ∧ tI (hpB b p cd w by' rs told R) 87 0 (10 * p) = 3 ∨ w ≠ 2 ∧ tI (hpB b p cd w by' rs told R) 87 0 (10 * p) = 2 ∧ tI (hpB b p cd w by' rs told R) 87 0 (10 * p + 8) = by' := by
  have n7 : ¬ (10 * p = 10 * p + 7) := by omega
  have n8 : ¬ (10 * p = 10 * p + 8) := by omega
  have h0 : (w = 2 ∧ tI (stB b p w by' rs) 87 0 (10 * p) = 3) ∨ w ≠ 2 ∧ tI (stB b p w by' rs) 87 0 (10 * p) = 2 ∧ tI (stB b p w by' rs) 87 0 (10 * p + 8) = by' := by
    unfold stB
    by_cases e : w = 2
    · rw [if_pos e]
      refine Or.inl ⟨e, ?_⟩
      rw [tI_sI, if_neg (fun q => n7 q.2.2), tI_sI, if_pos ⟨rfl, rfl, rfl⟩]
    · rw [if_neg e]
      refine Or.inr ⟨e, ?_, ?_⟩
      · rw [tI_sI, if_neg (fun q => n8 q.2.2), tI_sI, if_pos ⟨rfl, rfl, rfl⟩]
      · rw [tI_sI, if_pos ⟨rfl, rfl, rfl⟩]
  have h1 : ∀ X k, tI (anB X cd w) 87 0 k = tI X 87 0 k := fun X k => by
    unfold anB
    split
    · rfl
    · rw [tI_sI, if_neg (fun q => absurd q.1 (by decide)), tI_sI, if_neg (fun q => absurd q.1 (by decide)), tI_sI, if_neg (fun q => absurd q.1 (by decide))]
  have h2 : ∀ X k, tI (tolB X cd told) 87 0 k = tI X 87 0 k := fun X k => by
    unfold tolB
    dsimp only
    have s : ∀ (Y : TS) (i j : Nat) (v : Int32), tI (sI Y 86 i j v) 87 0 k = tI Y 87 0 k := fun Y i j v => by rw [tI_sI, if_neg (fun q => absurd q.1 (by decide))]
    split <;> split <;> split <;> simp only [s]
  unfold hpB
  by_cases e : R
  · rw [if_pos e, h2, h1, h2, h1]
    exact Or.inr h0
  · rw [if_neg e]
    by_cases e2 : w = 2 ∨ by' = 2
    · rw [if_pos e2]
      exact Or.inr h0
    · rw [if_neg e2]
      exact Or.inl hs
set_option maxHeartbeats 4000000 in
theorem sim_ans {a b : TS} {sh r p : Nat} {q : Nat × Nat} {w by' rs told st : Int32} (hR : R0 a b) (hA : As a b) (hsh : sh < tZ a 27 0) (hr : r < tN a 10) (m1 : tI a 10 r 1 = Int32.ofNat p) (hp : p < tZ a 29 0) (hps : tI b 87 0 (10 * p + 2) = Int32.ofNat sh)
    (m6 : tI a 10 r 6 = st) (m7 : tI a 10 r 7 = by') (m8 : tI a 10 r 8 = w) (m9 : tI a 10 r 9 = rs) (m10 : tI a 10 r 10 = told) (hq : isQ q.1) (hqi : q.2 < tN b q.1)
    (q0 : tI b q.1 q.2 0 = 4) (q1 : tI b q.1 q.2 1 = Int32.ofNat p) (q5 : tI b q.1 q.2 5 = st) (q9 : tI b q.1 q.2 9 = rs) (q10 : tI b q.1 q.2 10 = told) (q11 : w = 1 ∧ tI b q.1 q.2 11 = 1 ∨ w = 2 ∧ tI b q.1 q.2 11 = 0) (q12 : by' = 1 ∧ tI b q.1 q.2 12 = 1 ∨ by' = 2 ∧ tI b q.1 q.2 12 = 0) :
    ∃ a' b', (∀ z, Ex 72 [aR (some (36, sh)), aR (some (10, r))] (enc 1 a z) = some (.inl none, enc 1 a' z)) ∧ (∀ z, Ex 209 [aR (some (95, 0)), aI (Int32.ofNat sh), aR (some q)] (enc 2 b z) = some (.inl none, enc 2 b' z)) ∧
      R0 a' b' ∧ As a' b' ∧ chF [18] FpA a a' ∧ chF [86, 87] [] b b' ∧ PS a a' b b' ∧ W87 b b' ∧ (∀ p', tI b' 87 0 (10 * p') = tI b 87 0 (10 * p') ∨ tI b 87 0 (10 * p') = 1 ∧ tI b' 87 0 (10 * p') ≠ 1) ∧ Wr a a' ∧ Wr b b' ∧ (∀ s, tN a' s = tN a s) ∧ (∀ s, tN b' s = tN b s) ∧ AnsP b b' p w by' := by
  have hfc := r_FC hR
  have hfr := r_FR hR
  have hA1 := hA.1 sh hsh
  obtain ⟨S1, S2, ⟨S3, S4, S5', S6, S7, S8⟩, S9, S10⟩ := r_S hR
  obtain ⟨T1, T2, T3, T4, T5, T6, T7, T8, T9, T10, T11⟩ := S10 sh hsh
  obtain ⟨P1, P2, P3, P4, P5, P6, P7⟩ := r_P' hR
  have h36 : sh < tN a 36 := by omega
  have h18 : sh < tN a 18 := by omega
  obtain ⟨u0, u1, ⟨cd, c1, c2, c3⟩, ⟨s', v1, v2, v3⟩, ⟨u3, -⟩, ⟨u4, -⟩, -⟩ := P5 p hp
  have es : s' = sh := o_inj (by omega) (by omega) (v3.symm.trans hps)
  subst es
  obtain ⟨C1, C2, ⟨C3, C4, C5⟩, C6, C7⟩ := r_C hR
  obtain ⟨D1, D2, -, -, D5, -⟩ := C7 cd c1
  have h37 : cd < tN a 37 := by omega
  have h38 : p < tN a 38 := by omega
  have hcap := hA1.1.1
  have hcap2 := hA1.1.2.1
  obtain ⟨qs, qi⟩ := q
  have y209 : ∀ b' z, (∀ z, Ex 244 [aR (some (93, 0)), aI (Int32.ofNat p), aI (tI b qs qi 12), aI (tI b qs qi 11), aI rs, aI st, aI told] (enc 2 b z) = some (.inl none, enc 2 b' z)) → Ex 209 [aR (some (95, 0)), aI (Int32.ofNat s'), aR (some (qs, qi))] (enc 2 b z) = some (.inl none, enc 2 b' z) := fun b' z h => by
    have hqi' : qi < tN b qs := hqi
    have q0' : tI b qs qi 0 = 4 := q0
    have q1' : tI b qs qi 1 = Int32.ofNat p := q1
    have q5' : tI b qs qi 5 = st := q5
    have q9' : tI b qs qi 9 = rs := q9
    have q10' : tI b qs qi 10 = told := q10
    refine (X_in (by decide +kernel) (frN_95 hfr) rfl).trans ((lf_209_0 ..).trans ?_)
    simp (config := {decide := true}) only [gfI_enc, gfL_enc, gfR_enc, pfI_enc, pfL_enc, pfR_enc, Option.bind_some, cI_v, cL_v, cF_v, cD_v, cR_v, cV_v, cI_x, cL_x, cR_x, cV_x, gz_0, gz_1, acc_enc, tI_sI, tL_sI, tR_sI, tN_sI, tZ_sI, tC_sI, tc_sI, tz_sI, tI_sL, tL_sL, tR_sL, tN_sL, tZ_sL, tC_sL, tc_sL, tz_sL, tI_sR, tL_sR, tR_sR, tN_sR, tZ_sR, tC_sR, tc_sR, tz_sR, tI_sZ, tL_sZ, tR_sZ, tN_sZ, tZ_sZ, tC_sZ, tc_sZ, tz_sZ, tI_sC, tL_sC, tR_sC, tN_sC, tZ_sC, tC_sC, tc_sC, tz_sC, tI_aC, tL_aC, tR_aC, tN_aC, tZ_aC, tC_aC, tc_aC, tz_aC, tI_rmL, tL_rmL, tR_rmL, tN_rmL, tZ_rmL, tC_rmL, tc_rmL, tz_rmL, tI_mk, tL_mk, tR_mk, tN_mk, tZ_mk, tC_mk, tc_mk, tz_mk, tI_pushL, tL_pushL, tR_pushL, tN_pushL, tZ_pushL, tC_pushL, tc_pushL, tz_pushL, tI_pushB, tL_pushB, tR_pushB, tN_pushB, tZ_pushB, tC_pushB, tc_pushB, tz_pushB, tI_cpL, tL_cpL, tR_cpL, tN_cpL, tZ_cpL, tC_cpL, tc_cpL, tz_cpL, eq_self, true_and, and_true, false_and, and_false, if_true, if_false, reduceIte, ite_true, ite_false, not_true_eq_false, not_false_eq_true, gq hq hqi', q0', q1', q5', q9', q10', frN_95 hfr, frR_95_7 hfr, h]
  have go : ∀ z, Ex 72 [aR (some (36, s')), aR (some (10, r))] (enc 1 a z) = Ru 72 2 [(0, aR (some (36, s'))), (1, aR (some (10, r))), (2, aI 0)] [] (enc 1 a z) := fun z => (X_in (by decide +kernel) h36 rfl).trans (lf_72_0 ..)
  by_cases h1 : tI b 87 0 (10 * p) = 1
  · -- it is asked for
    have hmem : p ∈ askL b (tZ a 29 0) s' := askL_mem.mpr ⟨hp, hps, h1⟩
    obtain ⟨j, hjl, hjp⟩ := List.getElem_of_mem hmem
    have hj : (askL b (tZ a 29 0) s')[j]? = some p := by rw [List.getElem?_eq_getElem hjl, hjp]
    have hjz : j < tZ a 18 s' := by rw [As_len hA1]; exact hjl
    have hR18 : tR a 18 s' j = some (38, p) := by
      obtain ⟨p', e1, e2, -⟩ := As_at hA1 hjz
      rw [hj] at e1
      rw [e2, Option.some.inj e1]
    have first : ∀ k q, k < j → (askL b (tZ a 29 0) s')[k]? = some q → q ≠ p := fun k q hk hq e => by
      subst e
      have hn := askL_nodup b (tZ a 29 0) s'
      obtain ⟨k1, k2⟩ := List.getElem?_eq_some_iff.mp hq
      obtain ⟨j1, j2⟩ := List.getElem?_eq_some_iff.mp hj
      exact (List.pairwise_iff_getElem.mp hn) k j k1 j1 hk (k2.trans j2.symm)
    have to := fun z => x72_to (z := z) hR hA1 hsh hr m1 hp j (by omega) first
    have hw : w = 1 ∨ w = 2 := by rcases q11 with ⟨e, -⟩ | ⟨e, -⟩ <;> simp [e]
    have hb : by' = 1 ∨ by' = 2 := by rcases q12 with ⟨e, -⟩ | ⟨e, -⟩ <;> simp [e]
    have eS : stp (tI a 37 cd 3).toInt64 (tI a 38 p 4) (tI a 38 p 3) (tI a 36 s' 0) 3 = pst b p 3 := by
      unfold pst
      rw [D5, u4, u3, T2, c3, hps]
    have f47 := fun z => x47 (a := a) (z := z) (p := p) (cd := cd) (sh := s') (r := r) (R := by' = 1 ∧ st = pst b p 3) h38 c2 h37 v2 h36 hr m6 m7 m8 m9 m10 hw hb (by rw [eS])
    have f244 := fun z => y244 (b := b) (z := z) (p := p) (n := tZ a 29 0) (cd := cd) (w := w) (by' := by') (rs := rs) (told := told) (st := st) (R := by' = 1 ∧ st = pst b p 3) hfr P4 P1 hp h1 c3 (by omega) q11 q12 Iff.rfl
    obtain ⟨g1, g2, g3, g4, g5, g6, g7, g8⟩ := hp_R0 (cd := cd) (w := w) (by' := by') (rs := rs) (told := told) (R := by' = 1 ∧ st = pst b p 3) hR hp c1 h1 hb
    have hNB := hpB_N b p cd w by' rs told (by' = 1 ∧ st = pst b p 3)
    have hAP : AnsP b (hpB b p cd w by' rs told (by' = 1 ∧ st = pst b p 3)) p w by' := ⟨g6, fun q => absurd h1 q, fun _ => hpB_s h1⟩
    generalize hpA a p cd w by' rs told (by' = 1 ∧ st = pst b p 3) = a1 at *
    generalize hpB b p cd w by' rs told (by' = 1 ∧ st = pst b p 3) = b1 at *
    have hd : dpk [] FpA [18, 27, 29] [(36, 0), (38, 0)] = true := by decide
    have z18 : ∀ s, tZ a1 18 s = tZ a 18 s := dZ g2 hd (s := 18) (by decide)
    have r18 : ∀ s k, tR a1 18 s k = tR a 18 s k := dR g2 hd (s := 18) (by decide)
    have n18 : tN a1 18 = tN a 18 := dN g2 hd (s := 18) (by decide)
    have k18 : ∀ s, tC a1 18 s = tC a 18 s := dC g2 hd (s := 18) (by decide)
    have z27 : tZ a1 27 0 = tZ a 27 0 := dZ g2 hd (s := 27) (by decide) 0
    have z29 : tZ a1 29 0 = tZ a 29 0 := dZ g2 hd (s := 29) (by decide) 0
    have n36 : tN a1 36 = tN a 36 := dNP g2 hd (s := 36) (k := 0) (by decide)
    have n38 : tN a1 38 = tN a 38 := dNP g2 hd (s := 38) (k := 0) (by decide)
    have r36 : tR a1 36 s' 6 = some (18, s') := (dRP g2 hd (s := 36) (k := 0) (by decide) s' 6).trans T8
    have hNall : ∀ s, tN a1 s = tN a s := fun s => (g2 s (by simp)).2.2.2.1
    have e7 : tI a1 38 p 7 = tI b1 87 0 (10 * p) := ((r_Q g1).1 p (by rw [z29]; exact hp)).2.1
    have i1 : ¬ Int32.ofNat j < 0 := o_lt0 (by omega)
    have i2 : (Int32.ofNat j).toNatClampNeg = j := o_ix (by omega)
    have i3 : ¬ Int32.ofNat (tZ a 18 s') ≤ Int32.ofNat j := by rw [o_le (by omega) (by omega)]; omega
    have h18' : s' < tN a1 18 := by rw [n18]; exact h18
    have h36' : s' < tN a1 36 := by rw [n36]; exact h36
    have h38' : p < tN a1 38 := by rw [n38]; exact h38
    have hjz' : j < tZ a1 18 s' := by rw [z18]; exact hjz
    have asO : ∀ s, s < tZ a 27 0 → s ≠ s' → askL b1 (tZ a 29 0) s = askL b (tZ a 29 0) s := fun s hs hne => askL_eq (fun p' _ => g5.2.1 p') (fun p' hp' e => by
      have : p' ≠ p := fun q => by
        subst q
        rw [hps] at e
        exact hne (o_inj (by omega) (by omega) e).symm
      rw [g6 p' this])
    have stt : ∀ p', tI b1 87 0 (10 * p') = tI b 87 0 (10 * p') ∨ tI b 87 0 (10 * p') = 1 ∧ tI b1 87 0 (10 * p') ≠ 1 := fun p' => by
      by_cases e : p' = p
      · subst e
        by_cases e1 : tI b1 87 0 (10 * p') = 1
        · exact Or.inl (e1.trans h1.symm)
        · exact Or.inr ⟨h1, e1⟩
      · exact Or.inl (g6 p' e)
    by_cases h1' : tI b1 87 0 (10 * p) = 1
    · -- it asks on
      refine ⟨a1, b1, fun z => ?_, fun z => y209 b1 z f244, g1, ⟨fun s hs => ?_, fun p' hp' => by rw [g5.2.2.2.2.1 p', dI g3 (S := []) (P := [(95, 1)]) (s := 95) (k := 1) (by decide) (by simp)]; exact hA.2 p' (by rw [z29] at hp'; exact hp')⟩, chF_m g2 (by simp) DpA_m, g3, g4, g5, stt, g7, g8, hNall, hNB, hAP⟩
      · rw [go, to, lf_72_2]
        rw [h1'] at e7
        simp (config := {decide := true}) only [gfI_enc, gfL_enc, gfR_enc, pfI_enc, pfL_enc, pfR_enc, Option.bind_some, cI_v, cL_v, cF_v, cD_v, cR_v, cV_v, cI_x, cL_x, cR_x, cV_x, gz_0, gz_1, acc_enc, tI_sI, tL_sI, tR_sI, tN_sI, tZ_sI, tC_sI, tc_sI, tz_sI, tI_sL, tL_sL, tR_sL, tN_sL, tZ_sL, tC_sL, tc_sL, tz_sL, tI_sR, tL_sR, tR_sR, tN_sR, tZ_sR, tC_sR, tc_sR, tz_sR, tI_sZ, tL_sZ, tR_sZ, tN_sZ, tZ_sZ, tC_sZ, tc_sZ, tz_sZ, tI_sC, tL_sC, tR_sC, tN_sC, tZ_sC, tC_sC, tc_sC, tz_sC, tI_aC, tL_aC, tR_aC, tN_aC, tZ_aC, tC_aC, tc_aC, tz_aC, tI_rmL, tL_rmL, tR_rmL, tN_rmL, tZ_rmL, tC_rmL, tc_rmL, tz_rmL, tI_mk, tL_mk, tR_mk, tN_mk, tZ_mk, tC_mk, tc_mk, tz_mk, tI_pushL, tL_pushL, tR_pushL, tN_pushL, tZ_pushL, tC_pushL, tc_pushL, tz_pushL, tI_pushB, tL_pushB, tR_pushB, tN_pushB, tZ_pushB, tC_pushB, tc_pushB, tz_pushB, tI_cpL, tL_cpL, tR_cpL, tN_cpL, tZ_cpL, tC_cpL, tc_cpL, tz_cpL, eq_self, true_and, and_true, false_and, and_false, if_true, if_false, reduceIte, ite_true, ite_false, not_true_eq_false, not_false_eq_true, h36, T8, X405, X402, h18, i1, i2, i3, hjz, hR18, acc_enc, h38, u1, hr, m1, f47, h38', e7]
      · rw [z27] at hs
        have hA2 := hA.1 s hs
        unfold As1 capOK at *
        rw [z18, k18, z29, show tR a1 18 s = tR a 18 s from funext (r18 s), askL_eq (fun p' _ => g5.2.1 p') (fun p' hp' _ => by
          by_cases e : p' = p
          · subst e; rw [h1', h1]
          · rw [g6 p' e])]
        exact hA2
    · -- it asks no more
      have ca : chF [18] [] a1 (rmL a1 18 s' j) := chF_g (chg_rmL (by simp) (chg_r _ _))
      have cb : chF [] [] b1 b1 := chF_r _ _ _
      have wa : Wr a1 (rmL a1 18 s' j) := (Wr.rf _).cX _ _ _ (by decide +kernel)
      have wb : Wr b1 b1 := Wr.rf _
      have hR2 : R0 (rmL a1 18 s' j) b1 := by
        have ha := ca
        have hb := cb
        obtain ⟨hFC, hFR, hB, hS, hM, hW, hV, hC, hD, hE, hP, hQ, hH, hK, hG, hO, hZ⟩ := g1
        have hS2 : RS (rmL a1 18 s' j) b1 := RS_w hS ha hb (by decide) (by decide) rfl rfl rfl rfl rfl (fun _ => rfl)
        exact ⟨FxC_s hFC wa ha (by decide), FxR_s hFR wb hb (by decide), RB_c hB ha hb (by decide) (by decide), hS2, RM_c hM ha hb (by decide) (by decide), RW_c hW ha hb (by decide) (by decide), RV_c hV ha hb (by decide) (by decide), RC_c hC ha hb (by decide) (by decide), RD_c hD ha hb (by decide) (by decide), RE_c hE ha hb (by decide) (by decide), RP_c hP ha hb (by decide) (by decide), RQ_c hQ ha hb (by decide) (by decide), RH_c hH ha hb (by decide) (by decide), RK_c hK ha hb (by decide) (by decide) (gro_c ha (by decide)) (gro_c ha (by decide)) (gro_c ha (by decide)) (gro_c ha (by decide)), RG_c hG ha hb (by decide) (by decide), RO_c hO ha hb (by decide) (by decide), RZ_c hZ ha hb (by decide) (by decide)⟩
      refine ⟨rmL a1 18 s' j, b1, fun z => ?_, fun z => y209 b1 z f244, hR2, ⟨fun s hs => ?_, fun p' hp' => by rw [g5.2.2.2.2.1 p', dI g3 (S := []) (P := [(95, 1)]) (s := 95) (k := 1) (by decide) (by simp)]; exact hA.2 p' (by rw [← z29]; exact hp')⟩, chF_t (chF_m g2 (by simp) DpA_m) (chF_m ca (by simp) (by simp)), g3, PS_t g4 (PS_c ca cb (by decide) (by decide)), g5, stt, g7.t wa, g8, hNall, hNB, hAP⟩
      · rw [go, to, lf_72_2]
        rw [← e7] at h1'
        simp (config := {decide := true}) only [gfI_enc, gfL_enc, gfR_enc, pfI_enc, pfL_enc, pfR_enc, Option.bind_some, cI_v, cL_v, cF_v, cD_v, cR_v, cV_v, cI_x, cL_x, cR_x, cV_x, gz_0, gz_1, acc_enc, tI_sI, tL_sI, tR_sI, tN_sI, tZ_sI, tC_sI, tc_sI, tz_sI, tI_sL, tL_sL, tR_sL, tN_sL, tZ_sL, tC_sL, tc_sL, tz_sL, tI_sR, tL_sR, tR_sR, tN_sR, tZ_sR, tC_sR, tc_sR, tz_sR, tI_sZ, tL_sZ, tR_sZ, tN_sZ, tZ_sZ, tC_sZ, tc_sZ, tz_sZ, tI_sC, tL_sC, tR_sC, tN_sC, tZ_sC, tC_sC, tc_sC, tz_sC, tI_aC, tL_aC, tR_aC, tN_aC, tZ_aC, tC_aC, tc_aC, tz_aC, tI_rmL, tL_rmL, tR_rmL, tN_rmL, tZ_rmL, tC_rmL, tc_rmL, tz_rmL, tI_mk, tL_mk, tR_mk, tN_mk, tZ_mk, tC_mk, tc_mk, tz_mk, tI_pushL, tL_pushL, tR_pushL, tN_pushL, tZ_pushL, tC_pushL, tc_pushL, tz_pushL, tI_pushB, tL_pushB, tR_pushB, tN_pushB, tZ_pushB, tC_pushB, tc_pushB, tz_pushB, tI_cpL, tL_cpL, tR_cpL, tN_cpL, tZ_cpL, tC_cpL, tc_cpL, tz_cpL, eq_self, true_and, and_true, false_and, and_false, if_true, if_false, reduceIte, ite_true, ite_false, not_true_eq_false, not_false_eq_true, h36, T8, X405, X402, h18, i1, i2, i3, hjz, hR18, acc_enc, h38, u1, hr, m1, f47, h38', h1', h36', r36, X404, h18', hjz']
      · have hs : s < tZ a1 27 0 := hs
        rw [z27] at hs
        have hA2 := hA.1 s hs
        by_cases e : s = s'
        · subst e
          refine ⟨?_, ?_⟩
          · obtain ⟨x1, x2, x3⟩ := hA2.1
            unfold capOK
            rw [tZ_rmL, if_pos ⟨rfl, rfl⟩]
            show tZ a1 18 s - 1 ≤ tC a1 18 s ∧ tC a1 18 s < 3000 ∧ (tC a1 18 s = 0 ∨ 10 ≤ tC a1 18 s)
            rw [z18, k18]
            exact ⟨by omega, x2, x3⟩
          · rw [rm_map a1 18 s j hjz', z18, show tR a1 18 s = tR a 18 s from funext (r18 s), hA2.2]
            show _ = List.map (fun p => some (38, p)) (askL b1 (tZ a1 29 0) s)
            rw [z29, askL_rm (fun p' _ => g5.2.1 p') g6 h1', ← nodup_er (askL_nodup b _ s) hj, map_er]
        · unfold As1 capOK at *
          rw [tZ_rmL, if_neg (fun q => e q.2)]
          have t1 : tR (rmL a1 18 s' j) 18 s = tR a 18 s := funext fun k => by rw [tR_rmL, if_neg (fun q => e q.2)]; exact r18 s k
          rw [t1]
          show (tZ a1 18 s ≤ tC a1 18 s ∧ tC a1 18 s < 3000 ∧ (tC a1 18 s = 0 ∨ 10 ≤ tC a1 18 s)) ∧ (List.range (tZ a1 18 s)).map (tR a 18 s) = List.map (fun p => some (38, p)) (askL b1 (tZ a1 29 0) s)
          rw [z18, k18, z29, asO s hs e]
          exact hA2
  · -- it isn't asked for
    have none : ∀ k q, k < tZ a 18 s' → (askL b (tZ a 29 0) s')[k]? = some q → q ≠ p := fun k q _ hq e => by
      subst e
      exact h1 (askL_mem.mp (List.mem_of_getElem? hq)).2.2
    have to := fun z => x72_to (z := z) hR hA1 hsh hr m1 hp (tZ a 18 s') (Nat.le_refl _) none
    have f244 := fun z => y244_n (b := b) (z := z) (p := p) (n := tZ a 29 0) (rs := rs) (told := told) (st := st) (g := tI b qs qi 11) (i := tI b qs qi 12) hfr P4 P1 hp h1
    have i3 : Int32.ofNat (tZ a 18 s') ≤ Int32.ofNat (tZ a 18 s') := Int32.le_refl _
    refine ⟨a, b, fun z => ?_, fun z => y209 b z f244, hR, hA, chF_r _ _ _, chF_r _ _ _, PS_r a b, W87_r b, fun _ => Or.inl rfl, Wr.rf _, Wr.rf _, fun _ => rfl, fun _ => rfl, fun _ _ => rfl, fun _ => rfl, fun q => absurd q h1⟩
    rw [go, to, lf_72_2]
    simp (config := {decide := true}) only [gfI_enc, gfL_enc, gfR_enc, pfI_enc, pfL_enc, pfR_enc, Option.bind_some, cI_v, cL_v, cF_v, cD_v, cR_v, cV_v, cI_x, cL_x, cR_x, cV_x, gz_0, gz_1, acc_enc, tI_sI, tL_sI, tR_sI, tN_sI, tZ_sI, tC_sI, tc_sI, tz_sI, tI_sL, tL_sL, tR_sL, tN_sL, tZ_sL, tC_sL, tc_sL, tz_sL, tI_sR, tL_sR, tR_sR, tN_sR, tZ_sR, tC_sR, tc_sR, tz_sR, tI_sZ, tL_sZ, tR_sZ, tN_sZ, tZ_sZ, tC_sZ, tc_sZ, tz_sZ, tI_sC, tL_sC, tR_sC, tN_sC, tZ_sC, tC_sC, tc_sC, tz_sC, tI_aC, tL_aC, tR_aC, tN_aC, tZ_aC, tC_aC, tc_aC, tz_aC, tI_rmL, tL_rmL, tR_rmL, tN_rmL, tZ_rmL, tC_rmL, tc_rmL, tz_rmL, tI_mk, tL_mk, tR_mk, tN_mk, tZ_mk, tC_mk, tc_mk, tz_mk, tI_pushL, tL_pushL, tR_pushL, tN_pushL, tZ_pushL, tC_pushL, tc_pushL, tz_pushL, tI_pushB, tL_pushB, tR_pushB, tN_pushB, tZ_pushB, tC_pushB, tc_pushB, tz_pushB, tI_cpL, tL_cpL, tR_cpL, tN_cpL, tZ_cpL, tC_cpL, tc_cpL, tz_cpL, eq_self, true_and, and_true, false_and, and_false, if_true, if_false, reduceIte, ite_true, ite_false, not_true_eq_false, not_false_eq_true, h36, T8, X405, h18, i3]
