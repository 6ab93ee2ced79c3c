/-! ===== what a run leaves as it was, by fields ===== -/
def chF (D : List Nat) (F : List (Nat × Nat)) (a a' : TS) : Prop := ∀ s, s ∉ D → (∀ i k, (s, k) ∉ F → tI a' s i k = tI a s i k) ∧ (∀ i k, (s, k) ∉ F → tL a' s i k = tL a s i k) ∧ (∀ i k, tR a' s i k = tR a s i k) ∧ tN a' s = tN a s ∧ (∀ i, tZ a' s i = tZ a s i) ∧ ∀ i, tC a' s i = tC a s i
theorem chF_r (D : List Nat) (F : List (Nat × Nat)) (a : TS) : chF D F a a := fun _ _ => ⟨fun _ _ _ => rfl, fun _ _ _ => rfl, fun _ _ => rfl, rfl, fun _ => rfl, fun _ => rfl⟩
theorem chF_t {D : List Nat} {F : List (Nat × Nat)} {a b c : TS} (h1 : chF D F a b) (h2 : chF D F b c) : chF D F a c := fun s hs => by
  obtain ⟨a1, a2, a3, a4, a5, a6⟩ := h1 s hs
  obtain ⟨b1, b2, b3, b4, b5, b6⟩ := h2 s hs
  exact ⟨fun i k h => (b1 i k h).trans (a1 i k h), fun i k h => (b2 i k h).trans (a2 i k h), fun i k => (b3 i k).trans (a3 i k), b4.trans a4, fun i => (b5 i).trans (a5 i), fun i => (b6 i).trans (a6 i)⟩
theorem chF_m {D D' : List Nat} {F F' : List (Nat × Nat)} {a b : TS} (h : chF D F a b) (hD : ∀ s ∈ D, s ∈ D') (hF : ∀ q ∈ F, q ∈ F' ∨ q.1 ∈ D') : chF D' F' a b := fun s hs => by
  obtain ⟨a1, a2, a3, a4, a5, a6⟩ := h s (fun q => hs (hD s q))
  exact ⟨fun i k hk => a1 i k (fun q => (hF _ q).elim hk (fun z => hs z)), fun i k hk => a2 i k (fun q => (hF _ q).elim hk (fun z => hs z)), a3, a4, a5, a6⟩
theorem chF_g {D : List Nat} {F : List (Nat × Nat)} {a b : TS} (h : chg D a b) : chF D F a b := fun s hs => by
  obtain ⟨a1, a2, a3, a4, a5, a6⟩ := h s hs
  exact ⟨fun i k _ => a1 i k, fun i k _ => a2 i k, a3, a4, a5, a6⟩
theorem chF_I {D : List Nat} {F : List (Nat × Nat)} {a b : TS} {s i k : Nat} {v : Int32} (hs : s ∈ D ∨ (s, k) ∈ F) (h : chF D F a b) : chF D F a (sI b s i k v) := chF_t h (fun t ht => by
  refine ⟨fun i' k' hk => (tI_sI ..).trans (if_neg (fun q => ?_)), fun _ _ _ => rfl, fun _ _ => rfl, rfl, fun _ => rfl, fun _ => rfl⟩
  rcases hs with h | h
  · exact ht (q.1 ▸ h)
  · exact hk (by rw [q.1, q.2.2]; exact h))
theorem chF_L {D : List Nat} {F : List (Nat × Nat)} {a b : TS} {s i k : Nat} {v : Int64} (hs : s ∈ D ∨ (s, k) ∈ F) (h : chF D F a b) : chF D F a (sL b s i k v) := chF_t h (fun t ht => by
  refine ⟨fun _ _ _ => rfl, fun i' k' hk => (tL_sL ..).trans (if_neg (fun q => ?_)), fun _ _ => rfl, rfl, fun _ => rfl, fun _ => rfl⟩
  rcases hs with h | h
  · exact ht (q.1 ▸ h)
  · exact hk (by rw [q.1, q.2.2]; exact h))
theorem chF_R {D : List Nat} {F : List (Nat × Nat)} {a b : TS} {s i k : Nat} {v : Option (Nat × Nat)} (hs : s ∈ D) (h : chF D F a b) : chF D F a (sR b s i k v) := chF_t h (chF_g (chg_sR hs (chg_r _ _)))
/-- does a part that rests on the sites S and the fields P stand -/
def dpk (D : List Nat) (F : List (Nat × Nat)) (S : List Nat) (P : List (Nat × Nat)) : Bool := S.all (fun s => !D.contains s && F.all (fun q => !Nat.beq q.1 s)) && P.all (fun q => !D.contains q.1 && !F.contains q)
theorem dpk_S {D : List Nat} {F : List (Nat × Nat)} {S : List Nat} {P : List (Nat × Nat)} (h : dpk D F S P = true) {s : Nat} (hs : s ∈ S) : s ∉ D ∧ ∀ k, (s, k) ∉ F := by
  unfold dpk at h
  rw [Bool.and_eq_true] at h
  have h1 := List.all_eq_true.mp h.1 s hs
  rw [Bool.and_eq_true] at h1
  refine ⟨fun q => ?_, fun k q => ?_⟩
  · have := h1.1
    rw [List.contains_iff_mem.mpr q] at this
    cases this
  · have := List.all_eq_true.mp h1.2 _ q
    dsimp only at this
    rw [beq_tt rfl] at this
    cases this
theorem dpk_P {D : List Nat} {F : List (Nat × Nat)} {S : List Nat} {P : List (Nat × Nat)} (h : dpk D F S P = true) {q : Nat × Nat} (hq : q ∈ P) : q.1 ∉ D ∧ q ∉ F := by
  unfold dpk at h
  rw [Bool.and_eq_true] at h
  have h1 := List.all_eq_true.mp h.2 q hq
  rw [Bool.and_eq_true] at h1
  refine ⟨fun z => ?_, fun z => ?_⟩
  · have := h1.1
    rw [List.contains_iff_mem.mpr z] at this
    cases this
  · have := h1.2
    rw [List.contains_iff_mem.mpr z] at this
    cases this
variable {D : List Nat} {F : List (Nat × Nat)} {S : List Nat} {P : List (Nat × Nat)} {a a' : TS}
theorem dI (h : chF D F a a') (hd : dpk D F S P = true) {s k : Nat} (hs : (s, k) ∈ P) : ∀ i, tI a' s i k = tI a s i k := fun i => ((h s (dpk_P hd hs).1).1 i k (dpk_P hd hs).2)
theorem dL (h : chF D F a a') (hd : dpk D F S P = true) {s k : Nat} (hs : (s, k) ∈ P) : ∀ i, tL a' s i k = tL a s i k := fun i => ((h s (dpk_P hd hs).1).2.1 i k (dpk_P hd hs).2)
theorem dIS (h : chF D F a a') (hd : dpk D F S P = true) {s : Nat} (hs : s ∈ S) : ∀ i k, tI a' s i k = tI a s i k := fun i k => ((h s (dpk_S hd hs).1).1 i k ((dpk_S hd hs).2 k))
theorem dLS (h : chF D F a a') (hd : dpk D F S P = true) {s : Nat} (hs : s ∈ S) : ∀ i k, tL a' s i k = tL a s i k := fun i k => ((h s (dpk_S hd hs).1).2.1 i k ((dpk_S hd hs).2 k))
theorem dR (h : chF D F a a') (hd : dpk D F S P = true) {s : Nat} (hs : s ∈ S) : ∀ i k, tR a' s i k = tR a s i k := (h s (dpk_S hd hs).1).2.2.1
theorem dN (h : chF D F a a') (hd : dpk D F S P = true) {s : Nat} (hs : s ∈ S) : tN a' s = tN a s := (h s (dpk_S hd hs).1).2.2.2.1
theorem dZ (h : chF D F a a') (hd : dpk D F S P = true) {s : Nat} (hs : s ∈ S) : ∀ i, tZ a' s i = tZ a s i := (h s (dpk_S hd hs).1).2.2.2.2.1
theorem dC (h : chF D F a a') (hd : dpk D F S P = true) {s : Nat} (hs : s ∈ S) : ∀ i, tC a' s i = tC a s i := (h s (dpk_S hd hs).1).2.2.2.2.2
theorem dRP (h : chF D F a a') (hd : dpk D F S P = true) {s k : Nat} (hs : (s, k) ∈ P) : ∀ i k', tR a' s i k' = tR a s i k' := (h s (dpk_P hd hs).1).2.2.1
theorem dNP (h : chF D F a a') (hd : dpk D F S P = true) {s k : Nat} (hs : (s, k) ∈ P) : tN a' s = tN a s := (h s (dpk_P hd hs).1).2.2.2.1
theorem dZP (h : chF D F a a') (hd : dpk D F S P = true) {s k : Nat} (hs : (s, k) ∈ P) : ∀ i, tZ a' s i = tZ a s i := (h s (dpk_P hd hs).1).2.2.2.2.1
/-! fixed pointers stand -/
theorem FxC_s {D : List Nat} {F : List (Nat × Nat)} {a a' : TS} (h : FxC a) (hs : Wr a a') (ha : chF D F a a') (hd : dpk D [] (24 :: 30 :: 31 :: 96 :: sB) [] = true) : FxC a' := by
  have tr : ∀ s, s ∈ [24, 30, 31, 96] → ∀ i k, tR a' s i k = tR a s i k := fun s hm => (ha s (dpk_S hd (by simp only [List.mem_cons, List.not_mem_nil, or_false] at hm ⊢; omega)).1).2.2.1
  have nB : ∀ s, s ∈ sB → tN a' s = tN a s := fun s hm => (ha s (dpk_S hd (List.mem_cons_of_mem _ (List.mem_cons_of_mem _ (List.mem_cons_of_mem _ (List.mem_cons_of_mem _ hm))))).1).2.2.2.1
  have lt : ∀ {s}, 0 < tN a s → 0 < tN a' s := fun {s} q => Nat.lt_of_lt_of_le q (hs.N s)
  have z14 := hs.Z (s := 14) (i := 0) (by decide +kernel) (by decide +kernel) (fcN_14 h)
  have z3 := hs.Z (s := 3) (i := 0) (by decide +kernel) (by decide +kernel) (fcN_3 h)
  obtain ⟨hB0, h0, h1, h2, h3, h4, h5, h6, h7, h8, h9, h10, h11, h12, h13⟩ := h
  refine ⟨fun s hm => (nB s hm).trans (hB0 s hm), lt h0, lt h1, lt h2, lt h3, lt h4, lt h5, lt h6, lt h7, lt h8, lt h9, lt h10, lt h11, lt h12, ?_⟩
  rw [tr 96 (by simp), tr 96 (by simp), tr 96 (by simp), tr 96 (by simp), tr 96 (by simp), tr 96 (by simp), tr 96 (by simp), tr 96 (by simp), tr 24 (by simp), tr 24 (by simp), tr 30 (by simp), tr 30 (by simp), tr 30 (by simp), tr 31 (by simp), z14, z3]
  exact h13
theorem FxR_s {D : List Nat} {F : List (Nat × Nat)} {b b' : TS} (h : FxR b) (hs : Wr b b') (hb : chF D F b b') (hd : dpk D [] (59 :: 91 :: 92 :: 93 :: 94 :: 95 :: 97 :: sA) [] = true) : FxR b' := by
  have tr : ∀ s, s ∈ [59, 91, 92, 93, 94, 95, 97] → ∀ i k, tR b' s i k = tR b s i k := fun s hm => (hb s (dpk_S hd (by simp only [List.mem_cons, List.not_mem_nil, or_false] at hm ⊢; omega)).1).2.2.1
  have nA0 : ∀ s, s ∈ sA → tN b' s = 0 := fun s hm => (hb s (dpk_S hd (List.mem_cons_of_mem _ (List.mem_cons_of_mem _ (List.mem_cons_of_mem _ (List.mem_cons_of_mem _ (List.mem_cons_of_mem _ (List.mem_cons_of_mem _ (List.mem_cons_of_mem _ hm)))))))).1).2.2.2.1.trans (h.1 s hm)
  have lt : ∀ {s}, 0 < tN b s → 0 < tN b' s := fun {s} q => Nat.lt_of_lt_of_le q (hs.N s)
  have le : ∀ {s}, 4 ≤ tN b s → 4 ≤ tN b' s := fun {s} q => Nat.le_trans q (hs.N s)
  have tz : ∀ s, 0 < tN b s → (kd s ≠ 2000) → (kd s ≠ 1000000) → tZ b' s 0 = tZ b s 0 := fun s h1 h2 h3 => hs.Z h2 h3 h1
  have zz : ∀ s i, i < tN b s → (kd s ≠ 2000) → (kd s ≠ 1000000) → tZ b' s i = tZ b s i := fun s i h1 h2 h3 => hs.Z h2 h3 h1
  exact ⟨nA0, lt (fr0 h), lt (fr1 h), lt (fr2 h), lt (fr3 h), lt (fr4 h), lt (fr5 h), lt (fr6 h), lt (fr7 h), lt (fr8 h), lt (fr9 h), lt (fr10 h), lt (fr11 h), lt (fr12 h), lt (fr13 h), lt (fr14 h), lt (fr15 h), lt (fr16 h), lt (fr17 h), lt (fr18 h), lt (fr19 h), lt (fr20 h), lt (fr21 h), lt (fr22 h), lt (fr23 h), lt (fr24 h), lt (fr25 h), lt (fr26 h), lt (fr27 h), lt (fr28 h), lt (fr29 h), lt (fr30 h), lt (fr31 h), lt (fr32 h), lt (fr33 h), lt (fr34 h), lt (fr35 h), lt (fr36 h), le (fr37 h), (tr 97 (by simp) 0 0).trans (fr38 h), (tr 97 (by simp) 0 1).trans (fr39 h), (tr 97 (by simp) 0 2).trans (fr40 h), (tr 97 (by simp) 0 3).trans (fr41 h), (tr 97 (by simp) 0 4).trans (fr42 h), (tr 91 (by simp) 0 0).trans (fr43 h), (tr 91 (by simp) 0 1).trans (fr44 h), (tr 91 (by simp) 0 2).trans (fr45 h), (tr 91 (by simp) 0 3).trans (fr46 h), (tr 91 (by simp) 0 4).trans (fr47 h), (tz 43 (frN_43 h) (by decide +kernel) (by decide +kernel)).trans (fr48 h), (tz 44 (frN_44 h) (by decide +kernel) (by decide +kernel)).trans (fr49 h), (tz 45 (frN_45 h) (by decide +kernel) (by decide +kernel)).trans (fr50 h), (tz 46 (frN_46 h) (by decide +kernel) (by decide +kernel)).trans (fr51 h), (tz 47 (frN_47 h) (by decide +kernel) (by decide +kernel)).trans (fr52 h), (tz 53 (frN_53 h) (by decide +kernel) (by decide +kernel)).trans (fr53 h), (tz 54 (frN_54 h) (by decide +kernel) (by decide +kernel)).trans (fr54 h), (tz 55 (frN_55 h) (by decide +kernel) (by decide +kernel)).trans (fr55 h), (tz 56 (frN_56 h) (by decide +kernel) (by decide +kernel)).trans (fr56 h), (tz 57 (frN_57 h) (by decide +kernel) (by decide +kernel)).trans (fr57 h), (tz 58 (frN_58 h) (by decide +kernel) (by decide +kernel)).trans (fr58 h), (tz 59 (frN_59 h) (by decide +kernel) (by decide +kernel)).trans (fr59 h), (tz 65 (frN_65 h) (by decide +kernel) (by decide +kernel)).trans (fr60 h), (tz 66 (frN_66 h) (by decide +kernel) (by decide +kernel)).trans (fr61 h), (tz 67 (frN_67 h) (by decide +kernel) (by decide +kernel)).trans (fr62 h), (tz 68 (frN_68 h) (by decide +kernel) (by decide +kernel)).trans (fr63 h), (tz 69 (frN_69 h) (by decide +kernel) (by decide +kernel)).trans (fr64 h), (tz 70 (frN_70 h) (by decide +kernel) (by decide +kernel)).trans (fr65 h), (tz 71 (frN_71 h) (by decide +kernel) (by decide +kernel)).trans (fr66 h), (tz 72 (frN_72 h) (by decide +kernel) (by decide +kernel)).trans (fr67 h), (tz 73 (frN_73 h) (by decide +kernel) (by decide +kernel)).trans (fr68 h), (tz 82 (frN_82 h) (by decide +kernel) (by decide +kernel)).trans (fr69 h), (tz 83 (frN_83 h) (by decide +kernel) (by decide +kernel)).trans (fr70 h), (tz 84 (frN_84 h) (by decide +kernel) (by decide +kernel)).trans (fr71 h), (tz 85 (frN_85 h) (by decide +kernel) (by decide +kernel)).trans (fr72 h), (tz 86 (frN_86 h) (by decide +kernel) (by decide +kernel)).trans (fr73 h), (tz 87 (frN_87 h) (by decide +kernel) (by decide +kernel)).trans (fr74 h), (tz 88 (frN_88 h) (by decide +kernel) (by decide +kernel)).trans (fr75 h), (tz 89 (frN_89 h) (by decide +kernel) (by decide +kernel)).trans (fr76 h), (tz 90 (frN_90 h) (by decide +kernel) (by decide +kernel)).trans (fr77 h), (tr 93 (by simp) 0 0).trans (fr78 h), (tr 93 (by simp) 0 1).trans (fr79 h), (tr 93 (by simp) 0 2).trans (fr80 h), (tr 93 (by simp) 0 3).trans (fr81 h), (tr 93 (by simp) 0 4).trans (fr82 h), (tr 93 (by simp) 0 5).trans (fr83 h), (tr 93 (by simp) 0 11).trans (fr84 h), (tr 94 (by simp) 0 0).trans (fr85 h), (tr 94 (by simp) 0 1).trans (fr86 h), (tr 94 (by simp) 0 2).trans (fr87 h), (tr 94 (by simp) 0 3).trans (fr88 h), (tr 94 (by simp) 0 4).trans (fr89 h), (tr 94 (by simp) 0 5).trans (fr90 h), (tr 94 (by simp) 0 7).trans (fr91 h), (tr 94 (by simp) 0 8).trans (fr92 h), (tr 94 (by simp) 0 9).trans (fr93 h), (tr 95 (by simp) 0 7).trans (fr94 h), (tr 95 (by simp) 0 8).trans (fr95 h), (tr 95 (by simp) 0 10).trans (fr96 h), (tr 95 (by simp) 0 11).trans (fr97 h), (tr 95 (by simp) 0 12).trans (fr98 h), (tr 95 (by simp) 0 13).trans (fr99 h), (tr 95 (by simp) 0 14).trans (fr100 h), (tr 95 (by simp) 0 15).trans (fr101 h), (tr 95 (by simp) 0 16).trans (fr102 h), (tr 95 (by simp) 0 17).trans (fr103 h), (tr 95 (by simp) 0 18).trans (fr104 h), (tr 92 (by simp) 0 0).trans (fr105 h), (tr 92 (by simp) 0 1).trans (fr106 h), (tr 92 (by simp) 0 2).trans (fr107 h), (tr 92 (by simp) 0 9).trans (fr108 h), fun s hs4 => ⟨(tr 59 (by simp) 0 s).trans (fr_rows h s hs4).1, (zz 60 s (Nat.lt_of_lt_of_le hs4 (fr37 h)) (by decide +kernel) (by decide +kernel)).trans (fr_rows h s hs4).2⟩⟩
