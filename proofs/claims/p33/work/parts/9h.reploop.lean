/-! ===== the loop that puts again ===== -/
/-- what is kept is no ASK -/
theorem kept_q0 {a b : TS} {s : Nat} {g q : Nat → Int32} (h : upM a b s g q) (hk : kcd a b s g) : q 0 ≠ 0 := by
  obtain ⟨-, -, -, -, u⟩ := h
  rcases u with ⟨v1, -⟩ | ⟨-, v2, -⟩ | ⟨-, v2, -⟩ | ⟨-, v2, -⟩
  · rcases hk with ⟨e, -⟩ | ⟨e, -⟩ | ⟨e, -⟩ <;> rw [v1] at e <;> exact absurd e (by decide)
  all_goals (rw [v2]; decide)
abbrev Ent := Int32 × (Nat → Int32)
/-- a property of a shop's way up: how many are newly kept, when they were put, the line, its faults, its slots -/
abbrev UpQ := Nat → List Nat → List Ent → (Nat → Int32) → Nat → Prop
def RepOK (T : Nat) (td : Int32) (Q : UpQ) : Prop := ∀ n P U f z k l g, g 0 ≠ 0 → Q n P U f z → P[k]? = some l → l + 10 ≤ T → Q n (P.set k T) (U ++ laid (fK f) td g) (fR f) (max z (U ++ laid (fK f) td g).length)
def KeepOK (T : Nat) (td : Int32) (Q : UpQ) : Prop := ∀ n P U f z g, g 0 ≠ 0 → Q n P U f z → Q (n + 1) (P ++ [T]) (U ++ laid (fK f) td g) (fR f) (max z (U ++ laid (fK f) td g).length)
def LimQ (N : Nat) (Q : UpQ) : Prop := ∀ n P U f z, n ≤ N → Q n P U f z → z < 29998 ∧ U.length < 90000
def atQ (Q : UpQ) (n : Nat) (a b : TS) (sh : Nat) : Prop := Q n (KTs a b sh) (vQ b (2 * sh)) (tI b 48 (2 * sh)) (tZ a 9 (2 * sh))
def DrpB : List Nat := [48, 49, 50, 51, 52, 67, 74, 75]
def RepF (a a' b b' : TS) (sh : Nat) : Prop :=
  PS a a' b b' ∧ chF [8, 9, 10, 21, 22] FkA a a' ∧ chF DrpB [] b b' ∧ groQ b b' ∧ Wr a a' ∧ Wr b b' ∧ (∀ s, s ≠ 10 → tN a' s = tN a s) ∧ (∀ s, s ≠ 51 → s ≠ 52 → tN b' s = tN b s) ∧
  (∀ c', c' < 2 * tZ a 27 0 → c' ≠ 2 * sh → vA a' c' = vA a c' ∧ vQ b' c' = vQ b c' ∧ tZ a' 9 c' = tZ a 9 c' ∧ tI b' 48 c' = tI b 48 c') ∧ (∀ s, s < tZ a 27 0 → s ≠ sh → KTs a' b' s = KTs a b s)
theorem RepF_r (a b : TS) (sh : Nat) : RepF a a b b sh := ⟨PS_r a b, chF_r _ _ _, chF_r _ _ _, fun s _ => gro_r b s, Wr.rf _, Wr.rf _, fun _ _ => rfl, fun _ _ _ => rfl, fun _ _ _ => ⟨rfl, rfl, rfl, rfl⟩, fun _ _ _ => rfl⟩
theorem RepF_z {a a' b b' : TS} {sh : Nat} (h : RepF a a' b b' sh) : tZ a' 27 0 = tZ a 27 0 ∧ (∀ s, tZ a' 19 s = tZ a 19 s) ∧ tI b' 95 0 1 = tI b 95 0 1 ∧ tI b' 95 0 2 = tI b 95 0 2 :=
  ⟨dZ h.2.1 (S := [27]) (P := []) (s := 27) (by decide) (by simp) 0, dZ h.2.1 (S := [19]) (P := []) (s := 19) (by decide) (by simp), dIS h.2.2.1 (S := [95]) (P := []) (s := 95) (by decide) (by simp) 0 1, dIS h.2.2.1 (S := [95]) (P := []) (s := 95) (by decide) (by simp) 0 2⟩
theorem RepF_t {a a1 a2 b b1 b2 : TS} {sh : Nat} (h1 : RepF a a1 b b1 sh) (h2 : RepF a1 a2 b1 b2 sh) : RepF a a2 b b2 sh := by
  have z := (RepF_z h1).1
  obtain ⟨x1, x2, x3, x4, x5, x6, x7, x8, x9, x10⟩ := h1
  obtain ⟨y1, y2, y3, y4, y5, y6, y7, y8, y9, y10⟩ := h2
  refine ⟨PS_t x1 y1, chF_t x2 y2, chF_t x3 y3, groQ_t x4 y4, x5.t y5, x6.t y6, fun s h => (y7 s h).trans (x7 s h), fun s h h' => (y8 s h h').trans (x8 s h h'), fun c' h h' => ?_, fun s h h' => (y10 s (by omega) h').trans (x10 s h h')⟩
  obtain ⟨u1, u2, u3, u4⟩ := x9 c' h h'
  obtain ⟨v1, v2, v3, v4⟩ := y9 c' (by omega) h'
  exact ⟨v1.trans u1, v2.trans u2, v3.trans u3, v4.trans u4⟩
theorem i32_ge {T l : Nat} (hT : T ≤ 3000) (hl : l ≤ 3000) : (10 ≤ Int32.ofNat T - Int32.ofNat l) ↔ l + 10 ≤ T := by
  rw [Int32.le_iff_toInt_le, Int32.toInt_sub, Int32.toInt_ofNat_of_lt (by omega), Int32.toInt_ofNat_of_lt (by omega)]
  have h10 : (10 : Int32).toInt = 10 := rfl
  rw [h10, Int.bmod_eq_of_le (by omega) (by omega)]
  omega
/-- a kept message is put again -/
def EvR (a b a' b' : TS) : Prop := ∃ sh k c i q l T, sh < tZ a 27 0 ∧ k < tZ a 19 sh ∧ kR3 a b sh k = (some (c, i), some q, Int32.ofNat l) ∧ tI b 95 0 1 = Int32.ofNat T ∧ l + 10 ≤ T ∧ T ≤ 3000 ∧
  kL a' b' sh = (kL a b sh).set k (some (c, i), some q, Int32.ofNat T) ∧ (∀ s, s < tZ a 27 0 → s ≠ sh → kL a' b' s = kL a b s) ∧
  vQ b' (2 * sh) = vQ b (2 * sh) ++ laid (fK (tI b 48 (2 * sh))) (tI b 95 0 1 + tI b 95 0 2) (qv b (some q)) ∧ tI b' 48 (2 * sh) = fR (tI b 48 (2 * sh)) ∧ RepF a a' b b' sh ∧ Al a b ∧ Al a' b'
theorem kL_set {a a' b b' : TS} {s k : Nat} {x : Option (Nat × Nat) × Option (Nat × Nat) × Int32} (z : tZ a' 19 s = tZ a 19 s) (h : ∀ j, j < tZ a 19 s → kR3 a' b' s j = if j = k then x else kR3 a b s j) : kL a' b' s = (kL a b s).set k x := by
  unfold kL
  rw [z]
  apply List.ext_getElem?
  intro j
  rw [List.getElem?_set, List.getElem?_map, List.length_map, List.length_range, List.getElem?_map]
  by_cases hj : j < tZ a 19 s
  · rw [List.getElem?_range hj, Option.map_some, h j hj]
    by_cases e : k = j
    · rw [if_pos e, if_pos e.symm, if_pos (by omega)]
    · rw [if_neg e, if_neg (fun q => e q.symm), Option.map_some]
  · rw [List.getElem?_eq_none (by rw [List.length_range]; omega)]
    by_cases e : k = j
    · rw [if_pos e, if_neg (by omega)]
      rfl
    · rw [if_neg e]
      rfl
/-- behind the loop no kept message was put ten ticks ago or longer -/
def RepT (b b' : TS) (sh k n T : Nat) : Prop := (∀ j, j < k → tI b' 67 0 (500 * sh + j) = tI b 67 0 (500 * sh + j)) ∧ ∀ j, k ≤ j → j < n → ∃ l, tI b' 67 0 (500 * sh + j) = Int32.ofNat l ∧ l ≤ 3000 ∧ T < l + 10
set_option maxHeartbeats 4000000 in
theorem rep_loop {sh T N : Nat} (Q : UpQ) (hT : T ≤ 3000) (hq2 : LimQ N Q) (n : Nat) (hnN : n ≤ N) : ∀ m k a b, Al a b → sh < tZ a 27 0 → k + m = tZ a 19 sh → tI b 95 0 1 = Int32.ofNat T → RepOK T (tI b 95 0 1 + tI b 95 0 2) Q → atQ Q n a b sh →
    ∃ a' b', (∀ z, Ru 75 2 [(0, aR (some (36, sh))), (1, aI (Int32.ofNat k))] [] (enc 1 a z) = some (.inl none, enc 1 a' z)) ∧ (∀ z, Ru 211 6 [(0, aR (some (95, 0))), (1, aI (Int32.ofNat sh)), (2, aI (Int32.ofNat (500 * sh + k)))] [] (enc 2 b z) = some (.inl none, enc 2 b' z)) ∧ Al a' b' ∧ atQ Q n a' b' sh ∧ RepF a a' b b' sh ∧ StpE EvR a b a' b' ∧ RepT b b' sh k (tZ a 19 sh) T := by
  intro m
  induction m with
  | zero =>
    intro k a b hA hsh hk hT' _ hQ
    have hR := hA.1
    obtain ⟨S1, S2, ⟨S3, S4, S5', S6, S7, S8⟩, S9, S10⟩ := r_S hR
    obtain ⟨T1, T2, T3, T4, T5, T6, T7, T8, T9, T10, T11⟩ := S10 sh hsh
    obtain ⟨K1, K2, K3, K4, K5⟩ := hA.2.2.2.2.1 sh hsh
    have : k = tZ a 19 sh := by omega
    subst this
    exact ⟨a, b, fun z => x75_end (by omega) T9 (by omega) rfl, fun z => y211_end (r_FR hR) (by omega) K2, hA, hQ, RepF_r a b sh, StpE_r a b, fun _ _ => rfl, fun j h1 h2 => by omega⟩
  | succ m ih =>
    intro k a b hA hsh hk hT' hrep hQ
    have hR := hA.1
    obtain ⟨S1, S2, ⟨S3, S4, S5', S6, S7, S8⟩, S9, S10⟩ := r_S hR
    obtain ⟨T1, T2, T3, T4, T5, T6, T7, T8, T9, T10, T11⟩ := S10 sh hsh
    obtain ⟨K1, K2, K3, K4, K5⟩ := hA.2.2.2.2.1 sh hsh
    obtain ⟨c, i, q, k1, k2, k3, k4, k5, k6, ⟨k7, l, k7a, k7b⟩, k8, k9, k10⟩ := K4 k (by omega)
    have tk := tick_of hR
    have fx := fun z => x75_2 (a := a) (z := z) (sh := sh) (k := k) (r_FC hR) (by omega) T5 T6 T9 (by omega) rfl K3 (by omega) k1 k3 k4
    have fy := fun z => y211_6 (b := b) (z := z) (sh := sh) (k := k) (r_FR hR) (by omega) K2 K3 (by omega) k2
    rw [tk, k7, k7b, hT'] at fx
    rw [hT', k7b] at fy
    by_cases e : l + 10 ≤ T
    · have e1 : 10 ≤ Int32.ofNat T - Int32.ofNat l := (i32_ge hT k7a).mpr e
      have e2 : ¬ Int32.ofNat T - Int32.ofNat l < 10 := Int32.not_lt.mpr e1
      simp only [e2, if_false] at fx
      simp only [e1, if_true] at fy
      obtain ⟨hA1, hP1, ca, cb⟩ := kp_time (t := Int32.ofNat T) hA hsh (by omega) k1 k3 ⟨T, hT, rfl⟩
      have mvE : mv (sI a c i 13 (Int32.ofNat T)) c i = mv a c i := mv_congr (fun f h h' => kp13 a _ c i f (Or.inr h))
      have gq' : groQ b (sI b 67 0 (500 * sh + k) (Int32.ofNat T)) := groQ_c cb (by decide +kernel)
      have qvE : qv (sI b 67 0 (500 * sh + k) (Int32.ofNat T)) (some q) = qv b (some q) := qv_congr (fun f => (gq' q.1 k5).2 q.2 k6 f)
      have hv67 : ∀ j, tI (sI b 67 0 (500 * sh + k) (Int32.ofNat T)) 67 0 j = if j = 500 * sh + k then Int32.ofNat T else tI b 67 0 j := fun j => by
        rw [tI_sI]
        by_cases e : j = 500 * sh + k
        · rw [if_pos ⟨rfl, rfl, e⟩, if_pos e]
        · rw [if_neg (fun z => e z.2.2), if_neg e]
      have wa : Wr a (sI a c i 13 (Int32.ofNat T)) := (Wr.rf a).cI _ _ _ _
      have wb : Wr b (sI b 67 0 (500 * sh + k) (Int32.ofNat T)) := (Wr.rf b).cI _ _ _ _
      have nA : ∀ s, tN (sI a c i 13 (Int32.ofNat T)) s = tN a s := fun _ => rfl
      have nB : ∀ s, tN (sI b 67 0 (500 * sh + k) (Int32.ofNat T)) s = tN b s := fun _ => rfl
      have zA : ∀ s j, tZ (sI a c i 13 (Int32.ofNat T)) s j = tZ a s j := fun _ _ => rfl
      generalize sI a c i 13 (Int32.ofNat T) = a1 at *
      generalize sI b 67 0 (500 * sh + k) (Int32.ofNat T) = b1 at *
      obtain ⟨hL1, hv⟩ := Ln0_o hA.2.2.1.1 ca cb (by decide) (by decide) (by decide) gq'
      have b48 : ∀ s, tI b1 48 s = tI b 48 s := fun s => funext fun j => dIS cb (S := [48]) (P := []) (s := 48) (by decide) (by simp) s j
      have t1 : tI b1 95 0 1 = tI b 95 0 1 := dIS cb (S := [95]) (P := []) (s := 95) (by decide) (by simp) 0 1
      have t2 : tI b1 95 0 2 = tI b 95 0 2 := dIS cb (S := [95]) (P := []) (s := 95) (by decide) (by simp) 0 2
      obtain ⟨lim1, lim2⟩ := hq2 _ _ _ _ _ hnN hQ
      obtain ⟨a2, b2, x, y, hA2, hF2⟩ := up_al (sh := sh) (s := c) (i := i) (q := q) hA1 (by rw [zA]; exact hsh) (by rw [zA]; exact lim1) (by rw [(hv (2 * sh) (by omega)).2]; exact lim2) (isKp_M k3) (by rw [nA]; exact k4) k5 (by rw [nB]; exact k6) (by rw [mvE, qvE]; exact upM_c k8 hP1)
      have hKT := PutF_KT hF2
      rw [qvE] at hF2
      obtain ⟨f1, f2, f3, f4, f5, f6, f7, f8, f9, f10, f11, f12⟩ := hF2
      have hstep : RepF a a2 b b2 sh := by
        refine ⟨PS_t hP1 f1, chF_t (chF_m ca (by simp) (fun q h => Or.inl h)) (chF_m f2 (by decide) (by simp)), chF_t (chF_m cb (by decide) (by simp)) (chF_m f3 (by decide) (by simp)), groQ_t gq' f4, wa.t f5, wb.t f6, fun s h => (f7 s h).trans (nA s), fun s h h' => (f8 s h h').trans (nB s), fun c' h h' => ?_, fun s hs hne => ?_⟩
        · obtain ⟨u1, u2, u3, u4⟩ := f9 c' (by rw [zA]; exact h) h'
          obtain ⟨v1, v2⟩ := hv c' h
          exact ⟨u1.trans v1, u2.trans v2, u3.trans (zA 9 c'), u4.trans (b48 c')⟩
        · rw [hKT]
          have hle := (hA.2.2.2.2.1 s hs).2.2.1
          exact KTs_eq (zA 19 s) (fun k' hk' => by rw [hv67, if_neg (by omega)])
      have hkt1 : KTs a1 b1 sh = (KTs a b sh).set k T := by
        unfold KTs
        rw [zA]
        apply List.ext_getElem?
        intro j
        rw [List.getElem?_set, List.getElem?_map, List.length_map, List.length_range, List.getElem?_map]
        by_cases hj : j < tZ a 19 sh
        · rw [List.getElem?_range hj]
          by_cases ej : k = j
          · rw [if_pos ej, if_pos (by omega), Option.map_some, hv67, if_pos (by rw [ej]), o_ix (by omega)]
          · rw [if_neg ej, Option.map_some, Option.map_some, hv67, if_neg (by omega)]
        · rw [List.getElem?_eq_none (by rw [List.length_range]; omega), if_neg (by omega), Option.map_none, Option.map_none]
      have hl : (KTs a b sh)[k]? = some l := by
        unfold KTs
        rw [List.getElem?_map, List.getElem?_range (by omega), Option.map_some, k7b, o_ix (by omega)]
      have hQ2 : atQ Q n a2 b2 sh := by
        have := hrep n _ _ _ _ k l (qv b (some q)) (kept_q0 k8 k10) hQ hl e
        unfold atQ
        rw [hKT, hkt1, f12, f11, f10, (hv (2 * sh) (by omega)).2, b48, t1, t2, zA]
        exact this
      have r19 : ∀ s j, tR a1 19 s j = tR a 19 s j := dR ca (S := [19]) (P := []) (s := 19) (by decide) (by simp)
      have r66 : ∀ j, tR b1 66 0 j = tR b 66 0 j := dR cb (S := [66]) (P := []) (s := 66) (by decide) (by simp) 0
      have hEv : StpE EvR a b a2 b2 := StpE_1 ⟨sh, k, c, i, q, l, T, hsh, by omega, by unfold kR3; rw [k1, k2, k7b], hT', e, hT, (kL_c f2 f3 (by decide) (by decide) sh).trans (kL_set (zA 19 sh) (fun j hj => by
          unfold kR3
          rw [r19, r66, hv67]
          by_cases ej : j = k
          · rw [if_pos ej, if_pos (by rw [ej]), ej, k1, k2]
          · rw [if_neg ej, if_neg (by omega)])), fun s hs hne => (kL_c f2 f3 (by decide) (by decide) s).trans (kL_eq (zA 19 s) (fun j hj => by
          have hle := (hA.2.2.2.2.1 s hs).2.2.1
          unfold kR3
          rw [r19, r66, hv67, if_neg (by omega)])), by rw [f10, (hv (2 * sh) (by omega)).2, b48, t1, t2], by rw [f11, b48], hstep, hA, hA2⟩
      have s67 : ∀ j, tI b2 67 0 j = if j = 500 * sh + k then Int32.ofNat T else tI b 67 0 j := fun j => (dIS f3 (S := [67]) (P := []) (s := 67) (by decide) (by simp) 0 j).trans (hv67 j)
      obtain ⟨z1, z2, z3, z4⟩ := RepF_z hstep
      obtain ⟨a3, b3, x3, y3, hA3, hQ3, hF3, hS3, hT3, hT4⟩ := ih (k + 1) a2 b2 hA2 (by omega) (by rw [z2]; omega) (by rw [z3]; exact hT') (by rw [z3, z4]; exact hrep) hQ2
      exact ⟨a3, b3, fun z => by rw [fx, x, cV_v]; exact x3 z, fun z => by rw [fy, y, cV_v]; exact y3 z, hA3, hQ3, RepF_t hstep hF3, StpE_t hEv hS3, fun j hj => by rw [hT3 j (by omega), s67, if_neg (by omega)], fun j h1 h2 => by
        by_cases ej : j = k
        · exact ⟨T, by rw [hT3 j (by omega), s67, if_pos (by rw [ej])], hT, by omega⟩
        · exact hT4 j (by omega) (by rw [z2]; exact h2)⟩
    · have e1 : ¬ 10 ≤ Int32.ofNat T - Int32.ofNat l := fun h => e ((i32_ge hT k7a).mp h)
      have e2 : Int32.ofNat T - Int32.ofNat l < 10 := Int32.not_le.mp e1
      simp only [e2, if_true] at fx
      simp only [e1, if_false] at fy
      obtain ⟨a3, b3, x3, y3, hA3, hQ3, hF3, hS3, hT3, hT4⟩ := ih (k + 1) a b hA hsh (by omega) hT' hrep hQ
      exact ⟨a3, b3, fun z => by rw [fx]; exact x3 z, fun z => by rw [fy]; exact y3 z, hA3, hQ3, hF3, hS3, fun j hj => hT3 j (by omega), fun j h1 h2 => by
        by_cases ej : j = k
        · exact ⟨l, by rw [hT3 j (by omega), ej, k7b], k7a, by omega⟩
        · exact hT4 j (by omega) h2⟩
/-- what is kept is put again alike -/
theorem sim_rep {a b : TS} {sh T n N : Nat} (hnN : n ≤ N) (Q : UpQ) (hA : Al a b) (hsh : sh < tZ a 27 0) (hT : T ≤ 3000) (hT' : tI b 95 0 1 = Int32.ofNat T) (hq2 : LimQ N Q) (hrep : RepOK T (tI b 95 0 1 + tI b 95 0 2) Q) (hQ : atQ Q n a b sh) :
    ∃ a' b', (∀ z, Ex 75 [aR (some (36, sh))] (enc 1 a z) = some (.inl none, enc 1 a' z)) ∧ (∀ z, Ex 211 [aR (some (95, 0)), aI (Int32.ofNat sh)] (enc 2 b z) = some (.inl none, enc 2 b' z)) ∧ Al a' b' ∧ atQ Q n a' b' sh ∧ RepF a a' b b' sh ∧ StpE EvR a b a' b' ∧ RepT b b' sh 0 (tZ a 19 sh) T := by
  have h36 : sh < tN a 36 := by
    obtain ⟨S1, S2, ⟨S3, -⟩, -⟩ := r_S hA.1
    omega
  obtain ⟨a', b', x, y, h1, h2, h3, h4, h5⟩ := rep_loop (sh := sh) Q hT hq2 n hnN (tZ a 19 sh) 0 a b hA hsh (Nat.zero_add _) hT' hrep hQ
  refine ⟨a', b', fun z => ?_, fun z => ?_, h1, h2, h3, h4, h5⟩
  · refine (X_in (by decide +kernel) (h36) rfl).trans ((lf_75_0 ..).trans ?_)
    exact x z
  · refine (X_in (by decide +kernel) (frN_95 (r_FR hA.1)) rfl).trans ((lf_211_0 ..).trans ?_)
    rw [o_500]
    exact y z
