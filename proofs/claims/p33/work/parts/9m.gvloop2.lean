/-! ===== the loop that gives up, all of it ===== -/
theorem askL_first {b : TS} {n s p : Nat} (hp : p ∈ askL b n s) (hmin : ∀ q ∈ askL b n s, p ≤ q) : (askL b n s)[0]? = some p := by
  obtain ⟨j, hj, e⟩ := List.getElem_of_mem hp
  have hs : (askL b n s).Pairwise (· < ·) := List.Pairwise.filter _ List.pairwise_lt_range
  by_cases e0 : j = 0
  · subst e0
    rw [List.getElem?_eq_getElem hj, e]
  · have h0 : 0 < (askL b n s).length := by omega
    have h1 := List.pairwise_iff_getElem.mp hs 0 j h0 hj (by omega)
    have h2 := hmin _ (List.getElem_mem h0)
    omega
/-- those that wait less long: the reference passes them over -/
theorem y245_rest {b : TS} {sh N : Nat} (hF : FxR b) (hn : tI b 93 0 8 = Int32.ofNat N) (hN : N ≤ 200) (z : Hp) : ∀ n p, p + n = N → (∀ q, p ≤ q → q < N → ¬ (tI b 87 0 (10 * q + 2) = Int32.ofNat sh ∧ tI b 87 0 (10 * q) = 1 ∧ 8 ≤ tI b 93 0 9 - tI b 87 0 (10 * q + 6))) →
    Ru 245 2 [(0, aR (some (93, 0))), (1, aI (Int32.ofNat sh)), (2, aI (Int32.ofNat p))] [] (enc 2 b z) = some (.inl none, enc 2 b z) := by
  intro n
  induction n with
  | zero =>
    intro p hp _
    have : p = N := by omega
    subst this
    exact y245_end hF hn
  | succ n ih =>
    intro p hp h
    rw [y245_skip hF hn hN (by omega) (h p (Nat.le_refl _) (by omega))]
    exact ih (p + 1) (by omega) (fun q h1 h2 => h q (by omega) h2)
/-- of a shop nobody asks since eight ticks or more -/
def GvT (a b : TS) (sh : Nat) : Prop := ∀ q, q < tZ a 29 0 → tI b 87 0 (10 * q + 2) = Int32.ofNat sh → tI b 87 0 (10 * q) = 1 → ¬ 8 ≤ tI b 95 0 1 - tI b 87 0 (10 * q + 6)
set_option maxHeartbeats 2000000 in
theorem gv_loop {sh T m N : Nat} (Q : UpQ) (hT : T ≤ 3000) (hm : m ≤ 200) (hq2 : LimQ N Q) : ∀ n p i a b k, Al a b → k + askN b (tZ a 29 0) ≤ N → sh < tZ a 27 0 → p + n = tZ a 29 0 → (∀ q ∈ askL b (tZ a 29 0) sh, p ≤ q) → tZ a 18 sh + i ≤ m → tI b 95 0 1 = Int32.ofNat T → KeepOK T (tI b 95 0 1 + tI b 95 0 2) Q → atQ Q k a b sh →
    ∃ a' b' j, (∀ z, Ru 74 10 [(0, aR (some (36, sh))), (1, aI (Int32.ofNat m)), (2, aI (Int32.ofNat i))] [] (enc 1 a z) = some (.inl none, enc 1 a' z)) ∧ (∀ z, Ru 245 2 [(0, aR (some (93, 0))), (1, aI (Int32.ofNat sh)), (2, aI (Int32.ofNat p))] [] (enc 2 b z) = some (.inl none, enc 2 b' z)) ∧ Al a' b' ∧ atQ Q (k + j) a' b' sh ∧ GvF a a' b b' sh j ∧ StpE EvG a b a' b' ∧ GvT a' b' sh := by
  intro n
  induction n with
  | zero =>
    intro p i a b k hA hkN hsh hp hmin hlen hT' hkp hQ
    have hR := hA.1
    obtain ⟨S1, S2, ⟨S3, S4, S5', S6, S7, S8⟩, S9, S10⟩ := r_S hR
    obtain ⟨T1, T2, T3, T4, T5, T6, T7, T8, T9, T10, T11⟩ := S10 sh hsh
    obtain ⟨P1, P2, P3, P4, P5, P6, P7⟩ := r_P' hR
    have : p = tZ a 29 0 := by omega
    subst this
    have hz : tZ a 18 sh = 0 := by
      rw [As_len (hA.2.2.2.1.1 sh hsh)]
      have : askL b (tZ a 29 0) sh = [] := by
        cases e : askL b (tZ a 29 0) sh with
        | nil => rfl
        | cons x l =>
          have hx : x ∈ askL b (tZ a 29 0) sh := by rw [e]; exact List.mem_cons_self
          have h1 := hmin x hx
          have h2 := (askL_mem.mp hx).1
          omega
      rw [this]
      rfl
    exact ⟨a, b, 0, fun z => x74_empty _ _ (by omega) T8 (by omega) hz, fun z => y245_end (r_FR hR) P4, hA, hQ, GvF_r a b sh, StpE_r a b, fun q h1 h2 h3 _ => by
      have := hmin q (askL_mem.mpr ⟨h1, h2, h3⟩)
      omega⟩
  | succ n ih =>
    intro p i a b k hA hkN hsh hp hmin hlen hT' hkp hQ
    have hR := hA.1
    obtain ⟨S1, S2, ⟨S3, S4, S5', S6, S7, S8⟩, S9, S10⟩ := r_S hR
    obtain ⟨T1, T2, T3, T4, T5, T6, T7, T8, T9, T10, T11⟩ := S10 sh hsh
    obtain ⟨P1, P2, P3, P4, P5, P6, P7⟩ := r_P' hR
    have hfr := r_FR hR
    have t93 := tick_93 hR
    have hAs := hA.2.2.2.1
    by_cases hx : p ∈ askL b (tZ a 29 0) sh
    · have hp0 := askL_first hx hmin
      obtain ⟨m1, m2, m3⟩ := askL_mem.mp hx
      have hz18 : 0 < tZ a 18 sh := by
        rw [As_len (hAs.1 sh hsh)]
        exact (List.getElem?_eq_some_iff.mp hp0).1
      obtain ⟨⟨l, l1, l2⟩, -⟩ := hAs.2 p m1
      by_cases old : 8 ≤ tI b 95 0 1 - tI b 87 0 (10 * p + 6)
      · obtain ⟨a1, b1, x, y, hA1, hQ1, hF1, hask, hz1, hS1⟩ := gv_step (m := m) (i := i) (N := N) (by omega) Q hA hsh hp0 (by omega) hm hT hT' old hq2 hkp hQ
        obtain ⟨z1, z2, z3, z4⟩ := GvF_z hF1
        obtain ⟨a2, b2, j, x2, y2, hA2, hQ2, hF2, hS2, hT2⟩ := ih (p + 1) (i + 1) a1 b1 (k + 1) hA1 (by
          have := hF1.2.2.2.2.2.2.2.2.2.2.2
          rw [z2]
          omega) (by omega) (by omega) (fun q hq => by
          rw [z2] at hq
          obtain ⟨w1, w2⟩ := hask q hq
          have := hmin q w1
          omega) (by omega) (by rw [z3]; exact hT') (by rw [z3, z4]; exact hkp) hQ1
        refine ⟨a2, b2, 1 + j, fun z => by rw [x, x2], fun z => by rw [y, y2], hA2, ?_, GvF_t hF1 hF2, StpE_t (hS1 hF1) hS2, hT2⟩
        rw [show k + (1 + j) = k + 1 + j by omega]
        exact hQ2
      · have u6 := (P5 p m1).2.2.2.2.2.2.1
        have tk := tick_of hR
        have hR18 : tR a 18 sh 0 = some (38, p) := by
          obtain ⟨p', w1, w2, -⟩ := As_at (hAs.1 sh hsh) hz18
          rw [hp0] at w1
          rw [w2, Option.some.inj w1]
        have hy : ∀ q, p ≤ q → q < tZ a 29 0 → ¬ (tI b 87 0 (10 * q + 2) = Int32.ofNat sh ∧ tI b 87 0 (10 * q) = 1 ∧ 8 ≤ tI b 93 0 9 - tI b 87 0 (10 * q + 6)) := fun q h1 h2 h => by
          obtain ⟨-, -, h5⟩ := h
          obtain ⟨⟨l', l1', l2'⟩, -⟩ := hAs.2 q h2
          have mono := P6 p q h1 h2
          rw [l2, l2', o_le (by omega) (by omega)] at mono
          rw [t93, hT', l2', i32_8 hT l1'] at h5
          rw [hT', l2, i32_8 hT l1] at old
          omega
        exact ⟨a, b, 0, fun z => x74_young (r_FC hR) (by omega) T5 T8 (by omega) hz18 (by omega) hm hR18 (by omega) (by rw [tk, u6]; exact old), fun z => y245_rest hfr P4 P1 z (n + 1) p (by omega) hy, hA, hQ, GvF_r a b sh, StpE_r a b, fun q h1 h2 h3 h4 => hy q (hmin q (askL_mem.mpr ⟨h1, h2, h3⟩)) h1 ⟨h2, h3, by rw [t93]; exact h4⟩⟩
    · have hne : ¬ (tI b 87 0 (10 * p + 2) = Int32.ofNat sh ∧ tI b 87 0 (10 * p) = 1 ∧ 8 ≤ tI b 93 0 9 - tI b 87 0 (10 * p + 6)) := fun h => hx (askL_mem.mpr ⟨by omega, h.1, h.2.1⟩)
      obtain ⟨a2, b2, j, x2, y2, hA2, hQ2, hF2, hS2, hT2⟩ := ih (p + 1) i a b k hA hkN hsh (by omega) (fun q hq => by
        have h1 := hmin q hq
        have h2 : q ≠ p := fun e => hx (e ▸ hq)
        omega) hlen hT' hkp hQ
      exact ⟨a2, b2, j, x2, fun z => by rw [y245_skip hfr P4 P1 (by omega) hne]; exact y2 z, hA2, hQ2, hF2, hS2, hT2⟩
theorem sim_gv {a b : TS} {sh T k N : Nat} (Q : UpQ) (hA : Al a b) (hkN : k + askN b (tZ a 29 0) ≤ N) (hsh : sh < tZ a 27 0) (hT : T ≤ 3000) (hT' : tI b 95 0 1 = Int32.ofNat T) (hq2 : LimQ N Q) (hkp : KeepOK T (tI b 95 0 1 + tI b 95 0 2) Q) (hQ : atQ Q k a b sh) :
    ∃ a' b' j, (∀ z, Ex 74 [aR (some (36, sh))] (enc 1 a z) = some (.inl none, enc 1 a' z)) ∧ (∀ z, Ex 245 [aR (some (93, 0)), aI (Int32.ofNat sh)] (enc 2 b z) = some (.inl none, enc 2 b' z)) ∧ Al a' b' ∧ atQ Q (k + j) a' b' sh ∧ GvF a a' b b' sh j ∧ StpE EvG a b a' b' ∧ GvT a' b' sh := by
  have hR := hA.1
  obtain ⟨S1, S2, ⟨S3, S4, S5', S6, S7, S8⟩, S9, S10⟩ := r_S hR
  obtain ⟨T1, T2, T3, T4, T5, T6, T7, T8, T9, T10, T11⟩ := S10 sh hsh
  have hP200 := (r_P' hR).1
  have h36 : sh < tN a 36 := by omega
  have h18 : sh < tN a 18 := by omega
  have hlen : tZ a 18 sh ≤ 200 := by
    rw [As_len (hA.2.2.2.1.1 sh hsh)]
    have := askL_len b (tZ a 29 0) sh
    omega
  obtain ⟨a', b', j, x, y, h1, h2, h3, h4, h5⟩ := gv_loop (sh := sh) (m := tZ a 18 sh) Q hT hlen hq2 (tZ a 29 0) 0 0 a b k hA hkN hsh (Nat.zero_add _) (fun _ _ => Nat.zero_le _) (Nat.le_refl _) hT' hkp hQ
  refine ⟨a', b', j, fun z => ?_, fun z => ?_, h1, h2, h3, h4, h5⟩
  · refine (X_in (by decide +kernel) (h36) rfl).trans ((lf_74_0 ..).trans ?_)
    simp (config := {decide := true}) only [gfI_enc, gfL_enc, gfR_enc, pfI_enc, pfL_enc, pfR_enc, Option.bind_some, cI_v, cL_v, cF_v, cD_v, cR_v, cV_v, cI_x, cL_x, cR_x, cV_x, gz_0, gz_1, acc_enc, tI_sI, tL_sI, tR_sI, tN_sI, tZ_sI, tC_sI, tc_sI, tz_sI, tI_sL, tL_sL, tR_sL, tN_sL, tZ_sL, tC_sL, tc_sL, tz_sL, tI_sR, tL_sR, tR_sR, tN_sR, tZ_sR, tC_sR, tc_sR, tz_sR, tI_sZ, tL_sZ, tR_sZ, tN_sZ, tZ_sZ, tC_sZ, tc_sZ, tz_sZ, tI_sC, tL_sC, tR_sC, tN_sC, tZ_sC, tC_sC, tc_sC, tz_sC, tI_aC, tL_aC, tR_aC, tN_aC, tZ_aC, tC_aC, tc_aC, tz_aC, tI_rmL, tL_rmL, tR_rmL, tN_rmL, tZ_rmL, tC_rmL, tc_rmL, tz_rmL, tI_mk, tL_mk, tR_mk, tN_mk, tZ_mk, tC_mk, tc_mk, tz_mk, tI_pushL, tL_pushL, tR_pushL, tN_pushL, tZ_pushL, tC_pushL, tc_pushL, tz_pushL, tI_pushB, tL_pushB, tR_pushB, tN_pushB, tZ_pushB, tC_pushB, tc_pushB, tz_pushB, tI_cpL, tL_cpL, tR_cpL, tN_cpL, tZ_cpL, tC_cpL, tc_cpL, tz_cpL, eq_self, true_and, and_true, false_and, and_false, if_true, if_false, reduceIte, ite_true, ite_false, not_true_eq_false, not_false_eq_true, h36, T8, X405, h18]
    exact x z
  · refine (X_in (by decide +kernel) (frN_93 (r_FR hR)) rfl).trans ((lf_245_0 ..).trans ?_)
    exact y z
