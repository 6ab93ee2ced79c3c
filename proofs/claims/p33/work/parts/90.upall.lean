/-! ===== all that comes up is heard alike, and is gone ===== -/
theorem L2_filter {α β : Type} {R : α → β → Prop} {p : α → Bool} {q : β → Bool} : ∀ {l : List α} {m : List β}, L2 R l m → (∀ x y, R x y → p x = q y) → L2 R (l.filter p) (m.filter q)
  | [], [], _, _ => trivial
  | x :: l, y :: m, h, hpq => by
    have e := hpq x y h.1
    by_cases hp : p x = true
    · rw [List.filter_cons_of_pos hp, List.filter_cons_of_pos (e ▸ hp)]
      exact ⟨h.1, L2_filter h.2 hpq⟩
    · rw [List.filter_cons_of_neg hp, List.filter_cons_of_neg (by rw [← e]; exact hp)]
      exact L2_filter h.2 hpq
/-- a drop leaves the rest as it is -/
theorem drop_R {a a' b : TS} {c : Nat} {t : Int32} (hR : R0 a b) (hN : Nt a b) (hL : Ln0 a b) (hD : LaD a a' (2 * tZ a 27 0) c t) : R0 a' b ∧ Nt a' b ∧ Ln0 a' b ∧ PS a a' b b ∧ chF [9, 21, 22] [] a a' ∧ Wr a a' := by
  obtain ⟨d1, d2, d3, d4, d5, d6, d7, d8, d9, d10, d11, d12, w⟩ := hD
  have ha : chF [9, 21, 22] [] a a' := fun s hs => by
    simp only [List.mem_cons, List.not_mem_nil, or_false, not_or] at hs
    exact ⟨fun i k _ => d6 s i k (fun q => by omega), fun i k _ => by rw [d7], fun i k => d4 s i k hs.1, by rw [d8], fun i => by rw [d9], fun i => by rw [d10]⟩
  have hb : chF [] [] b b := chF_r _ _ _
  have hP : PS a a' b b := PS_c ha hb (by decide) (by decide)
  refine ⟨put_R0 hR (chF_m ha (by decide) (by simp)) (chF_r _ _ _) (fun _ _ => by rw [d8]) w (Wr.rf _), Nt_c hN ha hb (by decide) (by decide) hP.1 (gro_c ha (by decide)) (fun s _ => gro_r b s), ?_, hP, ha, w⟩
  obtain ⟨l1, l2, l3, l4, l5, l6, l7⟩ := hL
  refine ⟨by rw [d9]; exact d1, by rw [d9]; exact l2, by rw [d9]; exact l3, fun c' hc => ?_, by rw [d9]; exact l5, by rw [d9]; exact l6, by rw [d8, d9]; exact l7⟩
  rw [d9] at hc
  rw [← l4 c' hc]
  funext k
  exact d6 8 c' k (fun q => by omega)
/-- what a round of hearing leaves: of the lines of a shop and of the others -/
def UpF (a0 b0 a b : TS) (sh : Nat) (Ys : List (List (Int32 × (Nat → Int32)))) : Prop :=
  (R0 a b ∧ Nt a b ∧ Ln0 a b ∧ LnU a b sh ∧ LnD a b sh ∧ PS a0 a b0 b) ∧
  (∀ c', c' < 2 * tZ a0 27 0 → c' ≠ 2 * sh + 1 → c' ≠ 2 * sh → vA a c' = vA a0 c' ∧ vQ b c' = vQ b0 c') ∧ (∀ c', c' < 2 * tZ a0 27 0 → c' ≠ 2 * sh + 1 → tZ a 9 c' = tZ a0 9 c' ∧ tI b 48 c' = tI b0 48 c') ∧
  vQ b (2 * sh) = rst (tI b0 95 0 1) (vQ b0 (2 * sh)) ∧
  vQ b (2 * sh + 1) = vQ b0 (2 * sh + 1) ++ Ys.flatten ∧ Ys.length = (due (tI b0 95 0 1) (vQ b0 (2 * sh))).length ∧ (∀ Y ∈ Ys, shortY (tI b0 95 0 1) (tI b0 95 0 2) Y) ∧
  tZ a 9 (2 * sh + 1) = max (tZ a0 9 (2 * sh + 1)) (vA a (2 * sh + 1)).length ∧
  (chF DhA FhA a0 a ∧ chF DhB FhB b0 b ∧ groQ b0 b ∧ Wr a0 a ∧ Wr b0 b) ∧
  (∀ s ∈ [5, 6, 16, 17], tN a s ≤ tN a0 s + ask0 (due (tI b0 95 0 1) (vQ b0 (2 * sh)))) ∧ Mt b ≤ Mt b0 + Ys.length
theorem up_loop {a0 b0 : TS} {sh : Nat} (hU : LnU a0 b0 sh) (hsh : sh < tZ a0 27 0) (hz : tZ a0 9 (2 * sh + 1) < 29998) (hl : (vQ b0 (2 * sh + 1)).length + 2 * (vQ b0 (2 * sh)).length < 29998) : ∀ n k a b Ys, k + n = (vQ b0 (2 * sh)).length → UpI a0 b0 a b sh k Ys →
    ∃ a' b' Ys', UpI a0 b0 a' b' sh (vQ b0 (2 * sh)).length Ys' ∧ (∀ z, Ru 107 13 [(0, aR (some (96, 0))), (1, aR (some (36, sh))), (2, aR (some (21, sh))), (3, aI (Int32.ofNat (vQ b0 (2 * sh)).length)), (4, aI (Int32.ofNat k))] [] (enc 1 a z) = Ru 107 13 [(0, aR (some (96, 0))), (1, aR (some (36, sh))), (2, aR (some (21, sh))), (3, aI (Int32.ofNat (vQ b0 (2 * sh)).length)), (4, aI (Int32.ofNat (vQ b0 (2 * sh)).length))] [] (enc 1 a' z)) ∧ (∀ z, RefU sh (tI b0 95 0 1) b z = RefU sh (tI b0 95 0 1) b' z) ∧ StpE EvU a b a' b' := by
  intro n
  induction n with
  | zero =>
    intro k a b Ys hk hI
    have : k = (vQ b0 (2 * sh)).length := by omega
    subst this
    exact ⟨a, b, Ys, hI, fun _ => rfl, fun _ => rfl, StpE_r a b⟩
  | succ n ih =>
    intro k a b Ys hk hI
    obtain ⟨a1, b1, Y1, h1, h2, h3, h4⟩ := up_step hI hU hsh (by omega) hz hl
    obtain ⟨a2, b2, Y2, g1, g2, g3, g4⟩ := ih (k + 1) a1 b1 Y1 (by omega) h1
    exact ⟨a2, b2, Y2, g1, fun z => (h2 z).trans (g2 z), fun z => (h3 z).trans (g3 z), StpE_t h4 g4⟩
set_option maxHeartbeats 4000000 in
theorem sim_up {a b : TS} {sh : Nat} (hR : R0 a b) (hN : Nt a b) (hL : Ln0 a b) (hU : LnU a b sh) (hD : LnD a b sh) (hsh : sh < tZ a 27 0) (hz : tZ a 9 (2 * sh + 1) < 29998) (hl : (vQ b (2 * sh + 1)).length + 2 * (vQ b (2 * sh)).length < 29998) :
    ∃ a' b' Ys, (∀ z, Ex 107 [aR (some (96, 0)), aR (some (36, sh))] (enc 1 a z) = some (.inl none, enc 1 a' z)) ∧ (∀ z, RefU sh (tI b 95 0 1) b z = RefD sh (tI b 95 0 1) b' z) ∧ UpF a b a' b' sh Ys ∧ StpE EvU a b a' b' := by
  have hfc := r_FC hR
  obtain ⟨S1, S2, ⟨S3, S4, S5', S6, S7, S8⟩, S9, S10⟩ := r_S hR
  obtain ⟨T1, T2, T3, T4, T5, T6, T7, T8, T9, T10, T11⟩ := S10 sh hsh
  have hlen : (vA a (2 * sh)).length = (vQ b (2 * sh)).length := L2_len hU
  obtain ⟨hLP, m, hm, hmz⟩ := hL.1.2.2 (2 * sh) (by omega)
  have e1 : 21 + (2 * sh) % 2 = 21 := by omega
  have e2 : (2 * sh) / 2 = sh := by omega
  rw [e1, e2] at hLP hm
  have hvA : vA a (2 * sh) = vL a (2 * sh) m := vA_of hL.1 (by omega) (by rw [e1, e2]; exact hm) hmz
  have hmm : m = (vQ b (2 * sh)).length := by rw [← hlen, hvA, vL_len]
  subst hmm
  have h36 : sh < tN a 36 := by omega
  have I0 : UpI a b a b sh 0 [] := ⟨⟨hR, hN, hL, hD, PS_r a b⟩, fun _ _ _ => ⟨rfl, rfl, rfl⟩, fun _ _ _ _ => rfl, rfl, (List.append_nil _).symm, rfl, fun _ h => absurd h (by simp), by
    obtain ⟨-, m, h2, h3⟩ := hL.1.2.2 (2 * sh + 1) (by omega)
    have hlt := LaT_le hL.1 (show 2 * sh + 1 < 2 * tZ a 27 0 by omega)
    rw [vA_of hL.1 (by omega) h2 h3, vL_len]
    omega, ⟨chF_r _ _ _, chF_r _ _ _, fun s _ => gro_r b s, Wr.rf _, Wr.rf _⟩, fun _ _ => Nat.le_refl _, Nat.le_refl _⟩
  obtain ⟨a1, b1, Ys, ⟨⟨hR1, hN1, hL1, hD1, hP1⟩, i1, i2, i3, i4, i5, i6, i7, ⟨j1, j2, j3, j4, j5⟩, i8, i9⟩, x, y, hSt⟩ := up_loop hU hsh hz hl (vQ b (2 * sh)).length 0 a b [] (Nat.zero_add _) I0
  rw [List.take_length] at i3 i5 i8
  rw [List.drop_length, List.append_nil] at i3
  have z27 := shop_A j1
  obtain ⟨a2, x39, hd⟩ := x39T (c := 2 * sh) hL1.1 (by omega)
  rw [e1, e2] at x39
  obtain ⟨hR2, hN2, hL2, hP2, ca, wa⟩ := drop_R hR1 hN1 hL1 hd
  have hSt2 : StpE EvU a b a2 b1 := StpE_t hSt (StpE_1 (Or.inr ⟨rfl, ca, ⟨hR1, hN1, hL1⟩, hR2, hN2, hL2⟩))
  obtain ⟨d1, d2, d3, d4, d5, d6, d7, d8, d9, d10, d11, d12, w⟩ := hd
  have tk : tI a1 25 0 0 = tI b 95 0 1 := (tick_of hR1).trans (tick_B j2).1
  have e3 : 74 + (2 * sh) % 2 = 74 := by omega
  have tn := fun z => x156_n (t := tI b 95 0 1) (n := 2 * tZ a1 27 0) (c := 2 * sh) hL1.2.1 (by omega) (fun e he => by
    rw [i3] at he
    have := (List.mem_filter.mp he).2
    simpa using this) z
  rw [e3, e2] at tn
  have vD : vA a2 (2 * sh + 1) = vA a1 (2 * sh + 1) := d3 (2 * sh + 1) (by omega) (by omega)
  refine ⟨a2, b1, Ys, fun z => ?_, fun z => ?_, ⟨⟨hR2, hN2, hL2, ?_, LnD_c hD1 hP2 vD rfl, PS_t hP1 hP2⟩, fun c' hc hne hne2 => ?_, fun c' hc hne => ?_, i3, i4, i5, i6, ?_, ⟨?_, j2, j3, j4.t w, j5⟩, fun s hs => ?_, i9⟩, hSt2⟩
  · refine (X_in (by decide +kernel) (fcN_96 hfc) rfl).trans ((lf_107_0 ..).trans ?_)
    have hs := hLP.1
    have p2 := hLP.2.1
    simp (config := {decide := true}) only [gfI_enc, gfL_enc, gfR_enc, pfI_enc, pfL_enc, pfR_enc, Option.bind_some, cI_v, cL_v, cF_v, cD_v, cR_v, cV_v, cI_x, cL_x, cR_x, cV_x, gz_0, gz_1, acc_enc, tI_sI, tL_sI, tR_sI, tN_sI, tZ_sI, tC_sI, tc_sI, tz_sI, tI_sL, tL_sL, tR_sL, tN_sL, tZ_sL, tC_sL, tc_sL, tz_sL, tI_sR, tL_sR, tR_sR, tN_sR, tZ_sR, tC_sR, tc_sR, tz_sR, tI_sZ, tL_sZ, tR_sZ, tN_sZ, tZ_sZ, tC_sZ, tc_sZ, tz_sZ, tI_sC, tL_sC, tR_sC, tN_sC, tZ_sC, tC_sC, tc_sC, tz_sC, tI_aC, tL_aC, tR_aC, tN_aC, tZ_aC, tC_aC, tc_aC, tz_aC, tI_rmL, tL_rmL, tR_rmL, tN_rmL, tZ_rmL, tC_rmL, tc_rmL, tz_rmL, tI_mk, tL_mk, tR_mk, tN_mk, tZ_mk, tC_mk, tc_mk, tz_mk, tI_pushL, tL_pushL, tR_pushL, tN_pushL, tZ_pushL, tC_pushL, tc_pushL, tz_pushL, tI_pushB, tL_pushB, tR_pushB, tN_pushB, tZ_pushB, tC_pushB, tc_pushB, tz_pushB, tI_cpL, tL_cpL, tR_cpL, tN_cpL, tZ_cpL, tC_cpL, tc_cpL, tz_cpL, eq_self, true_and, and_true, false_and, and_false, if_true, if_false, reduceIte, ite_true, ite_false, not_true_eq_false, not_false_eq_true, h36, T6, gI_o hs, p2, hm]
    refine Eq.trans (x z) ?_
    rw [x107_end, x39, cV_v]
  · rw [y]
    exact RefU_n (r_FR hR1) (by omega) (hL1.2.2.1 sh (by omega)).2 (tick_B j2).1 tn
  · unfold LnU
    rw [d2, i3, tk]
    have hv := (i1 (2 * sh) (by omega) (by omega)).1
    rw [hv]
    refine L2_filter (L2_mono (fun _ _ q => ⟨q.1, upM_c q.2 (PS_t hP1 hP2)⟩) hU) (fun x y q => ?_)
    rw [q.1]
  · obtain ⟨u1, -⟩ := i1 c' hc hne
    exact ⟨(d3 c' (by omega) hne2).trans u1, i2 c' hc hne hne2⟩
  · rw [d9]
    exact (i1 c' hc hne).2
  · rw [d9, vD]
    exact i7
  · exact chF_t j1 (chF_m ca (by decide) (by simp))
  · rw [d8]
    exact i8 s hs
