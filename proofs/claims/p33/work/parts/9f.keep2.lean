/-! ===== a message is sent and kept ===== -/
theorem tick_n {a b : TS} (h : R0 a b) : ∃ n, n ≤ 3000 ∧ tI b 95 0 1 = Int32.ofNat n := by
  obtain ⟨⟨-, -, h3, n, h4, h5⟩, -⟩ := r_H h
  exact ⟨n, h4, h3.trans h5⟩
theorem x70 {a : TS} {z : Hp} {sh c i : Nat} (hF : FxC a) (h36 : sh < tN a 36) (T5 : tR a 36 sh 3 = some (25, 0)) (T6 : tR a 36 sh 4 = some (21, sh)) (T9 : tR a 36 sh 7 = some (19, sh)) (h19 : sh < tN a 19) (hcap : capOK a 19 sh) (hn : tZ a 19 sh < 500) (hc : isKp c) (hi : i < tN a c) :
    Ex 70 [aR (some (36, sh)), aR (some (c, i))] (enc 1 a z) = cV (Ex 37 [aR (some (21, sh)), aR (some (c, i))] (enc 1 (kpA a sh c i (tI a 25 0 0)) z)) (fun h => some (.inl none, h)) xT := by
  obtain ⟨k1, k2, k3⟩ := hcap
  have n1 : tZ a 19 sh < 30000 := by omega
  have n2 : tC a 19 sh < 50000 := by omega
  have c36 : ¬ 36 = c := fun e => by rcases hc with q | q | q <;> rw [q] at e <;> exact absurd e (by decide)
  have hov : okv 1 (some (c, i)) = true := by rcases hc with q | q | q <;> rw [q] <;> rfl
  unfold kpA
  refine (X_in (by decide +kernel) (h36) rfl).trans ((lf_70_0 ..).trans ?_)
  simp (config := {decide := true}) only [gfI_enc, gfL_enc, gfR_enc, pfI_enc, pfL_enc, pfR_enc, Option.bind_some, cI_v, cL_v, cF_v, cD_v, cR_v, cV_v, cI_x, cL_x, cR_x, cV_x, gz_0, gz_1, acc_enc, tI_sI, tL_sI, tR_sI, tN_sI, tZ_sI, tC_sI, tc_sI, tz_sI, tI_sL, tL_sL, tR_sL, tN_sL, tZ_sL, tC_sL, tc_sL, tz_sL, tI_sR, tL_sR, tR_sR, tN_sR, tZ_sR, tC_sR, tc_sR, tz_sR, tI_sZ, tL_sZ, tR_sZ, tN_sZ, tZ_sZ, tC_sZ, tc_sZ, tz_sZ, tI_sC, tL_sC, tR_sC, tN_sC, tZ_sC, tC_sC, tc_sC, tz_sC, tI_aC, tL_aC, tR_aC, tN_aC, tZ_aC, tC_aC, tc_aC, tz_aC, tI_rmL, tL_rmL, tR_rmL, tN_rmL, tZ_rmL, tC_rmL, tc_rmL, tz_rmL, tI_mk, tL_mk, tR_mk, tN_mk, tZ_mk, tC_mk, tc_mk, tz_mk, tI_pushL, tL_pushL, tR_pushL, tN_pushL, tZ_pushL, tC_pushL, tc_pushL, tz_pushL, tI_pushB, tL_pushB, tR_pushB, tN_pushB, tZ_pushB, tC_pushB, tc_pushB, tz_pushB, tI_cpL, tL_cpL, tR_cpL, tN_cpL, tZ_cpL, tC_cpL, tc_cpL, tz_cpL, eq_self, true_and, and_true, false_and, and_false, if_true, if_false, reduceIte, ite_true, ite_false, not_true_eq_false, not_false_eq_true, h36, T9, X401, hov, h19, n1, k1, n2, T5, fcN_25 hF, pm (isKp_M hc), hi, T6]
theorem y195 {b : TS} {z : Hp} {sh n : Nat} {q : Nat × Nat} (hF : FxR b) (hsh : sh < 4) (h68 : tI b 68 0 sh = Int32.ofNat n) (hn : n < 500) (hq : isQ q.1) (hqi : q.2 < tN b q.1) :
    Ex 195 [aR (some (95, 0)), aI (Int32.ofNat sh), aR (some q)] (enc 2 b z) = cV (Ex 193 [aR (some (95, 0)), aI (Int32.ofNat sh), aR (some q)] (enc 2 (kpB b sh n q (tI b 95 0 1)) z)) (fun h => some (.inl none, h)) xT := by
  obtain ⟨qs, qi⟩ := q
  have g1 : (Int32.ofNat sh).toNatClampNeg = sh := o_ix (by omega)
  have g2 : ¬ Int32.ofNat sh < 0 := o_lt0 (by omega)
  have g6 : (Int32.ofNat (500 * sh + n)).toNatClampNeg = 500 * sh + n := o_ix (by omega)
  have g7 : ¬ Int32.ofNat (500 * sh + n) < 0 := o_lt0 (by omega)
  have g9 : 500 * sh + n < 2000 := by omega
  have o66 : isO 2 1028 66 := ⟨by decide +kernel, by decide +kernel⟩
  have hv : okV 2 b 66 (some (qs, qi)) := okV_q o66 hq hqi
  unfold kpB
  refine (X_in (by decide +kernel) (frN_95 hF) rfl).trans ((lf_195_0 ..).trans ?_)
  simp (config := {decide := true}) only [gfI_enc, gfL_enc, gfR_enc, pfI_enc, pfL_enc, pfR_enc, Option.bind_some, cI_v, cL_v, cF_v, cD_v, cR_v, cV_v, cI_x, cL_x, cR_x, cV_x, gz_0, gz_1, acc_enc, tI_sI, tL_sI, tR_sI, tN_sI, tZ_sI, tC_sI, tc_sI, tz_sI, tI_sL, tL_sL, tR_sL, tN_sL, tZ_sL, tC_sL, tc_sL, tz_sL, tI_sR, tL_sR, tR_sR, tN_sR, tZ_sR, tC_sR, tc_sR, tz_sR, tI_sZ, tL_sZ, tR_sZ, tN_sZ, tZ_sZ, tC_sZ, tc_sZ, tz_sZ, tI_sC, tL_sC, tR_sC, tN_sC, tZ_sC, tC_sC, tc_sC, tz_sC, tI_aC, tL_aC, tR_aC, tN_aC, tZ_aC, tC_aC, tc_aC, tz_aC, tI_rmL, tL_rmL, tR_rmL, tN_rmL, tZ_rmL, tC_rmL, tc_rmL, tz_rmL, tI_mk, tL_mk, tR_mk, tN_mk, tZ_mk, tC_mk, tc_mk, tz_mk, tI_pushL, tL_pushL, tR_pushL, tN_pushL, tZ_pushL, tC_pushL, tc_pushL, tz_pushL, tI_pushB, tL_pushB, tR_pushB, tN_pushB, tZ_pushB, tC_pushB, tc_pushB, tz_pushB, tI_cpL, tL_cpL, tR_cpL, tN_cpL, tZ_cpL, tC_cpL, tc_cpL, tz_cpL, eq_self, true_and, and_true, false_and, and_false, if_true, if_false, reduceIte, ite_true, ite_false, not_true_eq_false, not_false_eq_true, frN_95 hF, frR_95_13 hF, frN_68 hF, frZ_68 hF, frR_95_11 hF, frR_95_12 hF, frN_66 hF, frZ_66 hF, frN_67 hF, frZ_67 hF, gaI_enc, paI_enc, paR_enc, g1, g2, hsh, h68, o_500, o_a, g6, g7, g9, hv, o_s]
/-- what is put up changes nothing of what is kept -/
theorem PutF_KT {a a' b b' : TS} {c : Nat} {g : Nat → Int32} (h : PutF a a' b b' c g) (s : Nat) : KTs a' b' s = KTs a b s := KTs_eq (dZ h.2.1 (S := [19]) (P := []) (s := 19) (by decide) (by simp) s) (fun k _ => dIS h.2.2.1 (S := [67]) (P := []) (s := 67) (by decide) (by simp) 0 _)
/-- what sending and keeping leaves -/
def KeepF (a a' b b' : TS) (sh : Nat) (g : Nat → Int32) : Prop :=
  PS a a' b b' ∧ chF [8, 9, 10, 19, 21, 22] FkA a a' ∧ chF [48, 49, 50, 51, 52, 66, 67, 68, 74, 75] [] b b' ∧ groQ b b' ∧ Wr a a' ∧ Wr b b' ∧ (∀ s, s ≠ 10 → tN a' s = tN a s) ∧ (∀ s, s ≠ 51 → s ≠ 52 → tN b' s = tN b s) ∧
  (∀ c', c' < 2 * tZ a 27 0 → c' ≠ 2 * sh → vA a' c' = vA a c' ∧ vQ b' c' = vQ b c' ∧ tZ a' 9 c' = tZ a 9 c' ∧ tI b' 48 c' = tI b 48 c') ∧
  vQ b' (2 * sh) = vQ b (2 * sh) ++ laid (fK (tI b 48 (2 * sh))) (tI b 95 0 1 + tI b 95 0 2) g ∧ tI b' 48 (2 * sh) = fR (tI b 48 (2 * sh)) ∧ tZ a' 9 (2 * sh) = max (tZ a 9 (2 * sh)) (vQ b' (2 * sh)).length ∧
  KTs a' b' sh = KTs a b sh ++ [(tI b 95 0 1).toNatClampNeg] ∧ (∀ s, s < tZ a 27 0 → s ≠ sh → KTs a' b' s = KTs a b s)
set_option maxHeartbeats 2000000 in
theorem sim_keep {a b : TS} {sh c i : Nat} {q : Nat × Nat} (hA : Al a b) (hsh : sh < tZ a 27 0) (hz : tZ a 9 (2 * sh) < 29998) (hl : (vQ b (2 * sh)).length < 90000) (hc : isKp c) (hi : i < tN a c) (hq : isQ q.1) (hqi : q.2 < tN b q.1) (hm : upM a b sh (mv a c i) (qv b (some q))) (h14 : mv a c i 14 = 0) (hk : kcd a b sh (mv a c i))
    (hnew : ∀ k, k < tZ a 19 sh → kN (keyA a (tR a 19 sh k)) ≠ kN (mv a c i 0, mv a c i 1, mv a c i 11)) :
    ∃ a' b', (∀ z, Ex 70 [aR (some (36, sh)), aR (some (c, i))] (enc 1 a z) = some (.inl none, enc 1 a' z)) ∧ (∀ z, Ex 195 [aR (some (95, 0)), aI (Int32.ofNat sh), aR (some q)] (enc 2 b z) = some (.inl none, enc 2 b' z)) ∧ Al a' b' ∧ KeepF a a' b b' sh (qv b (some q)) ∧ KeepE a b a' b' sh (some (c, i)) (some q) := by
  have hR := hA.1
  obtain ⟨S1, S2, ⟨S3, S4, S5', S6, S7, S8⟩, S9, S10⟩ := r_S hR
  obtain ⟨T1, T2, T3, T4, T5, T6, T7, T8, T9, T10, T11⟩ := S10 sh hsh
  obtain ⟨K1, K2, K3, K4, K5⟩ := hA.2.2.2.2.1 sh hsh
  have tk := tick_of hR
  obtain ⟨hn, hA1, hP1, ca, cb, wa, wb⟩ := kp_add (t := tI b 95 0 1) hA hsh hc hi hq hqi hm h14 hk hnew (tick_n hR)
  have fx := fun z => x70 (a := a) (z := z) (sh := sh) (c := c) (i := i) (r_FC hR) (by omega) T5 T6 T9 (by omega) K1 hn hc hi
  have fy := fun z => y195 (b := b) (z := z) (sh := sh) (n := tZ a 19 sh) (q := q) (r_FR hR) (by omega) K2 hn hq hqi
  rw [tk] at fx
  have nA : ∀ s, tN (kpA a sh c i (tI b 95 0 1)) s = tN a s := fun s => by unfold kpA; rw [tN_sI, tN_pushL]
  have nB : ∀ s, tN (kpB b sh (tZ a 19 sh) q (tI b 95 0 1)) s = tN b s := fun s => rfl
  have mvE : mv (kpA a sh c i (tI b 95 0 1)) c i = mv a c i := mv_congr (fun f h h' => by unfold kpA; rw [kp13 _ _ _ _ _ (Or.inr h), tI_pushL])
  have gq' : groQ b (kpB b sh (tZ a 19 sh) q (tI b 95 0 1)) := groQ_c cb (by decide +kernel)
  have qvE : qv (kpB b sh (tZ a 19 sh) q (tI b 95 0 1)) (some q) = qv b (some q) := qv_congr (fun f => (gq' q.1 hq).2 q.2 hqi f)
  have w67 : ∀ k, tI (kpB b sh (tZ a 19 sh) q (tI b 95 0 1)) 67 0 k = if k = 500 * sh + tZ a 19 sh then tI b 95 0 1 else tI b 67 0 k := fun k => by
    unfold kpB
    rw [tI_sI, if_neg (fun z => absurd z.1 (by decide)), tI_sI]
    by_cases e : k = 500 * sh + tZ a 19 sh
    · rw [if_pos e, if_pos ⟨rfl, rfl, e⟩]
    · rw [if_neg e, if_neg (fun z => e z.2.2), tI_sR]
  have vZ : ∀ s, tZ (kpA a sh c i (tI b 95 0 1)) 19 s = if s = sh then tZ a 19 sh + 1 else tZ a 19 s := fun s => by
    unfold kpA
    rw [tZ_sI, tZ_pushL]
    by_cases e : s = sh
    · rw [if_pos e, if_pos ⟨rfl, e⟩]
    · rw [if_neg e, if_neg (fun z => e z.2)]
  have hKe : KeepE a b (kpA a sh c i (tI b 95 0 1)) (kpB b sh (tZ a 19 sh) q (tI b 95 0 1)) sh (some (c, i)) (some q) := by
    have c19 := isKp_n hc
    have r19 : ∀ s k, tR (kpA a sh c i (tI b 95 0 1)) 19 s k = if s = sh ∧ k = tZ a 19 sh then some (c, i) else tR a 19 s k := fun s k => by
      unfold kpA
      rw [tR_sI, tR_pushL]
      by_cases e : s = sh ∧ k = tZ a 19 sh
      · rw [if_pos e, if_pos ⟨rfl, e.1, e.2⟩]
      · rw [if_neg e, if_neg (fun z => e ⟨z.2.1, z.2.2⟩)]
    have r66 : ∀ k, tR (kpB b sh (tZ a 19 sh) q (tI b 95 0 1)) 66 0 k = if k = 500 * sh + tZ a 19 sh then some q else tR b 66 0 k := fun k => by
      unfold kpB
      rw [tR_sI, tR_sI, tR_sR]
      by_cases e : k = 500 * sh + tZ a 19 sh
      · rw [if_pos e, if_pos ⟨rfl, rfl, e⟩]
      · rw [if_neg e, if_neg (fun z => e z.2.2)]
    refine ⟨kL_add (by rw [vZ, if_pos rfl]) (fun k hk => ?_) ?_, fun s hs hne => kL_eq (by rw [vZ, if_neg hne]) (fun k hk => ?_)⟩
    · unfold kR3
      rw [r19, if_neg (fun z => by omega), r66, if_neg (by omega), w67, if_neg (by omega)]
    · unfold kR3
      rw [r19, if_pos ⟨rfl, rfl⟩, r66, if_pos rfl, w67, if_pos rfl]
    · have hle := (hA.2.2.2.2.1 s hs).2.2.1
      unfold kR3
      rw [r19, if_neg (fun z => hne z.1), r66, if_neg (by omega), w67, if_neg (by omega)]
  generalize kpA a sh c i (tI b 95 0 1) = a1 at *
  generalize kpB b sh (tZ a 19 sh) q (tI b 95 0 1) = b1 at *
  have z27 : tZ a1 27 0 = tZ a 27 0 := dZ ca (S := [27]) (P := []) (s := 27) (by decide) (by simp) 0
  obtain ⟨hL1, hv⟩ := Ln0_o hA.2.2.1.1 ca cb (by decide) (by decide) (by decide) gq'
  have z9 : ∀ s, tZ a1 9 s = tZ a 9 s := dZ ca (S := [9]) (P := []) (s := 9) (by decide) (by simp)
  have b48 : ∀ s, tI b1 48 s = tI b 48 s := fun s => funext fun k => dIS cb (S := [48]) (P := []) (s := 48) (by decide) (by simp) s k
  have t1 : tI b1 95 0 1 = tI b 95 0 1 := dIS cb (S := [95]) (P := []) (s := 95) (by decide) (by simp) 0 1
  have t2 : tI b1 95 0 2 = tI b 95 0 2 := dIS cb (S := [95]) (P := []) (s := 95) (by decide) (by simp) 0 2
  obtain ⟨a', b', x, y, hA2, hF2⟩ := up_al (sh := sh) (s := c) (i := i) (q := q) hA1 (by omega) (by rw [z9]; exact hz) (by rw [(hv (2 * sh) (by omega)).2]; exact hl) (isKp_M hc) (by rw [nA]; exact hi) hq (by rw [nB]; exact hqi) (by rw [mvE, qvE]; exact upM_c hm hP1)
  have hKT := PutF_KT hF2
  rw [qvE] at hF2
  obtain ⟨f1, f2, f3, f4, f5, f6, f7, f8, f9, f10, f11, f12⟩ := hF2
  have hKe2 : KeepE a b a' b' sh (some (c, i)) (some q) := ⟨(kL_c f2 f3 (by decide) (by decide) sh).trans hKe.1, fun s hs hne => (kL_c f2 f3 (by decide) (by decide) s).trans (hKe.2 s hs hne)⟩
  refine ⟨a', b', fun z => by rw [fx, x, cV_v], fun z => by rw [fy, y, cV_v], hA2, ⟨PS_t hP1 f1, chF_t (chF_m ca (by decide) (fun q h => Or.inl h)) (chF_m f2 (by decide) (by simp)), chF_t (chF_m cb (by decide) (by simp)) (chF_m f3 (by decide) (by simp)), groQ_t gq' f4, wa.t f5, wb.t f6, fun s h => (f7 s h).trans (nA s), fun s h h' => (f8 s h h').trans (nB s), fun c' h h' => ?_, ?_, ?_, ?_, ?_, fun s hs hne => ?_⟩, hKe2⟩
  · obtain ⟨u1, u2, u3, u4⟩ := f9 c' (by omega) h'
    obtain ⟨v1, v2⟩ := hv c' h
    exact ⟨u1.trans v1, u2.trans v2, u3.trans (z9 c'), u4.trans (b48 c')⟩
  · rw [f10, (hv (2 * sh) (by omega)).2, b48, t1, t2]
  · rw [f11, b48]
  · rw [f12, z9]
  · rw [hKT]
    unfold KTs
    rw [vZ, if_pos rfl, List.range_succ, List.map_append]
    congr 1
    · refine List.map_congr_left (fun k hk => ?_)
      have := List.mem_range.mp hk
      rw [w67, if_neg (by omega)]
    · show [(tI b1 67 0 (500 * sh + tZ a 19 sh)).toNatClampNeg] = _
      rw [w67, if_pos rfl]
  · rw [hKT]
    have hle := (hA.2.2.2.2.1 s hs).2.2.1
    exact KTs_eq (by rw [vZ, if_neg hne]) (fun k hk => by rw [w67, if_neg (by omega)])
