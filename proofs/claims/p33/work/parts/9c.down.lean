/-! ===== the loop over what comes down ===== -/
theorem x71_10 {a : TS} {z : Hp} {sh m k r : Nat} (hF : FxC a) (h36 : sh < tN a 36) (T5 : tR a 36 sh 3 = some (25, 0)) (T7 : tR a 36 sh 5 = some (22, sh)) (hP : LnP a 22 sh (2 * sh + 1) (2 * sh + 1)) (hL : LO a) (hk : k < m) (hz : m ≤ tZ a 9 (2 * sh + 1)) (hr : tR a 9 (2 * sh + 1) k = some (10, r)) (hr2 : r < tN a 10) :
    Ru 71 10 [(0, aR (some (36, sh))), (1, aI (Int32.ofNat m)), (2, aI (Int32.ofNat k))] [] (enc 1 a z) =
      if tI a 10 r 12 = tI a 25 0 0 then bodyD sh r (enc 1 a z) (fun h => Ru 71 10 [(0, aR (some (36, sh))), (1, aI (Int32.ofNat m)), (2, aI (Int32.ofNat (k + 1)))] [] h)
      else Ru 71 10 [(0, aR (some (36, sh))), (1, aI (Int32.ofNat m)), (2, aI (Int32.ofNat (k + 1)))] [] (enc 1 a z) := by
  obtain ⟨p1, p2, p3, p4, p5, p6, p7, p8, p9⟩ := hP
  have hz2 := hL.2.2 (2 * sh + 1) p9
  have i10 : isM 10 := ⟨by decide +kernel, by decide +kernel⟩
  have g1 : (Int32.ofNat k).toNatClampNeg = k := o_ix (by omega)
  have g2 : ¬ Int32.ofNat k < 0 := o_lt0 (by omega)
  have g3 : ¬ Int32.ofNat m ≤ Int32.ofNat k := by rw [o_le (by omega) (by omega)]; omega
  have g4 : k < tZ a 9 (2 * sh + 1) := by omega
  rw [lf_71_10]
  unfold bodyD
  by_cases e : tI a 10 r 12 = tI a 25 0 0
  · simp (config := {decide := true}) only [gfI_enc, gfL_enc, gfR_enc, pfI_enc, pfL_enc, pfR_enc, Option.bind_some, cI_v, cL_v, cF_v, cD_v, cR_v, cV_v, cI_x, cL_x, cR_x, cV_x, gz_0, gz_1, acc_enc, tI_sI, tL_sI, tR_sI, tN_sI, tZ_sI, tC_sI, tc_sI, tz_sI, tI_sL, tL_sL, tR_sL, tN_sL, tZ_sL, tC_sL, tc_sL, tz_sL, tI_sR, tL_sR, tR_sR, tN_sR, tZ_sR, tC_sR, tc_sR, tz_sR, tI_sZ, tL_sZ, tR_sZ, tN_sZ, tZ_sZ, tC_sZ, tc_sZ, tz_sZ, tI_sC, tL_sC, tR_sC, tN_sC, tZ_sC, tC_sC, tc_sC, tz_sC, tI_aC, tL_aC, tR_aC, tN_aC, tZ_aC, tC_aC, tc_aC, tz_aC, tI_rmL, tL_rmL, tR_rmL, tN_rmL, tZ_rmL, tC_rmL, tc_rmL, tz_rmL, tI_mk, tL_mk, tR_mk, tN_mk, tZ_mk, tC_mk, tc_mk, tz_mk, tI_pushL, tL_pushL, tR_pushL, tN_pushL, tZ_pushL, tC_pushL, tc_pushL, tz_pushL, tI_pushB, tL_pushB, tR_pushB, tN_pushB, tZ_pushB, tC_pushB, tc_pushB, tz_pushB, tI_cpL, tL_cpL, tR_cpL, tN_cpL, tZ_cpL, tC_cpL, tc_cpL, tz_cpL, eq_self, true_and, and_true, false_and, and_false, if_true, if_false, reduceIte, ite_true, ite_false, not_true_eq_false, not_false_eq_true, h36, T7, T5, gR_o p1, p2, p8, p9, X402, g1, g2, g3, g4, hr, acc_m i10, hr2, gm i10 hr2, fcN_25 hF, e, o_s]
  · simp (config := {decide := true}) only [gfI_enc, gfL_enc, gfR_enc, pfI_enc, pfL_enc, pfR_enc, Option.bind_some, cI_v, cL_v, cF_v, cD_v, cR_v, cV_v, cI_x, cL_x, cR_x, cV_x, gz_0, gz_1, acc_enc, tI_sI, tL_sI, tR_sI, tN_sI, tZ_sI, tC_sI, tc_sI, tz_sI, tI_sL, tL_sL, tR_sL, tN_sL, tZ_sL, tC_sL, tc_sL, tz_sL, tI_sR, tL_sR, tR_sR, tN_sR, tZ_sR, tC_sR, tc_sR, tz_sR, tI_sZ, tL_sZ, tR_sZ, tN_sZ, tZ_sZ, tC_sZ, tc_sZ, tz_sZ, tI_sC, tL_sC, tR_sC, tN_sC, tZ_sC, tC_sC, tc_sC, tz_sC, tI_aC, tL_aC, tR_aC, tN_aC, tZ_aC, tC_aC, tc_aC, tz_aC, tI_rmL, tL_rmL, tR_rmL, tN_rmL, tZ_rmL, tC_rmL, tc_rmL, tz_rmL, tI_mk, tL_mk, tR_mk, tN_mk, tZ_mk, tC_mk, tc_mk, tz_mk, tI_pushL, tL_pushL, tR_pushL, tN_pushL, tZ_pushL, tC_pushL, tc_pushL, tz_pushL, tI_pushB, tL_pushB, tR_pushB, tN_pushB, tZ_pushB, tC_pushB, tc_pushB, tz_pushB, tI_cpL, tL_cpL, tR_cpL, tN_cpL, tZ_cpL, tC_cpL, tc_cpL, tz_cpL, eq_self, true_and, and_true, false_and, and_false, if_true, if_false, reduceIte, ite_true, ite_false, not_true_eq_false, not_false_eq_true, h36, T7, T5, gR_o p1, p2, p8, p9, X402, g1, g2, g3, g4, hr, acc_m i10, hr2, gm i10 hr2, fcN_25 hF, e, o_s]
theorem x71_end {a : TS} {z : Hp} {sh m : Nat} (h36 : sh < tN a 36) (T7 : tR a 36 sh 5 = some (22, sh)) : Ru 71 10 [(0, aR (some (36, sh))), (1, aI (Int32.ofNat m)), (2, aI (Int32.ofNat m))] [] (enc 1 a z) = cV (Ex 39 [aR (some (22, sh))] (enc 1 a z)) (fun h => some (.inl none, h)) xT := by
  have g3 : Int32.ofNat m ≤ Int32.ofNat m := Int32.le_refl _
  rw [lf_71_10]
  simp (config := {decide := true}) only [gfI_enc, gfL_enc, gfR_enc, pfI_enc, pfL_enc, pfR_enc, Option.bind_some, cI_v, cL_v, cF_v, cD_v, cR_v, cV_v, cI_x, cL_x, cR_x, cV_x, gz_0, gz_1, acc_enc, tI_sI, tL_sI, tR_sI, tN_sI, tZ_sI, tC_sI, tc_sI, tz_sI, tI_sL, tL_sL, tR_sL, tN_sL, tZ_sL, tC_sL, tc_sL, tz_sL, tI_sR, tL_sR, tR_sR, tN_sR, tZ_sR, tC_sR, tc_sR, tz_sR, tI_sZ, tL_sZ, tR_sZ, tN_sZ, tZ_sZ, tC_sZ, tc_sZ, tz_sZ, tI_sC, tL_sC, tR_sC, tN_sC, tZ_sC, tC_sC, tc_sC, tz_sC, tI_aC, tL_aC, tR_aC, tN_aC, tZ_aC, tC_aC, tc_aC, tz_aC, tI_rmL, tL_rmL, tR_rmL, tN_rmL, tZ_rmL, tC_rmL, tc_rmL, tz_rmL, tI_mk, tL_mk, tR_mk, tN_mk, tZ_mk, tC_mk, tc_mk, tz_mk, tI_pushL, tL_pushL, tR_pushL, tN_pushL, tZ_pushL, tC_pushL, tc_pushL, tz_pushL, tI_pushB, tL_pushB, tR_pushB, tN_pushB, tZ_pushB, tC_pushB, tc_pushB, tz_pushB, tI_cpL, tL_cpL, tR_cpL, tN_cpL, tZ_cpL, tC_cpL, tc_cpL, tz_cpL, eq_self, true_and, and_true, false_and, and_false, if_true, if_false, reduceIte, ite_true, ite_false, not_true_eq_false, not_false_eq_true, h36, T7, g3]
def DdB : List Nat := [49, 50, 51, 52, 66, 67, 68, 74, 75, 86, 87]
def DnI (a0 b0 a b : TS) (sh k : Nat) : Prop :=
  (R0 a b ∧ Nt a b ∧ Ln0 a b ∧ As a b ∧ Kp a b ∧ PS a0 a b0 b) ∧ (∀ c', c' < 2 * tZ a0 27 0 → vA a c' = vA a0 c' ∧ tZ a 9 c' = tZ a0 9 c') ∧ (∀ c', c' < 2 * tZ a0 27 0 → c' ≠ 2 * sh + 1 → vQ b c' = vQ b0 c') ∧
  vQ b (2 * sh + 1) = rst (tI b0 95 0 1) ((vQ b0 (2 * sh + 1)).take k) ++ (vQ b0 (2 * sh + 1)).drop k ∧
  (chF [18, 19] FpA a0 a ∧ chF DdB [] b0 b ∧ groQ b0 b ∧ Stt b0 b ∧ Wr a0 a ∧ Wr b0 b) ∧ (∀ s, tN a s = tN a0 s) ∧ (∀ s, tN b s = tN b0 s) ∧ ∀ s, s < tZ a0 27 0 → Ers (KTs a0 b0 s) (KTs a b s)
theorem dn_tick {b b' : TS} (h : chF DdB [] b b') : tI b' 95 0 1 = tI b 95 0 1 := dI h (S := []) (P := [(95, 1)]) (s := 95) (k := 1) (by decide) (by simp) 0
theorem dn_shop {a a' : TS} (h : chF [18, 19] FpA a a') : tZ a' 27 0 = tZ a 27 0 := dZ h (S := [27]) (P := []) (s := 27) (by decide) (by simp) 0
/-- a mail comes down -/
def EvT (a b a' b' : TS) : Prop := ∃ sh g q b1 pre post, sh < tZ a 27 0 ∧ vQ b (2 * sh + 1) = pre ++ (tI b 95 0 1, q) :: post ∧ vQ b1 (2 * sh + 1) = pre ++ post ∧ (∀ c', c' < 2 * tZ a 27 0 → c' ≠ 2 * sh + 1 → vQ b1 c' = vQ b c') ∧
  chF [49, 50, 51, 52, 74, 75] [] b b1 ∧ dnM a b1 sh g q ∧ RtE a b1 a' b' sh g ∧ (∀ c', c' < 2 * tZ a 27 0 → vQ b' c' = vQ b1 c') ∧ (R0 a b ∧ Nt a b ∧ Ln0 a b ∧ As a b ∧ Kp a b) ∧ Rtn a a' b1 b'
def EvW (a b a' b' : TS) : Prop := EvT a b a' b' ∨ EvD a b a' b'
set_option maxHeartbeats 4000000 in
theorem dn_step {a0 b0 a b : TS} {sh k : Nat} (hI : DnI a0 b0 a b sh k) (hD : LnD a0 b0 sh) (hsh : sh < tZ a0 27 0) (hk : k < (vQ b0 (2 * sh + 1)).length) :
    ∃ a' b', DnI a0 b0 a' b' sh (k + 1) ∧ (∀ z, Ru 71 10 [(0, aR (some (36, sh))), (1, aI (Int32.ofNat (vQ b0 (2 * sh + 1)).length)), (2, aI (Int32.ofNat k))] [] (enc 1 a z) = Ru 71 10 [(0, aR (some (36, sh))), (1, aI (Int32.ofNat (vQ b0 (2 * sh + 1)).length)), (2, aI (Int32.ofNat (k + 1)))] [] (enc 1 a' z)) ∧ (∀ z, RefD sh (tI b0 95 0 1) b z = RefD sh (tI b0 95 0 1) b' z) ∧ StpE EvW a b a' b' := by
  obtain ⟨⟨hR, hN, hL, hA, hK, hP⟩, i1, i2, i3, ⟨j1, j2, j3, j4, j5, j6⟩, n1, n2, n3⟩ := hI
  have hfc := r_FC hR
  have z27 := dn_shop j1
  have hsh' : sh < tZ a 27 0 := by omega
  obtain ⟨S1, S2, ⟨S3, S4, S5', S6, S7, S8⟩, S9, S10⟩ := r_S hR
  obtain ⟨T1, T2, T3, T4, T5, T6, T7, T8, T9, T10, T11⟩ := S10 sh hsh'
  have hv := (i1 (2 * sh + 1) (by omega)).1
  have hlen : (vA a (2 * sh + 1)).length = (vQ b0 (2 * sh + 1)).length := by rw [hv]; exact L2_len hD
  obtain ⟨hLP, m, hm, hmz⟩ := hL.1.2.2 (2 * sh + 1) (by omega)
  have e1 : 21 + (2 * sh + 1) % 2 = 22 := by omega
  have e2 : (2 * sh + 1) / 2 = sh := by omega
  rw [e1, e2] at hLP hm
  have hvA : vA a (2 * sh + 1) = vL a (2 * sh + 1) m := vA_of hL.1 (by omega) (by rw [e1, e2]; exact hm) hmz
  have hmm : m = (vQ b0 (2 * sh + 1)).length := by rw [← hlen, hvA, vL_len]
  subst hmm
  have h9 : 2 * sh + 1 < tN a 9 := by rw [hL.1.2.1]; omega
  obtain ⟨r, r1, r2⟩ := hL.1.1.1 (2 * sh + 1) h9 k (by omega)
  have hat : (vA a0 (2 * sh + 1))[k]? = some (tI a 10 r 12, mv a 10 r) := by
    rw [← hv, hvA]
    unfold vL
    rw [List.getElem?_map, List.getElem?_range hk, Option.map_some, r2]
    rfl
  obtain ⟨⟨d', g⟩, y1, y2, y3⟩ := L2_at hD hat
  have y2' : tI a 10 r 12 = d' := y2
  have tk := tick_of hR
  have tb := dn_tick j2
  have st := fun z => x71_10 (z := z) (k := k) (r := r) (m := (vQ b0 (2 * sh + 1)).length) hfc (by omega) T5 T7 hLP hL.1.1 hk hmz r2 r1
  by_cases e : tI a 10 r 12 = tI a 25 0 0
  · -- it comes
    have ed : d' = tI b0 95 0 1 := by rw [← y2', e, tk, tb]
    have hq : vQ b (2 * sh + 1) = rst (tI b0 95 0 1) ((vQ b0 (2 * sh + 1)).take k) ++ (tI b0 95 0 1, g) :: (vQ b0 (2 * sh + 1)).drop (k + 1) := by rw [i3, drop_s y1, ed]
    obtain ⟨b1, q, t1, t2, t3, t4, hC⟩ := x156_s (t := tI b0 95 0 1) (n := 2 * tZ a 27 0) (c := 2 * sh + 1) hL.2.1 (by omega) hq (fun e he => by
      unfold rst at he
      have := (List.mem_filter.mp he).2
      simpa using this)
    have e3 : 74 + (2 * sh + 1) % 2 = 75 := by omega
    rw [e3, e2] at t1
    obtain ⟨hR1, hN1, hL1, hP1, hq1, c1, w1⟩ := take_R hR hN hL hC
    obtain ⟨K1, K2, K3, K4, K5, K6, K7, K8, K9⟩ := hC
    have ca : chF [] [] a a := chF_r _ _ _
    have hA1 : As a b1 := As_c hA ca c1 (by decide) (by decide)
    have hK1 : Kp a b1 := Kp_c hK ca c1 (by decide) (by decide) hP1 hq1 (fun p _ h => Stt_1 (Stt_c c1 (by decide)) p h)
    have hqi : q.2 < tN b1 q.1 := by rw [K5]; exact t3
    have hqv : qv b1 (some q) = g := by rw [← t4]; exact qv_congr (fun f => (hq1 q.1 t2).2 q.2 t3 f)
    have hmd : dnM a b1 sh (mv a 10 r) (qv b1 (some q)) := by
      rw [hqv]
      exact dnM_c (dnM_c y3 hP) hP1
    obtain ⟨a2, b2, x, y, hRtn, hRtE⟩ := sim_rtn hR1 hN1 hA1 hK1 hsh' r1 t2 hqi hmd
    have hRtn0 := hRtn
    obtain ⟨⟨h1, h2, h3, h4, h5⟩, h6, h7, h8, h9', h10, h11, h12, h13, h14⟩ := hRtn
    obtain ⟨hL2, hv2⟩ := Ln0_o hL1 h6 h7 (by decide) (by decide) (by decide) h8
    have tb1 : tI b1 95 0 1 = tI b 95 0 1 := dI c1 (S := []) (P := [(95, 1)]) (s := 95) (k := 1) (by decide) (by simp) 0
    have tb2 : tI b2 95 0 1 = tI b1 95 0 1 := dI h7 (S := []) (P := [(95, 1)]) (s := 95) (k := 1) (by decide) (by simp) 0
    have hSt : StpE EvW a b a2 b2 := StpE_1 (Or.inl ⟨sh, mv a 10 r, g, b1, _, _, hsh', by rw [hq, tb], K2, fun c' hc hne => K3 c' hc hne, c1, by rw [← hqv]; exact hmd, hRtE, fun c' hc => (hv2 c' hc).2, ⟨hR, hN, hL, hA, hK⟩, hRtn0⟩)
    have z9 : ∀ c, tZ a2 9 c = tZ a 9 c := dZ h6 (S := [9]) (P := []) (s := 9) (by decide) (by simp)
    refine ⟨a2, b2, ⟨⟨h1, h2, hL2, h3, h4, PS_t hP (PS_t hP1 h5)⟩, fun c' hc => ?_, fun c' hc hne => ?_, ?_, ⟨?_, ?_, ?_, Stt_t (Stt_t j4 (Stt_c c1 (by decide))) h9', j5.t h10, (j6.t w1).t h11⟩, fun s => (h12 s).trans (n1 s), fun s => (h13 s).trans ((K5 s).trans (n2 s)), fun s hs => ?_⟩, fun z => ?_, fun z => ?_, hSt⟩
    · obtain ⟨v1, v2⟩ := i1 c' hc
      exact ⟨(hv2 c' (by omega)).1.trans v1, (z9 c').trans v2⟩
    · rw [(hv2 c' (by omega)).2, K3 c' (by omega) hne]
      exact i2 c' hc hne
    · rw [(hv2 (2 * sh + 1) (by omega)).2, K2, take_s y1, rst_s, if_pos ed]
    · exact chF_t j1 h6
    · exact chF_t (chF_t j2 (chF_m c1 (by decide) (by simp))) (chF_m h7 (by decide) (by simp))
    · exact groQ_t (groQ_t j3 hq1) h8
    · have e67 : KTs a b1 s = KTs a b s := KTs_eq rfl (fun k _ => dIS c1 (S := [67]) (P := []) (s := 67) (by decide) (by simp) 0 _)
      exact Ers_t (n3 s hs) (by rw [← e67]; exact h14 s (by omega))
    · rw [st, if_pos e, x]
    · exact RefD_s (r_FR h1) (by omega) (hL2.2.2.1 sh (by rw [dn_shop h6]; omega)).2 (by rw [tb2, tb1, tb]) t1 y
  · -- it doesn't
    have ed : ¬ d' = tI b0 95 0 1 := by rw [← y2', ← tb, ← tk]; exact e
    refine ⟨a, b, ⟨⟨hR, hN, hL, hA, hK, hP⟩, i1, i2, ?_, ⟨j1, j2, j3, j4, j5, j6⟩, n1, n2, n3⟩, fun z => ?_, fun z => rfl, StpE_r a b⟩
    · rw [i3, drop_s y1, take_s y1, rst_s, if_neg ed, List.append_assoc]
      rfl
    · rw [st, if_neg e]
theorem dn_loop {a0 b0 : TS} {sh : Nat} (hD : LnD a0 b0 sh) (hsh : sh < tZ a0 27 0) : ∀ n k a b, k + n = (vQ b0 (2 * sh + 1)).length → DnI a0 b0 a b sh k →
    ∃ a' b', DnI a0 b0 a' b' sh (vQ b0 (2 * sh + 1)).length ∧ (∀ z, Ru 71 10 [(0, aR (some (36, sh))), (1, aI (Int32.ofNat (vQ b0 (2 * sh + 1)).length)), (2, aI (Int32.ofNat k))] [] (enc 1 a z) = Ru 71 10 [(0, aR (some (36, sh))), (1, aI (Int32.ofNat (vQ b0 (2 * sh + 1)).length)), (2, aI (Int32.ofNat (vQ b0 (2 * sh + 1)).length))] [] (enc 1 a' z)) ∧ (∀ z, RefD sh (tI b0 95 0 1) b z = RefD sh (tI b0 95 0 1) b' z) ∧ StpE EvW a b a' b' := by
  intro n
  induction n with
  | zero =>
    intro k a b hk hI
    have : k = (vQ b0 (2 * sh + 1)).length := by omega
    subst this
    exact ⟨a, b, hI, fun _ => rfl, fun _ => rfl, StpE_r a b⟩
  | succ n ih =>
    intro k a b hk hI
    obtain ⟨a1, b1, h1, h2, h3, h4⟩ := dn_step hI hD hsh (by omega)
    obtain ⟨a2, b2, g1, g2, g3, g4⟩ := ih (k + 1) a1 b1 (by omega) h1
    exact ⟨a2, b2, g1, fun z => (h2 z).trans (g2 z), fun z => (h3 z).trans (g3 z), StpE_t h4 g4⟩
/-- what a round of hearing at a terminal leaves -/
def DnF (a0 b0 a b : TS) (sh : Nat) : Prop :=
  (R0 a b ∧ Nt a b ∧ Ln0 a b ∧ As a b ∧ Kp a b ∧ PS a0 a b0 b) ∧ LnD a b sh ∧ (∀ c', c' < 2 * tZ a0 27 0 → c' ≠ 2 * sh + 1 → vA a c' = vA a0 c' ∧ vQ b c' = vQ b0 c') ∧ (∀ c', tZ a 9 c' = tZ a0 9 c') ∧
  vQ b (2 * sh + 1) = rst (tI b0 95 0 1) (vQ b0 (2 * sh + 1)) ∧
  (chF [9, 18, 19, 21, 22] FpA a0 a ∧ chF DdB [] b0 b ∧ groQ b0 b ∧ Stt b0 b ∧ Wr a0 a ∧ Wr b0 b) ∧ (∀ s, tN a s = tN a0 s) ∧ (∀ s, tN b s = tN b0 s) ∧ ∀ s, s < tZ a0 27 0 → Ers (KTs a0 b0 s) (KTs a b s)
set_option maxHeartbeats 4000000 in
theorem sim_dn {a b : TS} {sh : Nat} (hR : R0 a b) (hN : Nt a b) (hL : Ln0 a b) (hA : As a b) (hK : Kp a b) (hD : LnD a b sh) (hsh : sh < tZ a 27 0) :
    ∃ a' b', (∀ z, Ex 71 [aR (some (36, sh))] (enc 1 a z) = some (.inl none, enc 1 a' z)) ∧ (∀ z, RefD sh (tI b 95 0 1) b z = Ru 205 2 [(0, aR (some (95, 0))), (1, aI (Int32.ofNat (sh + 1)))] [] (enc 2 b' z)) ∧ DnF a b a' b' sh ∧ StpE EvW a b a' b' := by
  have hfc := r_FC hR
  obtain ⟨S1, S2, ⟨S3, S4, S5', S6, S7, S8⟩, S9, S10⟩ := r_S hR
  obtain ⟨T1, T2, T3, T4, T5, T6, T7, T8, T9, T10, T11⟩ := S10 sh hsh
  have hlen : (vA a (2 * sh + 1)).length = (vQ b (2 * sh + 1)).length := L2_len hD
  obtain ⟨hLP, m, hm, hmz⟩ := hL.1.2.2 (2 * sh + 1) (by omega)
  have e1 : 21 + (2 * sh + 1) % 2 = 22 := by omega
  have e2 : (2 * sh + 1) / 2 = sh := by omega
  rw [e1, e2] at hLP hm
  have hvA : vA a (2 * sh + 1) = vL a (2 * sh + 1) m := vA_of hL.1 (by omega) (by rw [e1, e2]; exact hm) hmz
  have hmm : m = (vQ b (2 * sh + 1)).length := by rw [← hlen, hvA, vL_len]
  subst hmm
  have h36 : sh < tN a 36 := by omega
  have I0 : DnI a b a b sh 0 := ⟨⟨hR, hN, hL, hA, hK, PS_r a b⟩, fun _ _ => ⟨rfl, rfl⟩, fun _ _ _ => rfl, rfl, ⟨chF_r _ _ _, chF_r _ _ _, fun s _ => gro_r b s, Stt_r b, Wr.rf _, Wr.rf _⟩, fun _ => rfl, fun _ => rfl, fun _ _ => Ers_r _⟩
  obtain ⟨a1, b1, ⟨⟨hR1, hN1, hL1, hA1, hK1, hP1⟩, i1, i2, i3, ⟨j1, j2, j3, j4, j5, j6⟩, n1, n2, n3⟩, x, y, hSt⟩ := dn_loop hD hsh (vQ b (2 * sh + 1)).length 0 a b (Nat.zero_add _) I0
  rw [List.take_length, List.drop_length, List.append_nil] at i3
  have z27 := dn_shop j1
  obtain ⟨a2, x39, hd⟩ := x39T (c := 2 * sh + 1) hL1.1 (by omega)
  rw [e1, e2] at x39
  obtain ⟨hR2, hN2, hL2, hP2, ca, wa⟩ := drop_R hR1 hN1 hL1 hd
  have hSt2 : StpE EvW a b a2 b1 := StpE_t hSt (StpE_1 (Or.inr ⟨rfl, ca, ⟨hR1, hN1, hL1⟩, hR2, hN2, hL2⟩))
  obtain ⟨d1, d2, d3, d4, d5, d6, d7, d8, d9, d10, d11, d12, w⟩ := hd
  have tk : tI a1 25 0 0 = tI b 95 0 1 := (tick_of hR1).trans (dn_tick j2)
  have e3 : 74 + (2 * sh + 1) % 2 = 75 := by omega
  have tn := fun z => x156_n (t := tI b 95 0 1) (n := 2 * tZ a1 27 0) (c := 2 * sh + 1) hL1.2.1 (by omega) (fun e he => by
    rw [i3] at he
    have := (List.mem_filter.mp he).2
    simpa using this) z
  rw [e3, e2] at tn
  have cb : chF [] [] b1 b1 := chF_r _ _ _
  have h36' : sh < tN a1 36 := by rw [n1]; exact h36
  have T7' : tR a1 36 sh 5 = some (22, sh) := (dRP j1 (S := []) (P := [(36, 0)]) (s := 36) (k := 0) (by decide) (by simp) sh 5).trans T7
  refine ⟨a2, b1, fun z => ?_, fun z => ?_, ⟨⟨hR2, hN2, hL2, As_c hA1 ca cb (by decide) (by decide), Kp_c hK1 ca cb (by decide) (by decide) hP2 (fun s _ => gro_r b1 s) (fun p _ h => h), PS_t hP1 hP2⟩, ?_, fun c' hc hne => ?_, fun c' => ?_, i3, ⟨?_, j2, j3, j4, j5.t w, j6⟩, fun s => by rw [d8]; exact n1 s, n2, fun s hs => by rw [KTs_eq (a := a1) (b := b1) (a' := a2) (b' := b1) (by rw [d9]) (fun _ _ => rfl)]; exact n3 s hs⟩, hSt2⟩
  · refine (X_in (by decide +kernel) (h36) rfl).trans ((lf_71_0 ..).trans ?_)
    have hs := hLP.1
    have p2 := hLP.2.1
    simp (config := {decide := true}) only [gfI_enc, gfL_enc, gfR_enc, pfI_enc, pfL_enc, pfR_enc, Option.bind_some, cI_v, cL_v, cF_v, cD_v, cR_v, cV_v, cI_x, cL_x, cR_x, cV_x, gz_0, gz_1, acc_enc, tI_sI, tL_sI, tR_sI, tN_sI, tZ_sI, tC_sI, tc_sI, tz_sI, tI_sL, tL_sL, tR_sL, tN_sL, tZ_sL, tC_sL, tc_sL, tz_sL, tI_sR, tL_sR, tR_sR, tN_sR, tZ_sR, tC_sR, tc_sR, tz_sR, tI_sZ, tL_sZ, tR_sZ, tN_sZ, tZ_sZ, tC_sZ, tc_sZ, tz_sZ, tI_sC, tL_sC, tR_sC, tN_sC, tZ_sC, tC_sC, tc_sC, tz_sC, tI_aC, tL_aC, tR_aC, tN_aC, tZ_aC, tC_aC, tc_aC, tz_aC, tI_rmL, tL_rmL, tR_rmL, tN_rmL, tZ_rmL, tC_rmL, tc_rmL, tz_rmL, tI_mk, tL_mk, tR_mk, tN_mk, tZ_mk, tC_mk, tc_mk, tz_mk, tI_pushL, tL_pushL, tR_pushL, tN_pushL, tZ_pushL, tC_pushL, tc_pushL, tz_pushL, tI_pushB, tL_pushB, tR_pushB, tN_pushB, tZ_pushB, tC_pushB, tc_pushB, tz_pushB, tI_cpL, tL_cpL, tR_cpL, tN_cpL, tZ_cpL, tC_cpL, tc_cpL, tz_cpL, eq_self, true_and, and_true, false_and, and_false, if_true, if_false, reduceIte, ite_true, ite_false, not_true_eq_false, not_false_eq_true, h36, T7, gI_o hs, p2, hm]
    refine Eq.trans (x z) ?_
    rw [x71_end h36' T7', x39, cV_v]
  · rw [y]
    exact RefD_n tn
  · unfold LnD
    rw [d2, i3, tk, (i1 (2 * sh + 1) (by omega)).1]
    refine L2_filter (L2_mono (fun _ _ q => ⟨q.1, dnM_c q.2 (PS_t hP1 hP2)⟩) hD) (fun x y q => ?_)
    rw [q.1]
  · exact ⟨(d3 c' (by omega) hne).trans (i1 c' hc).1, i2 c' hc hne⟩
  · rw [d9]
    exact dZ j1 (S := [9]) (P := []) (s := 9) (by decide) (by simp) c'
  · exact chF_t (chF_m j1 (by decide) (fun q h => Or.inl h)) (chF_m ca (by decide) (by simp))
