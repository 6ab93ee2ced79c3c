/-! ===== a new message is about to be sent ===== -/
theorem pre_keep {D D' : List Nat} {F F' : List (Nat × Nat)} {a a2 b b2 : TS} {C C2 T e : Nat} (hA : Al a b) (hM : Rm0 a b C T (fun _ => T + 1)) (hR2 : R0 a2 b2) (ca : chF D F a a2) (cb : chF D' F' b b2)
    (hd : dpk D F [5, 6, 8, 9, 10, 15, 16, 17, 18, 19, 21, 22, 27, 28, 29] [(31, 2)] = true) (hdD : dpk D [] [15, 27, 28, 29] [] = true) (hd25 : 25 ∉ D) (hd' : dpk D' F' [48, 49, 50, 51, 52, 65, 66, 67, 68, 71, 72, 73, 74, 75, 79, 80, 81, 87] [(95, 1), (95, 4), (95, 5)] = true) (gq' : groQ b b2)
    (g12 : gro a a2 12) (g23 : gro a a2 23) (g39 : gro a a2 39) (s70 : ∀ p, p < tZ a 29 0 → tI b 70 0 p ≠ 0 → tI b2 70 0 p ≠ 0) (s69 : ∀ s m, s < tZ a 27 0 → tI b 69 0 s = Int32.ofNat m → m ≤ 100 → ∃ m', tI b2 69 0 s = Int32.ofNat m' ∧ m ≤ m' ∧ m' ≤ 100)
    (hKcb : Kc a2 = Kc a + 1 ∧ Kb b2 = Kb b + 1) (hC : C ≤ C2 ∧ C2 ≤ 512) (hG1 : GK a2 b2 + 1 ≤ GK a b + (C2 - C)) (hG2 : e + 301 * GK a2 b2 ≤ 301 * GK a b + 100 * (C2 - C)) :
    Al a2 b2 ∧ RmO a2 b2 C2 T e 0 ∧ PS a a2 b b2 ∧ Kst a a2 b b2 ∧ tZ a2 27 0 = tZ a 27 0 ∧ tZ a2 29 0 = tZ a 29 0 ∧ (∀ s, tZ a2 19 s = tZ a 19 s) ∧ (∀ s k, tR a2 19 s k = tR a 19 s k) := by
  obtain ⟨hR, hN, hL, hAs, hK⟩ := hA
  obtain ⟨hKc, hKb⟩ := hKcb
  obtain ⟨m1, m2, m3, m4, m5, m6, m7⟩ := hM
  have hP : PS a a2 b b2 := PS_c ca cb (dpk_sub hdD (by decide) (by simp)) (dpk_sub hd' (by decide) (by simp))
  have z27 : tZ a2 27 0 = tZ a 27 0 := dZ ca hd (s := 27) (by decide) 0
  have z29 : tZ a2 29 0 = tZ a 29 0 := dZ ca hd (s := 29) (by decide) 0
  have z9 : ∀ c, tZ a2 9 c = tZ a 9 c := dZ ca hd (s := 9) (by decide)
  have z19 : ∀ s, tZ a2 19 s = tZ a 19 s := dZ ca hd (s := 19) (by decide)
  have r19 : ∀ s k, tR a2 19 s k = tR a 19 s k := dR ca hd (s := 19) (by decide)
  have nA : ∀ s, s ∈ [5, 6, 16, 17] → tN a2 s = tN a s := fun s hs => dN ca hd (by simp only [List.mem_cons, List.not_mem_nil, or_false] at hs ⊢; omega)
  have nB : ∀ s, s ∈ [79, 80, 81] → tN b2 s = tN b s := fun s hs => dN cb hd' (by simp only [List.mem_cons, List.not_mem_nil, or_false] at hs ⊢; omega)
  have iB : ∀ s, s ∈ [48, 67, 87] → ∀ i k, tI b2 s i k = tI b s i k := fun s hs => dIS cb hd' (by simp only [List.mem_cons, List.not_mem_nil, or_false] at hs ⊢; omega)
  obtain ⟨hL1, hv⟩ := Ln0_o hL.1 ca cb (dpk_sub hd (by decide) (by simp)) hd25 (dpk_sub hd' (by decide) (by simp)) gq'
  have hst : Kst a a2 b b2 := ⟨hP, g12, g23, g39, gq', fun p _ h => by rw [iB 87 (by simp)]; exact h, s70, s69⟩
  have hKT : ∀ s, KTs a2 b2 s = KTs a b s := fun s => KTs_eq (z19 s) (fun k _ => iB 67 (by simp) 0 _)
  have hK2 : Kp a2 b2 := by
    refine ⟨fun s hs => ?_, fun s hs => ?_⟩
    · rw [z27] at hs
      exact Kp1_c (hK.1 s hs) hs hst (z19 s) (dC ca hd (s := 19) (by decide) s) (r19 s) (dIS cb hd' (s := 68) (by decide) 0 s) (fun k _ => dR cb hd' (s := 66) (by decide) 0 _) (fun k _ => iB 67 (by simp) 0 _)
    · rw [z27] at hs
      rw [dIS cb hd' (s := 68) (by decide)]
      exact hK.2 s hs
  have hNt : Nt a2 b2 := Nt_c hN ca cb (by rw [Bool.and_eq_true]; exact ⟨dpk_sub hdD (by decide) (by simp), dpk_sub hd (by simp) (by simp)⟩) (dpk_sub hd' (by decide) (by decide)) hP.1 (gro_c ca (dpk_sub hd (by decide) (by simp))) gq'
  refine ⟨⟨hR2, hNt, Ln_c hL hL1 hP z27 hv, As_c hAs ca cb (dpk_sub hd (by decide) (by simp)) (dpk_sub hd' (by decide) (by simp)), hK2⟩, ⟨m1, hC.2, ?_, ?_, ?_, fun s hs => ?_, Kc a, hKc.symm, fun s hs => ?_⟩, hP, hst, z27, z29, z19, r19⟩
  · rw [dI cb hd' (s := 95) (k := 1) (by decide)]
    exact m3
  · rw [hKc, hKb, z29]
    omega
  · have e1 : sumS (tZ a 27 0) (phi a2 b2) = sumS (tZ a 27 0) (phi a b) := sumS_eq _ (fun s hs => by
      unfold phi
      rw [(hv (2 * s) (by omega)).2, hKT, iB 48 (by simp)])
    have e2 : Mt b2 = Mt b := by unfold Mt; rw [nB 79 (by simp), nB 80 (by simp), nB 81 (by simp)]
    rw [z27, z29, e1, e2]
    omega
  · have e1 : sumS (tZ a 27 0) (fun s' => ask0 (vQ b2 (2 * s'))) = sumS (tZ a 27 0) (fun s' => ask0 (vQ b (2 * s'))) := sumS_eq _ (fun s hs => by rw [(hv (2 * s) (by omega)).2])
    rw [z27, z29, nA s hs, e1]
    exact m6 s hs
  · rw [z27] at hs
    rw [hKT, (hv (2 * s) (by omega)).2, (hv (2 * s + 1) (by omega)).2, z9, z9]
    exact m7 s hs
/-! ===== a BACK MONEY is sent alike ===== -/
theorem bkN_dec {b b' : TS} {s m : Nat} (hs : s < 4) (h : tI b 69 0 s = Int32.ofNat m) (h' : tI b' 69 0 s = Int32.ofNat (m + 1)) (hm : m < 100) (ho : ∀ k, k ≠ s → tI b' 69 0 k = tI b 69 0 k) : bkN b' + 1 ≤ bkN b := by
  have key : sumS 4 (fun s => 100 - (tI b' 69 0 s).toNatClampNeg) + 1 ≤ sumS 4 (fun s => 100 - (tI b 69 0 s).toNatClampNeg) + 0 := by
    refine sumS_at (s := s) ?_ 4 hs (fun s' hs' hne => ?_)
    · rw [h, h', o_ix (by omega), o_ix (by omega)]
      omega
    · rw [ho s' hne]
      exact Nat.le_refl _
  exact key
/-- BACK MONEY is sent -/
def EvB (a b a' b' : TS) : Prop := ∃ sh p m o q g, sh < tZ a 27 0 ∧ p < tZ a 29 0 ∧ KpE a b a' b' sh o q g ∧ (g 0 = 3 ∧ g 1 = Int32.ofNat p ∧ g 7 = Int32.ofNat m ∧ g 13 = 0) ∧
  chF [8, 9, 10, 19, 21, 22, 39] ((36, 9) :: FkA) a a' ∧ chF [48, 49, 50, 51, 52, 66, 67, 68, 69, 74, 75, 78] [] b b' ∧ Al a b ∧ Al a' b'
set_option maxHeartbeats 4000000 in
theorem core_back {a b : TS} {C sh p m : Nat} {v : Int32} (h : Core a b C) (hsh : sh < tZ a 27 0) (hp : p < tZ a 29 0) (hps : tI b 87 0 (10 * p + 2) = Int32.ofNat sh) (hm : m < 100) (h69 : tI b 69 0 sh = Int32.ofNat m) (hv : ¬ v < 0) :
    ∃ a' b', (∀ z, Ex 70 [aR (some (36, sh)), aR (some (39, tN a 39))] (enc 1 (bnA (bmA a p v (Int32.ofNat m)) sh (m + 1)) z) = some (.inl none, enc 1 a' z)) ∧ (∀ z, Ex 195 [aR (some (95, 0)), aI (Int32.ofNat sh), aR (some (78, tN b 78))] (enc 2 (bnB (bmB b p v (Int32.ofNat m)) sh (m + 1)) z) = some (.inl none, enc 2 b' z)) ∧ Core a' b' C ∧ Wr a a' ∧ Wr b b' ∧ sam txA a a' ∧ sam txB b b' ∧
      (tI a' 39 (tN a 39) 11 = Int32.ofNat m ∧ tN a 39 < tN a' 39) ∧ (tI b' 78 (tN b 78) 7 = Int32.ofNat m ∧ tN b 78 < tN b' 78) ∧ EvB a b a' b' := by
  obtain ⟨hA, ⟨T, hM⟩, ht⟩ := h
  have hR := hA.1
  have hK := hA.2.2.2.2
  obtain ⟨S1, S2, ⟨S3, S4, S5', S6, S7, S8⟩, S9, S10⟩ := r_S hR
  have P1 := (r_P' hR).1
  obtain ⟨ta, tw, tn, tg, tm'⟩ := bmA_eq a p v (Int32.ofNat m)
  obtain ⟨sa, sw, sn, sg, sm⟩ := bmB_eq b p v (Int32.ofNat m)
  have hR1 : R0 (bmA a p v (Int32.ofNat m)) (bmB b p v (Int32.ofNat m)) := by
    have ha := ta
    have hb := sa
    have wa := tw
    have wb := sw
    obtain ⟨hFC, hFR, hB, hS, hM, hW, hV, hC, hD, hE, hP, hQ, hH, hK, hG, hO, hZ⟩ := hR
    exact ⟨FxC_s hFC wa ha (by decide), FxR_s hFR wb hb (by decide), RB_c hB ha hb (by decide) (by decide), RS_c hS ha hb (by decide) (by decide), RM_c hM ha hb (by decide) (by decide), RW_c hW ha hb (by decide) (by decide), RV_c hV ha hb (by decide) (by decide), RC_c hC ha hb (by decide) (by decide), RD_c hD ha hb (by decide) (by decide), RE_c hE ha hb (by decide) (by decide), RP_c hP ha hb (by decide) (by decide), RQ_c hQ ha hb (by decide) (by decide), RH_c hH ha hb (by decide) (by decide), RK_c hK ha hb (by decide) (by decide) (gro_c ha (by decide)) (gro_c ha (by decide)) (gro_c ha (by decide)) (gro_c ha (by decide)), RG_c hG ha hb (by decide) (by decide), RO_c hO ha hb (by decide) (by decide), RZ_c hZ ha hb (by decide) (by decide)⟩
  generalize bmA a p v (Int32.ofNat m) = a1 at *
  generalize bmB b p v (Int32.ofNat m) = b1 at *
  obtain ⟨na, nb, nwa, nwb⟩ := bn_eq a1 b1 sh (m + 1)
  have hR2 := bn_R (s := sh) (m := m + 1) hR1 (by rw [dZ ta (S := [27]) (P := []) (s := 27) (by decide) (by simp) 0]; exact hsh) (by omega)
  have v69 : ∀ k, tI (bnB b1 sh (m + 1)) 69 0 k = if k = sh then Int32.ofNat (m + 1) else tI b 69 0 k := fun k => by
    have e1 : tI b1 69 0 k = tI b 69 0 k := dIS sa (S := [69]) (P := []) (s := 69) (by decide) (by simp) 0 k
    unfold bnB
    rw [tI_sI, e1]
    by_cases e : k = sh
    · rw [if_pos e, if_pos ⟨rfl, rfl, e⟩]
    · rw [if_neg e, if_neg (fun q => e q.2.2)]
  have n2A : ∀ s, tN (bnA a1 sh (m + 1)) s = if s = 39 then tN a 39 + 1 else tN a s := fun s => by unfold bnA; rw [tN_sI]; exact tn s
  have n2B : ∀ s, tN (bnB b1 sh (m + 1)) s = if s = 78 then tN b 78 + 1 else tN b s := fun s => by unfold bnB; rw [tN_sI]; exact sn s
  have mvE : mv (bnA a1 sh (m + 1)) 39 (tN a 39) = mv a1 39 (tN a 39) := mv_congr (fun f _ _ => dIS na (S := [39]) (P := []) (s := 39) (by decide) (by simp) _ _)
  have qvE : qv (bnB b1 sh (m + 1)) (some (78, tN b 78)) = qv b1 (some (78, tN b 78)) := qv_congr (fun f => dIS nb (S := [78]) (P := []) (s := 78) (by decide) (by simp) _ _)
  have ca : chF [39] [(36, 9)] a (bnA a1 sh (m + 1)) := chF_t (chF_m ta (by simp) (by simp)) (chF_m na (by simp) (by simp))
  have cb : chF [69, 78] [] b (bnB b1 sh (m + 1)) := chF_t (chF_m sa (by simp) (by simp)) (chF_m nb (by simp) (by simp))
  have gq1 : groQ b1 (bnB b1 sh (m + 1)) := groQ_c nb (by decide +kernel)
  have gq2 := groQ_t sg gq1
  have g39 : gro a (bnA a1 sh (m + 1)) 39 := ⟨by rw [n2A, if_pos rfl]; omega, fun i hi k => (dIS na (S := [39]) (P := []) (s := 39) (by decide) (by simp) i k).trans (tg.2 i hi k)⟩
  have wa2 : Wr a (bnA a1 sh (m + 1)) := tw.t nwa
  have wb2 : Wr b (bnB b1 sh (m + 1)) := sw.t nwb
  generalize bnA a1 sh (m + 1) = a2 at *
  generalize bnB b1 sh (m + 1) = b2 at *
  have hKc : Kc a2 = Kc a + 1 := by
    unfold Kc
    rw [n2A, n2A, n2A, n2A, if_neg (by decide), if_neg (by decide), if_neg (by decide), if_pos rfl]
    omega
  have hKb : Kb b2 = Kb b + 1 := by
    unfold Kb
    rw [n2B, n2B, n2B, if_neg (by decide), if_neg (by decide), if_pos rfl]
    omega
  have hGK : GK a2 b2 + 1 ≤ GK a b := by
    have := bkN_dec (b := b) (b' := b2) (s := sh) (m := m) (by omega) h69 (by rw [v69, if_pos rfl]) hm (fun k hk => by rw [v69, if_neg hk])
    unfold GK
    rw [dZ ca (S := [29]) (P := []) (s := 29) (by decide) (by simp) 0, unsN_eq (fun p => dIS cb (S := [70]) (P := []) (s := 70) (by decide) (by simp) 0 p)]
    have e : askN b2 (tZ a 29 0) = askN b (tZ a 29 0) := by
      unfold askN
      simp only [dIS cb (S := [87]) (P := []) (s := 87) (by decide) (by simp) 0]
    omega
  have hC := hM.2.1
  obtain ⟨hA2, hO2, hP2, hst2, z27, z29, z19, r19⟩ := pre_keep (C2 := C) (e := 301) hA hM hR2 ca cb (by decide) (by decide) (by decide) (by decide) gq2 (gro_c ca (by decide)) (gro_c ca (by decide)) g39 (fun q _ hq => by rw [dIS cb (S := [70]) (P := []) (s := 70) (by decide) (by simp)]; exact hq) (fun s m' hs e1 e2 => by
    by_cases e : s = sh
    · subst e
      rw [h69] at e1
      have : m = m' := o_inj (by omega) (by omega) e1
      subst this
      exact ⟨m + 1, by rw [v69, if_pos rfl], by omega, by omega⟩
    · exact ⟨m', by rw [v69, if_neg e]; exact e1, Nat.le_refl _, e2⟩) ⟨hKc, hKb⟩ ⟨Nat.le_refl _, hC⟩ (by omega) (by omega)
  have g0 : mv a2 39 (tN a 39) 0 = 4 := by rw [mvE, tm', if_pos rfl]
  have g1 : mv a2 39 (tN a 39) 1 = Int32.ofNat p := by rw [mvE, tm', if_neg (by decide), if_pos rfl]
  have g5 : mv a2 39 (tN a 39) 5 = v := by rw [mvE, tm', if_neg (by decide), if_neg (by decide), if_neg (by decide), if_pos rfl]
  have g11 : mv a2 39 (tN a 39) 11 = Int32.ofNat m := by rw [mvE, tm', if_neg (by decide), if_neg (by decide), if_neg (by decide), if_neg (by decide), if_pos rfl]
  have g14 : mv a2 39 (tN a 39) 14 = 0 := by rw [mvE, tm', if_neg (by decide), if_neg (by decide), if_neg (by decide), if_neg (by decide), if_neg (by decide)]
  have q0 : qv b2 (some (78, tN b 78)) 0 = 3 := by rw [qvE, sm, if_pos rfl]
  have q1 : qv b2 (some (78, tN b 78)) 1 = Int32.ofNat p := by rw [qvE, sm, if_neg (by decide), if_pos rfl]
  have q4 : qv b2 (some (78, tN b 78)) 4 = v := by rw [qvE, sm, if_neg (by decide), if_neg (by decide), if_pos rfl]
  have q7 : qv b2 (some (78, tN b 78)) 7 = Int32.ofNat m := by rw [qvE, sm, if_neg (by decide), if_neg (by decide), if_neg (by decide), if_pos rfl]
  have q13 : qv b2 (some (78, tN b 78)) 13 = 0 := by rw [qvE, sm, if_neg (by decide), if_neg (by decide), if_neg (by decide), if_neg (by decide)]
  have e2 : tI b2 87 0 (10 * p + 2) = Int32.ofNat sh := by rw [dIS cb (S := [87]) (P := []) (s := 87) (by decide) (by simp)]; exact hps
  have hup : upM a2 b2 sh (mv a2 39 (tN a 39)) (qv b2 (some (78, tN b 78))) := ⟨by rw [g14]; rfl, by rw [q13, g14], by rw [q7, g11], by rw [q1, g1], Or.inr (Or.inr (Or.inr ⟨g0, q0, g14, by rw [q4, g5], by rw [g5]; exact hv, ⟨m, hm, g11⟩, p, by rw [z29]; exact hp, g1, e2⟩))⟩
  have hkc : kcd a2 b2 sh (mv a2 39 (tN a 39)) := Or.inr (Or.inr ⟨g0, m, m + 1, g11, by rw [v69, if_pos rfl], by omega, by omega⟩)
  have hnew : ∀ k, k < tZ a2 19 sh → kN (keyA a2 (tR a2 19 sh k)) ≠ kN (mv a2 39 (tN a 39) 0, mv a2 39 (tN a 39) 1, mv a2 39 (tN a 39) 11) := fun k hk e => by
    rw [z19] at hk
    have hkm := (hK.1 sh hsh).2.2.2.1 k hk
    rw [r19, keyA_c hkm hst2.g12 hst2.g23 hst2.g39] at e
    obtain ⟨c, i', q', k1, k2, k3, k4, k5, k6, k7, k8, k9, k10⟩ := hkm
    rw [k1] at e
    have e3 : kN (mv a c i' 0, mv a c i' 1, mv a c i' 11) = (4, Int32.ofNat m) := by
      rw [mv_at (Or.inl ⟨by decide, by decide⟩), mv_at (Or.inl ⟨by decide, by decide⟩), mv_at (Or.inl ⟨by decide, by decide⟩)]
      refine Eq.trans e ?_
      rw [g0, g1, g11]
      unfold kN
      dsimp only
      rw [if_pos rfl]
    have x1 : mv a c i' 0 = 4 := (Prod.mk.inj e3).1
    rcases k10 with ⟨y1, -⟩ | ⟨y1, -⟩ | ⟨y1, n', m', y2, y3, y4, y5⟩
    · rw [y1] at x1; exact absurd x1 (by decide)
    · rw [y1] at x1; exact absurd x1 (by decide)
    · have e4 : (mv a c i' 11) = Int32.ofNat m := by
        unfold kN at e3
        dsimp only at e3
        rw [y1] at e3
        exact (Prod.mk.inj e3).2
      rw [y2] at e4
      have : n' = m := o_inj (by omega) (by omega) e4
      subst this
      rw [h69] at y3
      have : n' = m' := o_inj (by omega) (by omega) y3
      omega
  have hsh2 : sh < tZ a2 27 0 := by rw [z27]; exact hsh
  obtain ⟨lim1, lim2⟩ := RmO_lim hO2 hsh2
  obtain ⟨a3, b3, x, y, hA3, hF3, hKe⟩ := sim_keep (sh := sh) (c := 39) (i := tN a 39) (q := (78, tN b 78)) hA2 hsh2 lim1 lim2 (Or.inr (Or.inr rfl)) (by rw [n2A, if_pos rfl]; omega) (show isQ 78 from ⟨by decide +kernel, by decide +kernel⟩) (by show tN b 78 < tN b2 78; rw [n2B, if_pos rfl]; omega) hup g14 hkc hnew
  have hM3 := RmO_keep hA2.1 hO2 hsh2 hF3 (by rw [q0]; decide)
  obtain ⟨-, hv⟩ := Ln0_o hA.2.2.1.1 ca cb (by decide) (by decide) (by decide) gq2
  have hkp : KpE a b a3 b3 sh (39, tN a 39) (78, tN b 78) (qv b2 (some (78, tN b 78))) := KpE_of (kL_c ca cb (by decide) (by decide)) (fun c hc => (hv c hc).2) (fun c => funext fun k => dIS cb (S := [48]) (P := []) (s := 48) (by decide) (by simp) c k) (dIS cb (S := [95]) (P := []) (s := 95) (by decide) (by simp) 0 1) (dIS cb (S := [95]) (P := []) (s := 95) (by decide) (by simp) 0 2) z27 hsh hF3 hKe (show isQ 78 from ⟨by decide +kernel, by decide +kernel⟩) (by show tN b 78 < tN b2 78; rw [n2B, if_pos rfl]; omega) rfl gq2
  obtain ⟨f1, f2, f3, f4, f5, f6, f7, f8, -⟩ := hF3
  refine ⟨a3, b3, x, y, ⟨hA3, ⟨T, hM3⟩, Tx_s ht (sam0_t (sam0_c ca (by decide)) (sam0_c f2 (by decide))) (sam0_t (sam0_c cb (by decide)) (sam0_c f3 (by decide)))⟩, wa2.t f5, wb2.t f6, sam_t (sam_c ca (by decide)) (sam_c f2 (by decide)), sam_t (sam_c cb (by decide)) (sam_c f3 (by decide)), ⟨?_, ?_⟩, ⟨?_, ?_⟩, ?_⟩
  · rw [dI f2 (S := []) (P := [(39, 11)]) (s := 39) (k := 11) (by decide) (by simp)]
    rw [mv_at (Or.inl ⟨by decide, by decide⟩)] at g11
    exact g11
  · rw [f7 39 (by decide), n2A, if_pos rfl]
    omega
  · rw [dIS f3 (S := [78]) (P := []) (s := 78) (by decide) (by simp)]
    rw [qv_at (by decide)] at q7
    exact q7
  · rw [f8 78 (by decide) (by decide), n2B, if_pos rfl]
    omega
  · exact ⟨sh, p, m, _, _, _, hsh, hp, hkp, ⟨q0, q1, q7, q13⟩, chF_t (chF_m ca (by decide) (by simp)) (chF_m f2 (by decide) (fun q h => Or.inl (List.mem_cons_of_mem _ h))), chF_t (chF_m cb (by decide) (by simp)) (chF_m f3 (by decide) (by simp)), hA, hA3⟩
