/-! ===== one more is kept ===== -/
def kpA (a : TS) (sh c i : Nat) (t : Int32) : TS := sI (pushL a 19 sh (some (c, i))) c i 13 t
def kpB (b : TS) (sh n : Nat) (q : Nat × Nat) (t : Int32) : TS := sI (sI (sR b 66 0 (500 * sh + n) (some q)) 67 0 (500 * sh + n) t) 68 0 sh (Int32.ofNat (n + 1))
def FkA : List (Nat × Nat) := [(12, 13), (23, 13), (39, 13)]
theorem isKp_F {c : Nat} (h : isKp c) : (c, 13) ∈ FkA := by rcases h with e | e | e <;> subst e <;> decide
theorem isKp_n {c : Nat} (h : isKp c) : c ≠ 19 := by rcases h with e | e | e <;> subst e <;> decide
theorem kp13 (a : TS) {c i : Nat} (t : Int32) (c' i' f : Nat) (h : ¬ (c' = c ∧ i' = i) ∨ f ≠ 13) : tI (sI a c i 13 t) c' i' f = tI a c' i' f := by
  rw [tI_sI, if_neg (fun q => h.elim (fun h => h ⟨q.1, q.2.1⟩) (fun h => h q.2.2))]
theorem kept_sh {a b : TS} {sh : Nat} {g q : Nat → Int32} (h : upM a b sh g q) (hk : kcd a b sh g) (h14 : g 14 = 0) : ∃ p, p < tZ a 29 0 ∧ g 1 = Int32.ofNat p ∧ tI b 87 0 (10 * p + 2) = Int32.ofNat sh := by
  obtain ⟨u1, u2, u3, u4, u5⟩ := h
  rcases u5 with ⟨v1, -⟩ | ⟨v1, v2, v3, v4, p, v5, v6, v7⟩ | ⟨v1, v2, v3, n, p, cd, cc, w0, w1, w2, w3, -, w5, -, -, -, w9, -, w11⟩ | ⟨v1, v2, v3, v4, v5, v6, p, v7, v8, v9⟩
  · rcases hk with ⟨e, -⟩ | ⟨e, -⟩ | ⟨e, -⟩ <;> rw [v1] at e <;> exact absurd e (by decide)
  · exact ⟨p, v5, v6, v7⟩
  · have e := w9 h14
    subst e
    exact ⟨n, w1, w5.1, (w11 h14).1⟩
  · exact ⟨p, v7, v8, v9⟩
set_option maxHeartbeats 4000000 in
theorem kp_add {a b : TS} {sh c i : Nat} {q : Nat × Nat} (hA : Al a b) (hsh : sh < tZ a 27 0) (hc : isKp c) (hi : i < tN a c) (hq : isQ q.1) (hqi : q.2 < tN b q.1) (hm : upM a b sh (mv a c i) (qv b (some q))) (h14 : mv a c i 14 = 0) (hk : kcd a b sh (mv a c i))
    (hnew : ∀ k, k < tZ a 19 sh → kN (keyA a (tR a 19 sh k)) ≠ kN (mv a c i 0, mv a c i 1, mv a c i 11)) {t : Int32} (ht : ∃ n, n ≤ 3000 ∧ t = Int32.ofNat n) :
    tZ a 19 sh < 500 ∧ Al (kpA a sh c i t) (kpB b sh (tZ a 19 sh) q t) ∧ PS a (kpA a sh c i t) b (kpB b sh (tZ a 19 sh) q t) ∧ chF [19] FkA a (kpA a sh c i t) ∧ chF [66, 67, 68] [] b (kpB b sh (tZ a 19 sh) q t) ∧ Wr a (kpA a sh c i t) ∧ Wr b (kpB b sh (tZ a 19 sh) q t) := by
  obtain ⟨hR, hN, hL, hAs, hK⟩ := hA
  obtain ⟨S1, S2, ⟨S3, S4, S5', S6, S7, S8⟩, S9, S10⟩ := r_S hR
  have hP200 := (r_P' hR).1
  have hK1 := hK.1 sh hsh
  obtain ⟨K1, K2, K3, K4, K5⟩ := hK1
  have h19 : sh < tN a 19 := by omega
  have c19 := isKp_n hc
  have e0 : mv a c i 0 = tI a c i 0 := mv_at (Or.inl ⟨by decide, by decide⟩)
  have e1 : mv a c i 1 = tI a c i 1 := mv_at (Or.inl ⟨by decide, by decide⟩)
  have e11 : mv a c i 11 = tI a c i 11 := mv_at (Or.inl ⟨by decide, by decide⟩)
  -- how many there are
  have hn : tZ a 19 sh + 1 ≤ 500 := by
    refine kp_500 (P := 0) (fun k => if k < tZ a 19 sh then kN (keyA a (tR a 19 sh k)) else kN (mv a c i 0, mv a c i 1, mv a c i 11)) _ (fun k hk' => ?_) (fun k k' l hk' => ?_)
    · by_cases e : k < tZ a 19 sh
      · obtain ⟨c', i', q', k1, k2, k3, k4, k5, k6, -, k8, k9, k10⟩ := K4 k e
        obtain ⟨m, m1, m2⟩ := kcd_cd k10 hP200
        have f0 : mv a c' i' 0 = tI a c' i' 0 := mv_at (Or.inl ⟨by decide, by decide⟩)
        have f1 : mv a c' i' 1 = tI a c' i' 1 := mv_at (Or.inl ⟨by decide, by decide⟩)
        have f11 : mv a c' i' 11 = tI a c' i' 11 := mv_at (Or.inl ⟨by decide, by decide⟩)
        refine ⟨_, m, ?_, m2⟩
        rw [if_pos e, k1]
        unfold keyA
        dsimp only
        rw [← f0, ← f1, ← f11]
        exact m1
      · obtain ⟨m, m1, m2⟩ := kcd_cd hk hP200
        exact ⟨_, m, by rw [if_neg e]; exact m1, m2⟩
    · by_cases e : k' < tZ a 19 sh
      · rw [if_pos e, if_pos (by omega)]
        exact K5 k k' l e
      · rw [if_neg e, if_pos (by omega)]
        exact hnew k (by omega)
  -- nobody keeps it yet
  have fresh : ∀ s, s < tZ a 27 0 → ∀ k, k < tZ a 19 s → tR a 19 s k ≠ some (c, i) := fun s hs k hk' e => by
    obtain ⟨c', i', p', k1, k2, k3, k4, k5, k6⟩ := kept_shop ((hK.1 s hs).2.2.2.1 k hk')
    rw [e] at k1
    have k1 := Option.some.inj k1
    obtain ⟨r1, r2⟩ := Prod.mk.inj k1
    subst r1
    subst r2
    obtain ⟨p, p1, p2, p3⟩ := kept_sh hm hk h14
    rw [e1, k5] at p2
    have : p' = p := o_inj (by omega) (by omega) p2
    subst this
    rw [k6] at p3
    have : s = sh := o_inj (by omega) (by omega) p3
    subst this
    refine hnew k hk' ?_
    rw [e, e0, e1, e11]
    rfl
  have ca : chF [19] FkA a (kpA a sh c i t) := by
    unfold kpA
    exact chF_I (Or.inr (isKp_F hc)) (chF_g (chg_pushL (by simp) (chg_r _ _)))
  have cb : chF [66, 67, 68] [] b (kpB b sh (tZ a 19 sh) q t) := by
    unfold kpB
    exact chF_I (by simp) (chF_I (by simp) (chF_R (by simp) (chF_r _ _ _)))
  have wa : Wr a (kpA a sh c i t) := by
    unfold kpA
    exact Wr.cI _ _ _ _ (Wr.cP _ _ _ (by decide +kernel) (by decide) h19 K1.1 (Wr.rf a))
  have wb : Wr b (kpB b sh (tZ a 19 sh) q t) := by
    unfold kpB
    exact Wr.cI _ _ _ _ (Wr.cI _ _ _ _ (Wr.cR _ _ _ _ (Wr.rf b)))
  have nA : ∀ s, tN (kpA a sh c i t) s = tN a s := fun s => by unfold kpA; rw [tN_sI, tN_pushL]
  have vI : ∀ c' i' f, ¬ (c' = c ∧ i' = i) ∨ f ≠ 13 → tI (kpA a sh c i t) c' i' f = tI a c' i' f := fun c' i' f h => by
    unfold kpA
    rw [kp13 _ _ _ _ _ h, tI_pushL]
  have v13 : tI (kpA a sh c i t) c i 13 = t := by unfold kpA; rw [tI_sI, if_pos ⟨rfl, rfl, rfl⟩]
  have vR : ∀ s k, tR (kpA a sh c i t) 19 s k = if s = sh ∧ k = tZ a 19 sh then some (c, i) else tR a 19 s k := fun s k => by
    unfold kpA
    rw [tR_sI, tR_pushL]
    by_cases e : s = sh ∧ k = tZ a 19 sh
    · rw [if_pos e, if_pos ⟨rfl, e.1, e.2⟩]
    · rw [if_neg e, if_neg (fun z => e z.2)]
  have vZ : ∀ s, tZ (kpA a sh c i t) 19 s = if s = sh then tZ a 19 sh + 1 else tZ a 19 s := fun s => by
    unfold kpA
    rw [tZ_sI, tZ_pushL]
    by_cases e : s = sh
    · rw [if_pos e, if_pos ⟨rfl, e⟩]
    · rw [if_neg e, if_neg (fun z => e z.2)]
  have vC : ∀ s, tC (kpA a sh c i t) 19 s = if s = sh then (if tZ a 19 sh < tC a 19 sh then tC a 19 sh else liC (tC a 19 sh) (tZ a 19 sh)) else tC a 19 s := fun s => by
    unfold kpA
    rw [tC_sI, tC_pushL]
    by_cases e : s = sh
    · rw [if_pos e, if_pos ⟨rfl, e⟩]
    · rw [if_neg e, if_neg (fun z => e z.2)]
  have w66 : ∀ k, tR (kpB b sh (tZ a 19 sh) q t) 66 0 k = if k = 500 * sh + tZ a 19 sh then some q else tR b 66 0 k := fun k => by
    unfold kpB
    rw [tR_sI, tR_sI, tR_sR]
    by_cases e : k = 500 * sh + tZ a 19 sh
    · rw [if_pos e, if_pos ⟨rfl, rfl, e⟩]
    · rw [if_neg e, if_neg (fun z => e z.2.2)]
  have w67 : ∀ k, tI (kpB b sh (tZ a 19 sh) q t) 67 0 k = if k = 500 * sh + tZ a 19 sh then t else tI b 67 0 k := fun k => by
    unfold kpB
    rw [tI_sI, if_neg (fun z => absurd z.1 (by decide)), tI_sI]
    by_cases e : k = 500 * sh + tZ a 19 sh
    · rw [if_pos e, if_pos ⟨rfl, rfl, e⟩]
    · rw [if_neg e, if_neg (fun z => e z.2.2), tI_sR]
  have w68 : ∀ k, tI (kpB b sh (tZ a 19 sh) q t) 68 0 k = if k = sh then Int32.ofNat (tZ a 19 sh + 1) else tI b 68 0 k := fun k => by
    unfold kpB
    rw [tI_sI]
    by_cases e : k = sh
    · rw [if_pos e, if_pos ⟨rfl, rfl, e⟩]
    · rw [if_neg e, if_neg (fun z => e z.2.2), tI_sI, if_neg (fun z => absurd z.1 (by decide)), tI_sR]
  have wN : ∀ s, tN (kpB b sh (tZ a 19 sh) q t) s = tN b s := fun s => rfl
  have wQ : ∀ s, s ≠ 67 → s ≠ 68 → ∀ j f, tI (kpB b sh (tZ a 19 sh) q t) s j f = tI b s j f := fun s h h' j f => by
    unfold kpB
    rw [tI_sI, if_neg (fun z => h' z.1), tI_sI, if_neg (fun z => h z.1), tI_sR]
  generalize kpA a sh c i t = a1 at *
  generalize kpB b sh (tZ a 19 sh) q t = b1 at *
  have hP : PS a a1 b b1 := PS_c ca cb (by decide) (by decide)
  have gq' : groQ b b1 := groQ_c cb (by decide +kernel)
  have z27 : tZ a1 27 0 = tZ a 27 0 := dZ ca (S := [27]) (P := []) (s := 27) (by decide) (by simp) 0
  have hR1 : R0 a1 b1 := by
    have ha := ca
    have hb := cb
    obtain ⟨hFC, hFR, hB, hS, hM, hW, hV, hC, hD, hE, hP, hQ, hH, hK, hG, hO, hZ⟩ := hR
    have hS2 : RS a1 b1 := RS_w hS ha hb (by decide) (by decide) (nA 18) (nA 19) (nA 20) (nA 21) (nA 22) (dZ ha (S := [20]) (P := []) (s := 20) (by decide) (by simp))
    exact ⟨FxC_s hFC wa ha (by decide), FxR_s hFR wb hb (by decide), RB_c hB ha hb (by decide) (by decide), hS2, RM_c hM ha hb (by decide) (by decide), RW_c hW ha hb (by decide) (by decide), RV_c hV ha hb (by decide) (by decide), RC_c hC ha hb (by decide) (by decide), RD_c hD ha hb (by decide) (by decide), RE_c hE ha hb (by decide) (by decide), RP_c hP ha hb (by decide) (by decide), RQ_c hQ ha hb (by decide) (by decide), RH_c hH ha hb (by decide) (by decide), RK_c hK ha hb (by decide) (by decide) (gro_c ha (by decide)) (gro_c ha (by decide)) (gro_c ha (by decide)) (gro_c ha (by decide)), RG_c hG ha hb (by decide) (by decide), RO_c hO ha hb (by decide) (by decide), RZ_c hZ ha hb (by decide) (by decide)⟩
  obtain ⟨hL1, hv⟩ := Ln0_o hL.1 ca cb (by decide) (by decide) (by decide) gq'
  refine ⟨by omega, ⟨hR1, Nt_c hN ca cb (by decide) (by decide) hP.1 (gro_c ca (by decide)) gq', Ln_c hL hL1 hP z27 hv, As_c hAs ca cb (by decide) (by decide), ⟨fun s hs => ?_, fun s hs => by rw [z27] at hs; rw [w68, if_neg (by omega)]; exact hK.2 s hs⟩⟩, hP, ca, cb, wa, wb⟩
  rw [z27] at hs
  -- what is kept already
  have mvE : ∀ c' i', mv a1 c' i' = mv a c' i' := fun c' i' => mv_congr (fun f h h' => vI c' i' f (Or.inr h))
  have old : ∀ s, s < tZ a 27 0 → ∀ k, k < tZ a 19 s → ∀ o q' u, tR a 19 s k = o → keptM a b s o q' u → keptM a1 b1 s o q' u := by
    intro s hs k hk' o q' u ho h
    obtain ⟨c', i', q1, k1, k2, k3, k4, k5, k6, k7, k8, k9, k10⟩ := h
    have hne : ¬ (c' = c ∧ i' = i) := fun z => fresh s hs k hk' (by rw [ho, k1, z.1, z.2])
    have e2 : qv b1 (some q1) = qv b (some q1) := qv_congr (fun f => (gq' q1.1 k5).2 q1.2 k6 f)
    refine ⟨c', i', q1, k1, k2, k3, by rw [nA]; exact k4, k5, by rw [wN]; exact k6, ⟨(vI c' i' 13 (Or.inl hne)).trans k7.1, k7.2⟩, by rw [mvE, e2]; exact upM_c k8 hP, by rw [mvE]; exact k9, ?_⟩
    rw [mvE]
    rcases k10 with ⟨x1, p, x2, x3, x4⟩ | ⟨x1, p, x2, x3, x4⟩ | ⟨x1, n, m, x2, x3, x4, x5⟩
    · exact Or.inl ⟨x1, p, Nat.lt_of_lt_of_le x2 hP.1.1, x3, by rw [wQ 87 (by decide) (by decide)]; exact x4⟩
    · exact Or.inr (Or.inl ⟨x1, p, Nat.lt_of_lt_of_le x2 hP.1.1, x3, by rw [wQ 70 (by decide) (by decide)]; exact x4⟩)
    · exact Or.inr (Or.inr ⟨x1, n, m, x2, by rw [wQ 69 (by decide) (by decide)]; exact x3, x4, x5⟩)
  have keyE : ∀ o, keyA a1 o = keyA a o := fun o => by
    cases o with
    | none => rfl
    | some x =>
      unfold keyA
      dsimp only
      rw [vI _ _ 0 (Or.inr (by decide)), vI _ _ 1 (Or.inr (by decide)), vI _ _ 11 (Or.inr (by decide))]
  by_cases e : s = sh
  · subst e
    refine ⟨?_, by rw [w68, if_pos rfl, vZ, if_pos rfl], by rw [vZ, if_pos rfl]; exact hn, fun k hk' => ?_, fun k k' l hk' => ?_⟩
    · obtain ⟨x1, x2, x3⟩ := K1
      unfold capOK
      rw [vZ, if_pos rfl, vC, if_pos rfl]
      by_cases l : tZ a 19 s < tC a 19 s
      · rw [if_pos l]
        omega
      · rw [if_neg l]
        exact liC_le2 x1 l (by omega) x3
    · rw [vZ, if_pos rfl] at hk'
      by_cases ek : k = tZ a 19 s
      · subst ek
        rw [vR, if_pos ⟨rfl, rfl⟩, w66, if_pos rfl, w67, if_pos rfl]
        have e2 : qv b1 (some q) = qv b (some q) := qv_congr (fun f => (gq' q.1 hq).2 q.2 hqi f)
        refine ⟨c, i, q, rfl, rfl, hc, by rw [nA]; exact hi, hq, by rw [wN]; exact hqi, ⟨v13, ht⟩, by rw [mvE, e2]; exact upM_c hm hP, by rw [mvE]; exact h14, ?_⟩
        rw [mvE]
        rcases hk with ⟨x1, p, x2, x3, x4⟩ | ⟨x1, p, x2, x3, x4⟩ | ⟨x1, n, m, x2, x3, x4, x5⟩
        · exact Or.inl ⟨x1, p, Nat.lt_of_lt_of_le x2 hP.1.1, x3, by rw [wQ 87 (by decide) (by decide)]; exact x4⟩
        · exact Or.inr (Or.inl ⟨x1, p, Nat.lt_of_lt_of_le x2 hP.1.1, x3, by rw [wQ 70 (by decide) (by decide)]; exact x4⟩)
        · exact Or.inr (Or.inr ⟨x1, n, m, x2, by rw [wQ 69 (by decide) (by decide)]; exact x3, x4, x5⟩)
      · rw [vR, if_neg (fun z => ek z.2), w66, if_neg (by omega), w67, if_neg (by omega)]
        exact old s hs k (by omega) _ _ _ rfl (K4 k (by omega))
    · rw [vZ, if_pos rfl] at hk'
      rw [keyE, keyE, vR, if_neg (fun z => by omega), vR]
      by_cases ek : k' = tZ a 19 s
      · rw [if_pos ⟨rfl, ek⟩]
        have := hnew k (by omega)
        rw [e0, e1, e11] at this
        exact this
      · rw [if_neg (fun z => ek z.2)]
        exact K5 k k' l (by omega)
  · obtain ⟨x1, x2, x3, x4, x5⟩ := hK.1 s hs
    have zz : tZ a1 19 s = tZ a 19 s := by rw [vZ, if_neg e]
    refine ⟨?_, by rw [w68, if_neg e, zz]; exact x2, by rw [zz]; exact x3, fun k hk' => ?_, fun k k' l hk' => ?_⟩
    · unfold capOK at *
      rw [zz, vC, if_neg e]
      exact x1
    · rw [zz] at hk'
      rw [vR, if_neg (fun z => e z.1), w66, if_neg (by omega), w67, if_neg (by omega)]
      exact old s hs k hk' _ _ _ rfl (x4 k hk')
    · rw [zz] at hk'
      rw [keyE, keyE, vR, if_neg (fun z => e z.1), vR, if_neg (fun z => e z.1)]
      exact x5 k k' l hk'
