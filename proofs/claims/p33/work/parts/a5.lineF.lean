/-! ===== a put, with one flag set behind it on the class's side ===== -/
theorem sI_back (m : TS) (s i k : Nat) (v : Int32) : sI (sI m s i k v) s i k (tI m s i k) = m := by
  refine Prod.ext ?_ rfl
  funext s' i' k'
  show (if s' = s ∧ i' = i ∧ k' = k then tI m s i k else tI (sI m s i k v) s' i' k') = _
  split
  · rename_i e
    rw [e.1, e.2.1, e.2.2]
    rfl
  · rename_i e
    rw [tI_sI, if_neg e]
    rfl
theorem mv_96 (a : TS) (v : Int32) {s i : Nat} (h : s ≠ 96) : mv (sI a 96 0 11 v) s i = mv a s i := mv_congr (fun f _ _ => by rw [tI_sI, if_neg (fun q => h q.1)])
theorem LaT_96 {a : TS} {n : Nat} (v : Int32) (h : LaT a n) : LaT (sI a 96 0 11 v) n := by
  obtain ⟨l1, l2, l3⟩ := h
  refine ⟨l1, l2, fun c hc => ?_⟩
  obtain ⟨h1, m, h2, h3⟩ := l3 c hc
  exact ⟨h1, m, by rw [tI_sI, if_neg (fun q => by omega)]; exact h2, h3⟩
theorem vA_96 {a : TS} {n c : Nat} (v : Int32) (h : LaT a n) (hc : c < n) : vA (sI a 96 0 11 v) c = vA a c := by
  obtain ⟨-, m, h2, h3⟩ := h.2.2 c hc
  have hle := LaT_le h hc
  unfold vA vL
  rw [tI_sI, if_neg (c := 21 + c % 2 = 96 ∧ c / 2 = 0 ∧ 3 = 11) (fun q => by omega), h2, o_ix (by omega)]
  refine List.map_congr_left (fun k hk => ?_)
  have hk := List.mem_range.mp hk
  obtain ⟨r', r1, r2⟩ := h.1.1 c (by have := h.2.1; omega) k (by omega)
  rw [tR_sI, r2]
  unfold eC
  dsimp only
  rw [mv_96 _ _ (by decide), tI_sI, if_neg (fun q => absurd q.1 (by decide))]
theorem LaP_96 {a a' : TS} {n c : Nat} {add : List (Int32 × (Nat → Int32))} (v : Int32) (h0 : LaT a n) (hc : c < n) (h : LaP a a' n c add) : LaP (sI a 96 0 11 v) (sI a' 96 0 11 v) n c add := by
  obtain ⟨x1, x2, x3, x4, x5, x6, x7, x8, x9, x10, x11, wa⟩ := h
  have fe : ∀ A, tI (sI A 96 0 11 v) 8 = tI A 8 := fun A => by
    funext i k
    rw [tI_sI, if_neg (fun q => absurd q.1 (by decide))]
  refine ⟨LaT_96 v x1, by rw [vA_96 v x1 hc, vA_96 v h0 hc]; exact x2, fun c' h1 h2 => ?_, fun s hs => ?_, x5, x6, x7, by rw [vA_96 v x1 hc]; exact x8, x9, by rw [fe, fe]; exact x10, fun f hf => by rw [fe, fe]; exact x11 f hf, ?_⟩
  · obtain ⟨y1, y2, y3⟩ := x3 c' h1 h2
    refine ⟨by rw [vA_96 v x1 h1, vA_96 v h0 h1]; exact y1, y2, fun k hk => ?_⟩
    obtain ⟨w1, r', w2, w3, w4⟩ := y3 k hk
    exact ⟨w1, r', w2, w3, fun f => by rw [tI_sI, if_neg (fun q => absurd q.1 (by decide)), tI_sI, if_neg (fun q => absurd q.1 (by decide))]; exact w4 f⟩
  · obtain ⟨y1, y2⟩ := x4 s hs
    exact ⟨fun i k => by rw [tI_sI, tI_sI, y1], y2⟩
  · have w : Wr (sI a 96 0 11 v) a := by
      have := (Wr.rf (sI a 96 0 11 v)).cI 96 0 11 (tI a 96 0 11)
      rwa [sI_back] at this
    exact (w.t wa).cI _ _ _ _
theorem x37F {a0 a : TS} {v : Int32} {n c s i : Nat} (ea : a = sI a0 96 0 11 v) (hT : LaT a n) (hc : c < n) (hz : tZ a 9 c < 29998) (hs : isM s) (hi : i < tN a s) (hb : bitOk (tI a s i 14) = true) :
    ∃ a1, (∀ z, Ex 37 [aR (some (21 + c % 2, c / 2)), aR (some (s, i))] (enc 1 a0 z) = some (.inl none, enc 1 a1 z)) ∧ LaP a (sI a1 96 0 11 v) n c (laid (fK (tI a 8 c)) (tI a 25 0 0 + tI a 25 0 2) (mv a s i)) := by
  have h96 : s ≠ 96 := fun e => by
    subst e
    exact absurd hs (by unfold isM; decide +kernel)
  subst ea
  have hT0 : LaT a0 n := by
    have := LaT_96 (tI a0 96 0 11) hT
    rwa [sI_back] at this
  obtain ⟨a1, x, hx⟩ := x37T hT0 hc hz hs hi (by rw [tI_sI, if_neg (fun q => h96 q.1)] at hb; exact hb)
  refine ⟨a1, x, ?_⟩
  rw [mv_96 _ _ h96, tI_sI, if_neg (fun q => absurd q.1 (by decide)), tI_sI, if_neg (fun q => absurd q.1 (by decide))]
  have e8 : tI (sI a0 96 0 11 v) 8 c = tI a0 8 c := by
    funext k
    rw [tI_sI, if_neg (fun q => absurd q.1 (by decide))]
  rw [e8]
  exact LaP_96 v hT0 hc hx
theorem sim_putF {a0 a b : TS} {v : Int32} (ea : a = sI a0 96 0 11 v) {c s i : Nat} {q : Nat × Nat} (hR : R0 a b) (hL : Ln0 a b) (hc : c < 2 * tZ a 27 0) (hz : tZ a 9 c < 29998) (hl : (vQ b c).length < 90000) (hvl : (vA a c).length = (vQ b c).length) (hs : isM s) (hi : i < tN a s) (hb : bitOk (tI a s i 14) = true) (hq : isQ q.1) (hqi : q.2 < tN b q.1) :
    ∃ a1 a' b', a' = sI a1 96 0 11 v ∧ (∀ z, Ex 37 [aR (some (21 + c % 2, c / 2)), aR (some (s, i))] (enc 1 a0 z) = some (.inl none, enc 1 a1 z)) ∧ (∀ z, Ex 155 [aR (some (74 + c % 2, c / 2)), aI (tI b 95 0 1), aI (tI b 95 0 2), aR (some q)] (enc 2 b z) = some (.inl none, enc 2 b' z)) ∧
      R0 a' b' ∧ Ln0 a' b' ∧ PS a a' b b' ∧ (∀ c', c' < 2 * tZ a 27 0 → c' ≠ c → vA a' c' = vA a c' ∧ vQ b' c' = vQ b c') ∧ (∃ k d, vA a' c = vA a c ++ laid k d (mv a s i) ∧ vQ b' c = vQ b c ++ laid k d (qv b (some q))) ∧
      chF [8, 9, 10, 21, 22] [] a a' ∧ chF [48, 49, 50, 51, 52, 74, 75] [] b b' ∧ (∀ s, s ≠ 10 → tN a' s = tN a s) ∧ LaP a a' (2 * tZ a 27 0) c (laid (fK (tI a 8 c)) (tI a 25 0 0 + tI a 25 0 2) (mv a s i)) ∧ CtP b b' (2 * tZ a 27 0) c (laid (fK (tI b 48 c)) (tI b 95 0 1 + tI b 95 0 2) (qv b (some q))) := by
  obtain ⟨l1, l2, l3, l4, l5⟩ := hL
  obtain ⟨a1, x, hx⟩ := x37F ea l1 hc hz hs hi hb
  generalize ea' : sI a1 96 0 11 v = a' at hx
  obtain ⟨b', y, hy⟩ := x155 (t := tI b 95 0 1) (d := tI b 95 0 2) l2 hc hq hqi hl
  have hx0 := hx
  have hy0 := hy
  obtain ⟨x1, x2, x3, x4, x5, x6, x7, x8, x9, x10, x11, wa⟩ := hx
  obtain ⟨y1, y2, y3, y4, y5, y6, y7, y8, wb, y9⟩ := hy
  have ha : chF [8, 9, 10, 21, 22] [] a a' := chF_g x4
  have hbb : chF [48, 49, 50, 51, 52, 74, 75] [] b b' := chF_g y4
  have z27 : tZ a' 27 0 = tZ a 27 0 := dZ ha (S := [27]) (P := []) (s := 27) (by decide) (by simp) 0
  have e0 : fK (tI b 48 c) = fK (tI a 8 c) := by rw [l4 c hc]
  have et : tI b 95 0 1 + tI b 95 0 2 = tI a 25 0 0 + tI a 25 0 2 := by
    obtain ⟨⟨h1, -, h3, -⟩, -, ⟨h5, -⟩, -⟩ := r_H hR
    rw [h5, h1, h3]
  refine ⟨a1, a', b', ea'.symm, x, y, put_R0 hR ha hbb x5 wa wb, ⟨by rw [z27]; exact x1, by rw [z27]; exact y1, fun s hs => ?_, fun c' hc' => ?_, ?_⟩, PS_c ha hbb (by decide) (by decide), fun c' hc' hne => ⟨(x3 c' hc' hne).1, y3 c' hc' hne⟩, ⟨fK (tI a 8 c), tI a 25 0 0 + tI a 25 0 2, x2, by rw [y2, e0, et]⟩, ha, hbb, x5, hx0, hy0⟩
  · rw [z27] at hs
    rw [dR hbb (S := [65]) (P := []) (s := 65) (by decide) (by simp), dR hbb (S := [65]) (P := []) (s := 65) (by decide) (by simp)]
    exact l3 s hs
  · rw [z27] at hc'
    by_cases e : c' = c
    · subst e
      rw [x10, y7, l4 c' hc']
    · rw [x11 c' e, y8 c' e]
      exact l4 c' hc'
  · obtain ⟨m1, m2, m3, m8, m48, m74, m75⟩ := l5
    obtain ⟨w1, w2, w3, w4⟩ := y9
    have hle : (vQ b' c).length = (vA a' c).length := by
      rw [y2, x2, List.length_append, List.length_append, hvl, e0, et, L2_len (L2_laid (R := fun _ _ => True) (fK (tI a 8 c)) (tI a 25 0 0 + tI a 25 0 2) (mv a s i) (qv b (some q)) (fun _ => trivial))]
    refine ⟨fun c' hc' => ?_, ?_, ?_, by rw [z27, x5 8 (by decide)]; exact m8, ⟨by rw [z27, y6 48 (by decide) (by decide)]; exact m48.1, by rw [z27, y6 49 (by decide) (by decide)]; exact m48.2.1, by rw [z27, y6 50 (by decide) (by decide)]; exact m48.2.2⟩, by rw [z27, y6 74 (by decide) (by decide)]; exact m74, by rw [z27, y6 75 (by decide) (by decide)]; exact m75⟩
    · rw [z27] at hc'
      have := m1 c' hc'
      by_cases e : c' = c
      · subst e
        omega
      · have h9 := (x3 c' hc' e).2.1
        rw [w1 c' hc' e, h9]
        exact this
    · rw [z27]
      have := sum_upd (f := capc b) (f' := capc b') (c := c) (2 * tZ a 27 0) hc w1
      unfold sumC at *
      omega
    · rw [z27]
      have := sum_upd (f := tZ a 9) (f' := tZ a' 9) (c := c) (2 * tZ a 27 0) hc (fun c' h h' => (x3 c' h h').2.1)
      omega
theorem up_alF {a0 a b : TS} {v : Int32} (ea : a = sI a0 96 0 11 v) {sh s i : Nat} {q : Nat × Nat} (hA : Al a b) (hsh : sh < tZ a 27 0) (hz : tZ a 9 (2 * sh) < 29998) (hl : (vQ b (2 * sh)).length < 90000) (hs : isM s) (hi : i < tN a s) (hq : isQ q.1) (hqi : q.2 < tN b q.1) (hm : upM a b sh (mv a s i) (qv b (some q))) :
    ∃ a1 a' b', a' = sI a1 96 0 11 v ∧ (∀ z, Ex 37 [aR (some (21, sh)), aR (some (s, i))] (enc 1 a0 z) = some (.inl none, enc 1 a1 z)) ∧ (∀ z, Ex 193 [aR (some (95, 0)), aI (Int32.ofNat sh), aR (some q)] (enc 2 b z) = some (.inl none, enc 2 b' z)) ∧ Al a' b' ∧ PutF a a' b b' (2 * sh) (qv b (some q)) := by
  obtain ⟨hR, hN, hL, hAs, hK⟩ := hA
  have hc : 2 * sh < 2 * tZ a 27 0 := by omega
  have hb14 : bitOk (tI a s i 14) = true := by
    have := hm.1
    rwa [mv_at (Or.inr rfl)] at this
  obtain ⟨a1, a', b', ea', x, y, hR', hL', hP, ho, ⟨k, d, k1, k2⟩, ha, hb, hN', hx, hy⟩ := sim_putF ea hR hL.1 hc hz hl (Ln_len hL hc) hs hi hb14 hq hqi
  obtain ⟨x1, x2, x3, x4, x5, x6, x7, x8, x9, x10, x11, wa⟩ := hx
  obtain ⟨y1, y2, y3, y4, y5, y6, y7, y8, wb, y9⟩ := hy
  have e1 : 21 + (2 * sh) % 2 = 21 := by omega
  have e2 : (2 * sh) / 2 = sh := by omega
  have e3 : 74 + (2 * sh) % 2 = 74 := by omega
  rw [e1, e2] at x
  rw [e3, e2] at y
  have hfr := r_FR hR
  have hs4 : sh < 4 := by have := (r_S hR).1; omega
  have g1 : (Int32.ofNat (2 * sh)).toNatClampNeg = 2 * sh := o_ix (by omega)
  have g2 : ¬ Int32.ofNat (2 * sh) < 0 := o_lt0 (by omega)
  have g3 : 2 * sh < 8 := by omega
  have z27 : tZ a' 27 0 = tZ a 27 0 := dZ ha (S := [27]) (P := []) (s := 27) (by decide) (by simp) 0
  have gq' : groQ b b' := groQ_c hb (by decide +kernel)
  have hU : LnU a' b' sh := by
    unfold LnU at *
    rw [k1, k2]
    exact L2_app (L2_mono (fun _ _ q => ⟨q.1, upM_c q.2 hP⟩) (hL.2 sh hsh).1) (L2_laid k d _ _ (fun e => ⟨rfl, upM_c hm hP⟩))
  have hLn : Ln a' b' := by
    refine ⟨hL', fun s' hs' => ?_⟩
    rw [z27] at hs'
    obtain ⟨u1, u2⟩ := hL.2 s' hs'
    obtain ⟨v1, v2⟩ := ho (2 * s' + 1) (by omega) (by omega)
    refine ⟨?_, LnD_c u2 hP v1 v2⟩
    by_cases e : s' = sh
    · subst e; exact hU
    · obtain ⟨w1, w2⟩ := ho (2 * s') (by omega) (by omega)
      exact LnU_c u1 hP w1 w2
  refine ⟨a1, a', b', ea', x, fun z => ?_, ⟨hR', Nt_c hN ha hb (by decide) (by decide) hP.1 (gro_c ha (by decide)) gq', hLn, As_c hAs ha hb (by decide) (by decide), Kp_c hK ha hb (by decide) (by decide) hP gq' (fun p _ h => Stt_1 (Stt_c hb (by decide)) p h)⟩, hP, ha, hb, gq', wa, wb, hN', y6, fun c' h1 h2 => ⟨(ho c' h1 h2).1, (ho c' h1 h2).2, (x3 c' h1 h2).2.1, y8 c' h2⟩, y2, y7, ?_⟩
  · refine (X_in (by decide +kernel) (frN_95 hfr) rfl).trans ((lf_193_0 ..).trans ?_)
    simp (config := {decide := true}) only [gfI_enc, gfL_enc, gfR_enc, pfI_enc, pfL_enc, pfR_enc, Option.bind_some, cI_v, cL_v, cF_v, cD_v, cR_v, cV_v, cI_x, cL_x, cR_x, cV_x, gz_0, gz_1, acc_enc, tI_sI, tL_sI, tR_sI, tN_sI, tZ_sI, tC_sI, tc_sI, tz_sI, tI_sL, tL_sL, tR_sL, tN_sL, tZ_sL, tC_sL, tc_sL, tz_sL, tI_sR, tL_sR, tR_sR, tN_sR, tZ_sR, tC_sR, tc_sR, tz_sR, tI_sZ, tL_sZ, tR_sZ, tN_sZ, tZ_sZ, tC_sZ, tc_sZ, tz_sZ, tI_sC, tL_sC, tR_sC, tN_sC, tZ_sC, tC_sC, tc_sC, tz_sC, tI_aC, tL_aC, tR_aC, tN_aC, tZ_aC, tC_aC, tc_aC, tz_aC, tI_rmL, tL_rmL, tR_rmL, tN_rmL, tZ_rmL, tC_rmL, tc_rmL, tz_rmL, tI_mk, tL_mk, tR_mk, tN_mk, tZ_mk, tC_mk, tc_mk, tz_mk, tI_pushL, tL_pushL, tR_pushL, tN_pushL, tZ_pushL, tC_pushL, tc_pushL, tz_pushL, tI_pushB, tL_pushB, tR_pushB, tN_pushB, tZ_pushB, tC_pushB, tc_pushB, tz_pushB, tI_cpL, tL_cpL, tR_cpL, tN_cpL, tZ_cpL, tC_cpL, tc_cpL, tz_cpL, eq_self, true_and, and_true, false_and, and_false, if_true, if_false, reduceIte, ite_true, ite_false, not_true_eq_false, not_false_eq_true, frN_95 hfr, frN_65 hfr, frR_95_10 hfr, frZ_65 hfr, gaR_enc, two_o, g1, g2, g3, (hL.1.2.2.1 sh hsh).1, y]
  · rw [x8, Ln_len hLn (by omega)]
