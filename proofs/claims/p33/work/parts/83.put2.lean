/-! ===== a message is put on a line, a mail on a cable ===== -/
theorem RS_w {D D' : List Nat} {F F' : List (Nat × Nat)} {a a' b b' : TS} (h : RS a b) (ha : chF D F a a') (hb : chF D' F' b b') (hd : dpk D F [27] [(36, 0), (36, 1), (36, 2)] = true) (hd' : dpk D' F' [88, 89] [(91, 6), (93, 7), (95, 9)] = true)
    (n18 : tN a' 18 = tN a 18) (n19 : tN a' 19 = tN a 19) (n20 : tN a' 20 = tN a 20) (n21 : tN a' 21 = tN a 21) (n22 : tN a' 22 = tN a 22) (z20 : ∀ k, tZ a' 20 k = tZ a 20 k) : RS a' b' := by
  unfold RS capOK at *
  simp only [n18, n19, n20, n21, n22, z20, dC ha hd (s := 27) (by decide), dI ha hd (s := 36) (k := 0) (by decide), dI ha hd (s := 36) (k := 1) (by decide), dI ha hd (s := 36) (k := 2) (by decide), dNP ha hd (s := 36) (k := 0) (by decide), dRP ha hd (s := 36) (k := 0) (by decide), dR ha hd (s := 27) (by decide), dZ ha hd (s := 27) (by decide), dI hb hd' (s := 91) (k := 6) (by decide), dI hb hd' (s := 93) (k := 7) (by decide), dI hb hd' (s := 95) (k := 9) (by decide), dIS hb hd' (s := 88) (by decide), dIS hb hd' (s := 89) (by decide)]
  exact h
theorem L2_laid {R : (Int32 × (Nat → Int32)) → (Int32 × (Nat → Int32)) → Prop} (k d : Int32) (g q : Nat → Int32) (h : ∀ e, R (e, g) (e, q)) : L2 R (laid k d g) (laid k d q) := by
  unfold laid
  split
  · exact trivial
  · split
    · exact ⟨h _, h _, trivial⟩
    · exact ⟨h _, trivial⟩
theorem put_R0 {a a' b b' : TS} (hR : R0 a b) (ha : chF [8, 9, 10, 21, 22] [] a a') (hb : chF [48, 49, 50, 51, 52, 74, 75] [] b b') (hN : ∀ s, s ≠ 10 → tN a' s = tN a s) (wa : Wr a a') (wb : Wr b b') : R0 a' b' := by
  obtain ⟨hFC, hFR, hB, hS, hM, hW, hV, hC, hD, hE, hP, hQ, hH, hK, hG, hO, hZ⟩ := hR
  have hS' : RS a' b' := RS_w hS ha hb (by decide) (by decide) (hN 18 (by decide)) (hN 19 (by decide)) (hN 20 (by decide)) (hN 21 (by decide)) (hN 22 (by decide)) (dZ ha (S := [20]) (P := []) (s := 20) (by decide) (by simp))
  have hV' : RV a' b' := RV_c hV ha hb (by decide) (by decide)
  exact ⟨FxC_s hFC wa ha (by decide), FxR_s hFR wb hb (by decide), RB_c hB ha hb (by decide) (by decide), hS', RM_c hM ha hb (by decide) (by decide), RW_c hW ha hb (by decide) (by decide), hV', RC_c hC ha hb (by decide) (by decide), RD_c hD ha hb (by decide) (by decide), RE_c hE ha hb (by decide) (by decide), RP_c hP ha hb (by decide) (by decide), RQ_c hQ ha hb (by decide) (by decide), RH_c hH ha hb (by decide) (by decide), RK_c hK ha hb (by decide) (by decide) (gro_c ha (by decide)) (gro_c ha (by decide)) (gro_c ha (by decide)) (gro_c ha (by decide)), RG_c hG ha hb (by decide) (by decide), RO_c hO ha hb (by decide) (by decide), RZ_c hZ ha hb (by decide) (by decide)⟩
/-- the rest of the lines -/
theorem Ln0_at {a b : TS} (h : Ln0 a b) {s : Nat} (hs : s < tZ a 27 0) : 2 * s < 2 * tZ a 27 0 ∧ 2 * s + 1 < 2 * tZ a 27 0 := by omega
/-- both puts -/
theorem sim_put {a b : TS} {c s i : Nat} {q : Nat × Nat} (hR : R0 a b) (hL : Ln0 a b) (hc : c < 2 * tZ a 27 0) (hz : tZ a 9 c < 29998) (hl : (vQ b c).length < 90000) (hvl : (vA a c).length = (vQ b c).length) (hs : isM s) (hi : i < tN a s) (hb : bitOk (tI a s i 14) = true) (hq : isQ q.1) (hqi : q.2 < tN b q.1) :
    ∃ a' b', (∀ z, Ex 37 [aR (some (21 + c % 2, c / 2)), aR (some (s, i))] (enc 1 a z) = some (.inl none, enc 1 a' z)) ∧ (∀ z, Ex 155 [aR (some (74 + c % 2, c / 2)), aI (tI b 95 0 1), aI (tI b 95 0 2), aR (some q)] (enc 2 b z) = some (.inl none, enc 2 b' z)) ∧
      R0 a' b' ∧ Ln0 a' b' ∧ PS a a' b b' ∧ (∀ c', c' < 2 * tZ a 27 0 → c' ≠ c → vA a' c' = vA a c' ∧ vQ b' c' = vQ b c') ∧ (∃ k d, vA a' c = vA a c ++ laid k d (mv a s i) ∧ vQ b' c = vQ b c ++ laid k d (qv b (some q))) ∧
      chF [8, 9, 10, 21, 22] [] a a' ∧ chF [48, 49, 50, 51, 52, 74, 75] [] b b' ∧ (∀ s, s ≠ 10 → tN a' s = tN a s) ∧ LaP a a' (2 * tZ a 27 0) c (laid (fK (tI a 8 c)) (tI a 25 0 0 + tI a 25 0 2) (mv a s i)) ∧ CtP b b' (2 * tZ a 27 0) c (laid (fK (tI b 48 c)) (tI b 95 0 1 + tI b 95 0 2) (qv b (some q))) := by
  obtain ⟨l1, l2, l3, l4, l5⟩ := hL
  obtain ⟨a', x, hx⟩ := x37T l1 hc hz hs hi hb
  obtain ⟨b', y, hy⟩ := x155 (t := tI b 95 0 1) (d := tI b 95 0 2) l2 hc hq hqi hl
  have hx0 := hx
  have hy0 := hy
  obtain ⟨x1, x2, x3, x4, x5, x6, x7, x8, x9, x10, x11, wa⟩ := hx
  obtain ⟨y1, y2, y3, y4, y5, y6, y7, y8, wb, y9⟩ := hy
  have ha : chF [8, 9, 10, 21, 22] [] a a' := chF_g x4
  have hbb : chF [48, 49, 50, 51, 52, 74, 75] [] b b' := chF_g y4
  have z27 : tZ a' 27 0 = tZ a 27 0 := dZ ha (S := [27]) (P := []) (s := 27) (by decide) (by simp) 0
  have e0 : fK (tI b 48 c) = fK (tI a 8 c) := by rw [l4 c hc]
  have et : tI b 95 0 1 + tI b 95 0 2 = tI a 25 0 0 + tI a 25 0 2 := by
    obtain ⟨⟨h1, -, h3, -⟩, -, ⟨h5, -⟩, -⟩ := r_H hR
    rw [h5, h1, h3]
  refine ⟨a', b', x, y, put_R0 hR ha hbb x5 wa wb, ⟨by rw [z27]; exact x1, by rw [z27]; exact y1, fun s hs => ?_, fun c' hc' => ?_, ?_⟩, PS_c ha hbb (by decide) (by decide), fun c' hc' hne => ⟨(x3 c' hc' hne).1, y3 c' hc' hne⟩, ⟨fK (tI a 8 c), tI a 25 0 0 + tI a 25 0 2, x2, by rw [y2, e0, et]⟩, ha, hbb, x5, hx0, hy0⟩
  · rw [z27] at hs
    rw [dR hbb (S := [65]) (P := []) (s := 65) (by decide) (by simp), dR hbb (S := [65]) (P := []) (s := 65) (by decide) (by simp)]
    exact l3 s hs
  · rw [z27] at hc'
    by_cases e : c' = c
    · subst e
      rw [x10, y7, l4 c' hc']
    · rw [x11 c' e, y8 c' e]
      exact l4 c' hc'
  · obtain ⟨m1, m2, m3, m8, m48, m74, m75⟩ := l5
    obtain ⟨w1, w2, w3, w4⟩ := y9
    have hle : (vQ b' c).length = (vA a' c).length := by
      rw [y2, x2, List.length_append, List.length_append, hvl, e0, et, L2_len (L2_laid (R := fun _ _ => True) (fK (tI a 8 c)) (tI a 25 0 0 + tI a 25 0 2) (mv a s i) (qv b (some q)) (fun _ => trivial))]
    refine ⟨fun c' hc' => ?_, ?_, ?_, by rw [z27, x5 8 (by decide)]; exact m8, ⟨by rw [z27, y6 48 (by decide) (by decide)]; exact m48.1, by rw [z27, y6 49 (by decide) (by decide)]; exact m48.2.1, by rw [z27, y6 50 (by decide) (by decide)]; exact m48.2.2⟩, by rw [z27, y6 74 (by decide) (by decide)]; exact m74, by rw [z27, y6 75 (by decide) (by decide)]; exact m75⟩
    · rw [z27] at hc'
      have := m1 c' hc'
      by_cases e : c' = c
      · subst e
        omega
      · have h9 := (x3 c' hc' e).2.1
        rw [w1 c' hc' e, h9]
        exact this
    · rw [z27]
      have := sum_upd (f := capc b) (f' := capc b') (c := c) (2 * tZ a 27 0) hc w1
      unfold sumC at *
      omega
    · rw [z27]
      have := sum_upd (f := tZ a 9) (f' := tZ a' 9) (c := c) (2 * tZ a 27 0) hc (fun c' h h' => (x3 c' h h').2.1)
      omega
theorem LnU_c {a a' b b' : TS} {s : Nat} (h : LnU a b s) (hp : PS a a' b b') (h1 : vA a' (2 * s) = vA a (2 * s)) (h2 : vQ b' (2 * s) = vQ b (2 * s)) : LnU a' b' s := by
  unfold LnU at *
  rw [h1, h2]
  exact L2_mono (fun _ _ q => ⟨q.1, upM_c q.2 hp⟩) h
theorem LnD_c {a a' b b' : TS} {s : Nat} (h : LnD a b s) (hp : PS a a' b b') (h1 : vA a' (2 * s + 1) = vA a (2 * s + 1)) (h2 : vQ b' (2 * s + 1) = vQ b (2 * s + 1)) : LnD a' b' s := by
  unfold LnD at *
  rw [h1, h2]
  exact L2_mono (fun _ _ q => ⟨q.1, dnM_c q.2 hp⟩) h
/-- an answer, a DONE go down: both puts -/
theorem sim_down {a b : TS} {sh s i : Nat} {q : Nat × Nat} (hR : R0 a b) (hL : Ln0 a b) (hsh : sh < tZ a 27 0) (hz : tZ a 9 (2 * sh + 1) < 29998) (hl : (vQ b (2 * sh + 1)).length < 90000) (hs : isM s) (hi : i < tN a s) (hq : isQ q.1) (hqi : q.2 < tN b q.1) (hm : dnM a b sh (mv a s i) (qv b (some q))) (hD : LnD a b sh) :
    ∃ a' b', (∀ z, Ex 37 [aR (some (22, sh)), aR (some (s, i))] (enc 1 a z) = some (.inl none, enc 1 a' z)) ∧ (∀ z, Ex 194 [aR (some (95, 0)), aI (Int32.ofNat sh), aR (some q)] (enc 2 b z) = some (.inl none, enc 2 b' z)) ∧
      R0 a' b' ∧ Ln0 a' b' ∧ PS a a' b b' ∧ (∀ c', c' < 2 * tZ a 27 0 → c' ≠ 2 * sh + 1 → vA a' c' = vA a c' ∧ vQ b' c' = vQ b c') ∧ LnD a' b' sh ∧ chF [8, 9, 10, 21, 22] [] a a' ∧ chF [48, 49, 50, 51, 52, 74, 75] [] b b' ∧ (∀ s, s ≠ 10 → tN a' s = tN a s) ∧ LaP a a' (2 * tZ a 27 0) (2 * sh + 1) (laid (fK (tI a 8 (2 * sh + 1))) (tI a 25 0 0 + tI a 25 0 2) (mv a s i)) ∧ CtP b b' (2 * tZ a 27 0) (2 * sh + 1) (laid (fK (tI b 48 (2 * sh + 1))) (tI b 95 0 1 + tI b 95 0 2) (qv b (some q))) := by
  have hc : 2 * sh + 1 < 2 * tZ a 27 0 := by omega
  have hb14 : bitOk (tI a s i 14) = true := by
    have := hm.1
    unfold mv at this
    rw [if_pos (Or.inr rfl)] at this
    exact this
  obtain ⟨a', b', x, y, hR', hL', hP, ho, ⟨k, d, k1, k2⟩, ha, hb, hN, hx, hy⟩ := sim_put hR hL hc hz hl (L2_len hD) hs hi hb14 hq hqi
  have e1 : 21 + (2 * sh + 1) % 2 = 22 := by omega
  have e2 : (2 * sh + 1) / 2 = sh := by omega
  have e3 : 74 + (2 * sh + 1) % 2 = 75 := by omega
  rw [e1, e2] at x
  rw [e3, e2] at y
  have hfr := r_FR hR
  have hs4 : sh < 4 := by have := (r_S hR).1; omega
  have ix : (2 : Int32) * Int32.ofNat sh + 1 = Int32.ofNat (2 * sh + 1) := by rw [← o_s, Int32.ofNat_mul]; rfl
  have g1 : (Int32.ofNat (2 * sh + 1)).toNatClampNeg = 2 * sh + 1 := o_ix (by omega)
  have g2 : ¬ Int32.ofNat (2 * sh + 1) < 0 := o_lt0 (by omega)
  have g3 : 2 * sh + 1 < 8 := by omega
  refine ⟨a', b', x, fun z => ?_, hR', hL', hP, ho, ?_, ha, hb, hN, hx, hy⟩
  · refine (X_in (by decide +kernel) (frN_95 hfr) rfl).trans ((lf_194_0 ..).trans ?_)
    simp (config := {decide := true}) only [gfI_enc, gfL_enc, gfR_enc, pfI_enc, pfL_enc, pfR_enc, Option.bind_some, cI_v, cL_v, cF_v, cD_v, cR_v, cV_v, cI_x, cL_x, cR_x, cV_x, gz_0, gz_1, acc_enc, tI_sI, tL_sI, tR_sI, tN_sI, tZ_sI, tC_sI, tc_sI, tz_sI, tI_sL, tL_sL, tR_sL, tN_sL, tZ_sL, tC_sL, tc_sL, tz_sL, tI_sR, tL_sR, tR_sR, tN_sR, tZ_sR, tC_sR, tc_sR, tz_sR, tI_sZ, tL_sZ, tR_sZ, tN_sZ, tZ_sZ, tC_sZ, tc_sZ, tz_sZ, tI_sC, tL_sC, tR_sC, tN_sC, tZ_sC, tC_sC, tc_sC, tz_sC, tI_aC, tL_aC, tR_aC, tN_aC, tZ_aC, tC_aC, tc_aC, tz_aC, tI_rmL, tL_rmL, tR_rmL, tN_rmL, tZ_rmL, tC_rmL, tc_rmL, tz_rmL, tI_mk, tL_mk, tR_mk, tN_mk, tZ_mk, tC_mk, tc_mk, tz_mk, tI_pushL, tL_pushL, tR_pushL, tN_pushL, tZ_pushL, tC_pushL, tc_pushL, tz_pushL, tI_pushB, tL_pushB, tR_pushB, tN_pushB, tZ_pushB, tC_pushB, tc_pushB, tz_pushB, tI_cpL, tL_cpL, tR_cpL, tN_cpL, tZ_cpL, tC_cpL, tc_cpL, tz_cpL, eq_self, true_and, and_true, false_and, and_false, if_true, if_false, reduceIte, ite_true, ite_false, not_true_eq_false, not_false_eq_true, frN_95 hfr, frN_65 hfr, frR_95_10 hfr, frZ_65 hfr, gaR_enc, ix, g1, g2, g3, (hL.2.2.1 sh hsh).2, y]
  · unfold LnD at *
    rw [k1, k2]
    exact L2_app (L2_mono (fun _ _ q => ⟨q.1, dnM_c q.2 hP⟩) hD) (L2_laid k d _ _ (fun e => ⟨rfl, dnM_c hm hP⟩))
