/-! ===== all parts together; a message goes up; one is kept ===== -/
def Al (a b : TS) : Prop := R0 a b ∧ Nt a b ∧ Ln a b ∧ As a b ∧ Kp a b
theorem Ln_c {a a' b b' : TS} (h : Ln a b) (h0 : Ln0 a' b') (hp : PS a a' b b') (z : tZ a' 27 0 = tZ a 27 0) (hv : ∀ c, c < 2 * tZ a 27 0 → vA a' c = vA a c ∧ vQ b' c = vQ b c) : Ln a' b' := by
  refine ⟨h0, fun s hs => ?_⟩
  rw [z] at hs
  obtain ⟨h1, h2⟩ := h.2 s hs
  obtain ⟨v1, v2⟩ := hv (2 * s) (by omega)
  obtain ⟨v3, v4⟩ := hv (2 * s + 1) (by omega)
  exact ⟨LnU_c h1 hp v1 v2, LnD_c h2 hp v3 v4⟩
theorem Ln_len {a b : TS} (h : Ln a b) {c : Nat} (hc : c < 2 * tZ a 27 0) : (vA a c).length = (vQ b c).length := by
  obtain ⟨h1, h2⟩ := h.2 (c / 2) (by omega)
  by_cases e : c % 2 = 0
  · have : 2 * (c / 2) = c := by omega
    have h := L2_len h1
    rwa [this] at h
  · have : 2 * (c / 2) + 1 = c := by omega
    have h := L2_len h2
    rwa [this] at h
/-- what a put leaves, on line c -/
def PutF (a a' b b' : TS) (c : Nat) (g : Nat → Int32) : Prop :=
  PS a a' b b' ∧ chF [8, 9, 10, 21, 22] [] a a' ∧ chF [48, 49, 50, 51, 52, 74, 75] [] b b' ∧ groQ b b' ∧ Wr a a' ∧ Wr b b' ∧ (∀ s, s ≠ 10 → tN a' s = tN a s) ∧ (∀ s, s ≠ 51 → s ≠ 52 → tN b' s = tN b s) ∧
  (∀ c', c' < 2 * tZ a 27 0 → c' ≠ c → vA a' c' = vA a c' ∧ vQ b' c' = vQ b c' ∧ tZ a' 9 c' = tZ a 9 c' ∧ tI b' 48 c' = tI b 48 c') ∧
  vQ b' c = vQ b c ++ laid (fK (tI b 48 c)) (tI b 95 0 1 + tI b 95 0 2) g ∧ tI b' 48 c = fR (tI b 48 c) ∧ tZ a' 9 c = max (tZ a 9 c) (vQ b' c).length
set_option maxHeartbeats 2000000 in
theorem up_al {a b : TS} {sh s i : Nat} {q : Nat × Nat} (hA : Al a b) (hsh : sh < tZ a 27 0) (hz : tZ a 9 (2 * sh) < 29998) (hl : (vQ b (2 * sh)).length < 90000) (hs : isM s) (hi : i < tN a s) (hq : isQ q.1) (hqi : q.2 < tN b q.1) (hm : upM a b sh (mv a s i) (qv b (some q))) :
    ∃ a' b', (∀ z, Ex 37 [aR (some (21, sh)), aR (some (s, i))] (enc 1 a z) = some (.inl none, enc 1 a' z)) ∧ (∀ z, Ex 193 [aR (some (95, 0)), aI (Int32.ofNat sh), aR (some q)] (enc 2 b z) = some (.inl none, enc 2 b' z)) ∧ Al a' b' ∧ PutF a a' b b' (2 * sh) (qv b (some q)) := by
  obtain ⟨hR, hN, hL, hAs, hK⟩ := hA
  have hc : 2 * sh < 2 * tZ a 27 0 := by omega
  have hb14 : bitOk (tI a s i 14) = true := by
    have := hm.1
    rwa [mv_at (Or.inr rfl)] at this
  obtain ⟨a', b', x, y, hR', hL', hP, ho, ⟨k, d, k1, k2⟩, ha, hb, hN', hx, hy⟩ := sim_put hR hL.1 hc hz hl (Ln_len hL hc) hs hi hb14 hq hqi
  obtain ⟨x1, x2, x3, x4, x5, x6, x7, x8, x9, x10, x11, wa⟩ := hx
  obtain ⟨y1, y2, y3, y4, y5, y6, y7, y8, wb, y9⟩ := hy
  have e1 : 21 + (2 * sh) % 2 = 21 := by omega
  have e2 : (2 * sh) / 2 = sh := by omega
  have e3 : 74 + (2 * sh) % 2 = 74 := by omega
  rw [e1, e2] at x
  rw [e3, e2] at y
  have hfr := r_FR hR
  have hs4 : sh < 4 := by have := (r_S hR).1; omega
  have g1 : (Int32.ofNat (2 * sh)).toNatClampNeg = 2 * sh := o_ix (by omega)
  have g2 : ¬ Int32.ofNat (2 * sh) < 0 := o_lt0 (by omega)
  have g3 : 2 * sh < 8 := by omega
  have z27 : tZ a' 27 0 = tZ a 27 0 := dZ ha (S := [27]) (P := []) (s := 27) (by decide) (by simp) 0
  have gq' : groQ b b' := groQ_c hb (by decide +kernel)
  have hU : LnU a' b' sh := by
    unfold LnU at *
    rw [k1, k2]
    exact L2_app (L2_mono (fun _ _ q => ⟨q.1, upM_c q.2 hP⟩) (hL.2 sh hsh).1) (L2_laid k d _ _ (fun e => ⟨rfl, upM_c hm hP⟩))
  have hLn : Ln a' b' := by
    refine ⟨hL', fun s' hs' => ?_⟩
    rw [z27] at hs'
    obtain ⟨u1, u2⟩ := hL.2 s' hs'
    obtain ⟨v1, v2⟩ := ho (2 * s' + 1) (by omega) (by omega)
    refine ⟨?_, LnD_c u2 hP v1 v2⟩
    by_cases e : s' = sh
    · subst e; exact hU
    · obtain ⟨w1, w2⟩ := ho (2 * s') (by omega) (by omega)
      exact LnU_c u1 hP w1 w2
  refine ⟨a', b', x, fun z => ?_, ⟨hR', Nt_c hN ha hb (by decide) (by decide) hP.1 (gro_c ha (by decide)) gq', hLn, As_c hAs ha hb (by decide) (by decide), Kp_c hK ha hb (by decide) (by decide) hP gq' (fun p _ h => Stt_1 (Stt_c hb (by decide)) p h)⟩, hP, ha, hb, gq', wa, wb, hN', y6, fun c' h1 h2 => ⟨(ho c' h1 h2).1, (ho c' h1 h2).2, (x3 c' h1 h2).2.1, y8 c' h2⟩, y2, y7, ?_⟩
  · refine (X_in (by decide +kernel) (frN_95 hfr) rfl).trans ((lf_193_0 ..).trans ?_)
    simp (config := {decide := true}) only [gfI_enc, gfL_enc, gfR_enc, pfI_enc, pfL_enc, pfR_enc, Option.bind_some, cI_v, cL_v, cF_v, cD_v, cR_v, cV_v, cI_x, cL_x, cR_x, cV_x, gz_0, gz_1, acc_enc, tI_sI, tL_sI, tR_sI, tN_sI, tZ_sI, tC_sI, tc_sI, tz_sI, tI_sL, tL_sL, tR_sL, tN_sL, tZ_sL, tC_sL, tc_sL, tz_sL, tI_sR, tL_sR, tR_sR, tN_sR, tZ_sR, tC_sR, tc_sR, tz_sR, tI_sZ, tL_sZ, tR_sZ, tN_sZ, tZ_sZ, tC_sZ, tc_sZ, tz_sZ, tI_sC, tL_sC, tR_sC, tN_sC, tZ_sC, tC_sC, tc_sC, tz_sC, tI_aC, tL_aC, tR_aC, tN_aC, tZ_aC, tC_aC, tc_aC, tz_aC, tI_rmL, tL_rmL, tR_rmL, tN_rmL, tZ_rmL, tC_rmL, tc_rmL, tz_rmL, tI_mk, tL_mk, tR_mk, tN_mk, tZ_mk, tC_mk, tc_mk, tz_mk, tI_pushL, tL_pushL, tR_pushL, tN_pushL, tZ_pushL, tC_pushL, tc_pushL, tz_pushL, tI_pushB, tL_pushB, tR_pushB, tN_pushB, tZ_pushB, tC_pushB, tc_pushB, tz_pushB, tI_cpL, tL_cpL, tR_cpL, tN_cpL, tZ_cpL, tC_cpL, tc_cpL, tz_cpL, eq_self, true_and, and_true, false_and, and_false, if_true, if_false, reduceIte, ite_true, ite_false, not_true_eq_false, not_false_eq_true, frN_95 hfr, frN_65 hfr, frR_95_10 hfr, frZ_65 hfr, gaR_enc, two_o, g1, g2, g3, (hL.1.2.2.1 sh hsh).1, y]
  · rw [x8, Ln_len hLn (by omega)]
/-- how a kept message is counted -/
def cdK (x : Int32 × Int32) : Nat := (if x.1 = 3 then 0 else if x.1 = 2 then 200 else 400) + x.2.toNatClampNeg
theorem kcd_cd {a b : TS} {s : Nat} {g : Nat → Int32} (h : kcd a b s g) (hP : tZ a 29 0 ≤ 200) : ∃ n, kN (g 0, g 1, g 11) = (g 0, Int32.ofNat n) ∧ (g 0 = 3 ∧ n < 200 ∨ g 0 = 2 ∧ n < 200 ∨ g 0 = 4 ∧ n < 100) := by
  unfold kN
  rcases h with ⟨h1, p, h2, h3, h4⟩ | ⟨h1, p, h2, h3, h4⟩ | ⟨h1, n, m, h2, h3, h4, h5⟩
  · exact ⟨p, by dsimp only; rw [h1, if_neg (by decide), h3], Or.inr (Or.inl ⟨h1, by omega⟩)⟩
  · exact ⟨p, by dsimp only; rw [h1, if_neg (by decide), h3], Or.inl ⟨h1, by omega⟩⟩
  · exact ⟨n, by dsimp only; rw [h1, if_pos rfl, h2], Or.inr (Or.inr ⟨h1, by omega⟩)⟩
theorem cdK_of {g0 : Int32} {n : Nat} (h : g0 = 3 ∧ n < 200 ∨ g0 = 2 ∧ n < 200 ∨ g0 = 4 ∧ n < 100) : cdK (g0, Int32.ofNat n) = (if g0 = 3 then n else if g0 = 2 then 200 + n else 400 + n) := by
  unfold cdK
  dsimp only
  rw [o_ix (by omega)]
  rcases h with ⟨e, -⟩ | ⟨e, -⟩ | ⟨e, -⟩ <;> subst e <;> simp (config := {decide := true}) only [if_true, if_false] <;> omega
/-- not more than 500 are kept -/
theorem kp_500 {P : Nat} (f : Nat → Int32 × Int32) (n : Nat) (h : ∀ k, k < n → ∃ g0 m, f k = (g0, Int32.ofNat m) ∧ (g0 = 3 ∧ m < 200 ∨ g0 = 2 ∧ m < 200 ∨ g0 = 4 ∧ m < 100)) (hd : ∀ k k', k < k' → k' < n → f k ≠ f k') : n ≤ 500 := by
  refine pig 500 n (fun k => cdK (f k)) (fun k hk => ?_) (fun k k' hk hk' e => ?_)
  · obtain ⟨g0, m, e, hg⟩ := h k hk
    show cdK (f k) < 500
    rw [e, cdK_of hg]
    rcases hg with ⟨q, r⟩ | ⟨q, r⟩ | ⟨q, r⟩ <;> subst q <;> simp (config := {decide := true}) only [if_true, if_false] <;> omega
  · have key : f k = f k' := by
      have e' : cdK (f k) = cdK (f k') := e
      obtain ⟨g0, m, e0, hg⟩ := h k hk
      obtain ⟨g0', m', e0', hg'⟩ := h k' hk'
      rw [e0, e0', cdK_of hg, cdK_of hg'] at e'
      rw [e0, e0']
      rcases hg with ⟨q, r⟩ | ⟨q, r⟩ | ⟨q, r⟩ <;> rcases hg' with ⟨q', r'⟩ | ⟨q', r'⟩ | ⟨q', r'⟩ <;> subst q <;> subst q' <;> simp (config := {decide := true}) only [if_true, if_false] at e' <;> first | (exfalso; omega) | (rw [show m = m' by omega])
    rcases Nat.lt_trichotomy k k' with l | l | l
    · exact absurd key (hd k k' l hk')
    · exact l
    · exact absurd key.symm (hd k' k l hk)
