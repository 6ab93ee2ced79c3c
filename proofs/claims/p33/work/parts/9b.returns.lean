/-! ===== what comes down is heard alike ===== -/
theorem As_cg {D D' : List Nat} {F F' : List (Nat × Nat)} {a a' b b' : TS} (h : As a b) (ha : chF D F a a') (hb : chF D' F' b b') (hd : dpk D F [18, 27, 29] [] = true) (hd' : dpk D' F' [87] [] = true) (h95 : tI b 95 0 1 ≤ tI b' 95 0 1) : As a' b' := by
  refine ⟨fun s hs => ?_, fun p hp => by rw [dIS hb hd' (s := 87) (by simp)]; have := h.2 p (by rw [← dZ ha hd (s := 29) (by simp)]; exact hp); exact ⟨this.1, Int32.le_trans this.2 h95⟩⟩
  rw [dZ ha hd (s := 27) (by simp)] at hs
  have hA := h.1 s hs
  unfold As1 capOK at *
  rw [dZ ha hd (s := 18) (by simp), dC ha hd (s := 18) (by simp), dZ ha hd (s := 29) (by simp), show tR a' 18 s = tR a 18 s from funext (fun k => dR ha hd (s := 18) (by simp) s k), askL_eq (fun p _ => dIS hb hd' (s := 87) (by simp) 0 _) (fun p _ _ => by rw [dIS hb hd' (s := 87) (by simp)])]
  exact hA
theorem As_c {D D' : List Nat} {F F' : List (Nat × Nat)} {a a' b b' : TS} (h : As a b) (ha : chF D F a a') (hb : chF D' F' b b') (hd : dpk D F [18, 27, 29] [] = true) (hd' : dpk D' F' [87] [(95, 1)] = true) : As a' b' := by
  have hd2 : dpk D' F' [87] [] = true := by
    unfold dpk at hd' ⊢
    rw [Bool.and_eq_true] at hd' ⊢
    exact ⟨hd'.1, rfl⟩
  exact As_cg h ha hb hd hd2 (Int32.le_of_eq (dI hb hd' (s := 95) (k := 1) (by simp) 0).symm)
/-- the class's step -/
noncomputable def bodyD (sh r : Nat) (h : Hp) (K : Hp → Res) : Res :=
  (gfI h (some (10, r)) 6 0).bind (fun x10 =>
        if x10 = (5 : Int32) then
          cV (Ex 72 [aR (some (36, sh)), aR (some (10, r))] h) (fun h11 => K h11) xT
        else
          (gfI h (some (10, r)) 6 14).bind (fun x12 =>
          if x12 = 0 then
            cV (Ex 73 [aR (some (36, sh)), aR (some (10, r))] h) (fun h13 => K h13) xT
          else
            K h))
/-- what changes of the payments' states: those that ask may be decided -/
def Stt (b b' : TS) : Prop := ∀ p, tI b' 87 0 (10 * p) = tI b 87 0 (10 * p) ∨ tI b 87 0 (10 * p) = 1 ∧ tI b' 87 0 (10 * p) ≠ 1
theorem Stt_r (b : TS) : Stt b b := fun _ => Or.inl rfl
theorem Stt_t {b b1 b2 : TS} (h1 : Stt b b1) (h2 : Stt b1 b2) : Stt b b2 := fun p => by
  rcases h1 p with e | ⟨e, e'⟩
  · rcases h2 p with f | ⟨f, f'⟩
    · exact Or.inl (f.trans e)
    · exact Or.inr ⟨e.symm.trans f, f'⟩
  · rcases h2 p with f | ⟨f, f'⟩
    · exact Or.inr ⟨e, by rw [f]; exact e'⟩
    · exact absurd f e'
theorem Stt_1 {b b' : TS} (h : Stt b b') (p : Nat) (hp : tI b 87 0 (10 * p) ≠ 1) : tI b' 87 0 (10 * p) ≠ 1 := by
  rcases h p with e | ⟨e, -⟩
  · rw [e]; exact hp
  · exact absurd e hp
theorem Stt_c {D : List Nat} {F : List (Nat × Nat)} {b b' : TS} (hb : chF D F b b') (hd : dpk D F [87] [] = true) : Stt b b' := fun p => Or.inl (dIS hb hd (s := 87) (by simp) 0 _)
def DrB : List Nat := [66, 67, 68, 86, 87]
def Rtn (a a' b b' : TS) : Prop := (R0 a' b' ∧ Nt a' b' ∧ As a' b' ∧ Kp a' b' ∧ PS a a' b b') ∧ chF [18, 19] FpA a a' ∧ chF DrB [] b b' ∧ groQ b b' ∧ Stt b b' ∧ Wr a a' ∧ Wr b b' ∧ (∀ s, tN a' s = tN a s) ∧ (∀ s, tN b' s = tN b s) ∧ ∀ s, s < tZ a 27 0 → Ers (KTs a b s) (KTs a' b' s)
/-- what a message does that comes down -/
def RtE (a b a' b' : TS) (sh : Nat) (g : Nat → Int32) : Prop :=
  (g 0 = 5 ∧ (∃ p, p < tZ a 29 0 ∧ g 1 = Int32.ofNat p ∧ tI b 87 0 (10 * p + 2) = Int32.ofNat sh ∧ AnsP b b' p (g 8) (g 7)) ∧ ∀ s, kL a' b' s = kL a b s) ∨
  (g 0 ≠ 5 ∧ g 14 = 0 ∧ FgtP a b a' b' sh (g 0, g 1, g 11) ∧ chF [66, 67, 68] [] b b') ∨ (g 0 ≠ 5 ∧ g 14 ≠ 0 ∧ a' = a ∧ b' = b)
set_option maxHeartbeats 2000000 in
theorem sim_rtn {a b : TS} {sh r : Nat} {q : Nat × Nat} (hR : R0 a b) (hN : Nt a b) (hA : As a b) (hK : Kp a b) (hsh : sh < tZ a 27 0) (hr : r < tN a 10) (hq : isQ q.1) (hqi : q.2 < tN b q.1) (hm : dnM a b sh (mv a 10 r) (qv b (some q))) :
    ∃ a' b', (∀ z K, bodyD sh r (enc 1 a z) K = K (enc 1 a' z)) ∧ (∀ z, Ex 209 [aR (some (95, 0)), aI (Int32.ofNat sh), aR (some q)] (enc 2 b z) = some (.inl none, enc 2 b' z)) ∧ Rtn a a' b b' ∧ RtE a b a' b' sh (mv a 10 r) := by
  have i10 : isM 10 := ⟨by decide +kernel, by decide +kernel⟩
  have hfr := r_FR hR
  have g : ∀ f, f < 12 → f ≠ 3 → mv a 10 r f = tI a 10 r f := fun f h h' => mv_at (Or.inl ⟨h, h'⟩)
  have g14 : mv a 10 r 14 = tI a 10 r 14 := mv_at (Or.inr rfl)
  have w : ∀ f, f < 14 → qv b (some q) f = tI b q.1 q.2 f := fun f h => qv_at h
  obtain ⟨u1, u2, u3, u4, u5⟩ := hm
  rw [g14] at u1 u2
  rw [w 13 (by decide)] at u2
  rw [w 7 (by decide), g 11 (by decide) (by decide)] at u3
  rw [w 1 (by decide), g 1 (by decide) (by decide)] at u4
  rw [g 0 (by decide) (by decide), g 11 (by decide) (by decide), g 7 (by decide) (by decide), g 8 (by decide) (by decide), g 9 (by decide) (by decide), g 6 (by decide) (by decide), g 10 (by decide) (by decide), g 1 (by decide) (by decide), w 0 (by decide), w 12 (by decide), w 11 (by decide), w 9 (by decide), w 5 (by decide), w 10 (by decide), w 8 (by decide)] at u5
  obtain ⟨qs, qi⟩ := q
  have hqi' : qi < tN b qs := hqi
  rcases u5 with ⟨v1, v2, v3, v4, v5, v6, v7, v8, v9, p, v10, v11, v12⟩ | ⟨v1, v2⟩
  · -- an ANSWER
    have q12 : tI a 10 r 7 = 1 ∧ tI b qs qi 12 = 1 ∨ tI a 10 r 7 = 2 ∧ tI b qs qi 12 = 0 := by
      rcases v4 with e | e
      · exact Or.inl ⟨e, v5.trans (by rw [if_pos e])⟩
      · exact Or.inr ⟨e, v5.trans (by rw [e]; rfl)⟩
    obtain ⟨a', b', x, y, h1, h2, h3, h4, h5, h6, h7, h8, h9, h10, h11, hAP⟩ := sim_ans (q := (qs, qi)) (p := p) hR hA hsh hr v11 v10 v12 rfl rfl rfl rfl rfl hq hqi v2 (u4.trans v11) v8 v7 v9 v6 q12
    have gq' : groQ b b' := groQ_c h4 (by decide +kernel)
    refine ⟨a', b', fun z K => ?_, y, ⟨⟨h1, Nt_c hN h3 h4 (by decide) (by decide) h5.1 (gro_c h3 (by decide)) gq', h2, Kp_c hK h3 h4 (by decide) (by decide) h5 gq' (fun p _ hp => Stt_1 h7 p hp), h5⟩, chF_m h3 (by decide) (fun q h => Or.inl h), chF_m h4 (by decide) (by simp), gq', h7, h8, h9, h10, h11, fun s _ => ?_⟩, Or.inl ⟨by rw [g 0 (by decide) (by decide)]; exact v1, ⟨p, v10, by rw [g 1 (by decide) (by decide)]; exact v11, v12, by rw [g 8 (by decide) (by decide), g 7 (by decide) (by decide)]; exact hAP⟩, fun s => kL_eq (dZ h3 (S := [19]) (P := []) (s := 19) (by decide) (by simp) s) (fun k _ => by unfold kR3; rw [dR h3 (S := [19]) (P := []) (s := 19) (by decide) (by simp), dR h4 (S := [66]) (P := []) (s := 66) (by decide) (by simp), dIS h4 (S := [67]) (P := []) (s := 67) (by decide) (by simp)])⟩⟩
    · unfold bodyD
      simp (config := {decide := true}) only [gfI_enc, gfL_enc, gfR_enc, pfI_enc, pfL_enc, pfR_enc, Option.bind_some, cI_v, cL_v, cF_v, cD_v, cR_v, cV_v, cI_x, cL_x, cR_x, cV_x, gz_0, gz_1, acc_enc, tI_sI, tL_sI, tR_sI, tN_sI, tZ_sI, tC_sI, tc_sI, tz_sI, tI_sL, tL_sL, tR_sL, tN_sL, tZ_sL, tC_sL, tc_sL, tz_sL, tI_sR, tL_sR, tR_sR, tN_sR, tZ_sR, tC_sR, tc_sR, tz_sR, tI_sZ, tL_sZ, tR_sZ, tN_sZ, tZ_sZ, tC_sZ, tc_sZ, tz_sZ, tI_sC, tL_sC, tR_sC, tN_sC, tZ_sC, tC_sC, tc_sC, tz_sC, tI_aC, tL_aC, tR_aC, tN_aC, tZ_aC, tC_aC, tc_aC, tz_aC, tI_rmL, tL_rmL, tR_rmL, tN_rmL, tZ_rmL, tC_rmL, tc_rmL, tz_rmL, tI_mk, tL_mk, tR_mk, tN_mk, tZ_mk, tC_mk, tc_mk, tz_mk, tI_pushL, tL_pushL, tR_pushL, tN_pushL, tZ_pushL, tC_pushL, tc_pushL, tz_pushL, tI_pushB, tL_pushB, tR_pushB, tN_pushB, tZ_pushB, tC_pushB, tc_pushB, tz_pushB, tI_cpL, tL_cpL, tR_cpL, tN_cpL, tZ_cpL, tC_cpL, tc_cpL, tz_cpL, eq_self, true_and, and_true, false_and, and_false, if_true, if_false, reduceIte, ite_true, ite_false, not_true_eq_false, not_false_eq_true, gm i10 hr, v1, x]
    · rw [KTs_eq (dZ h3 (S := [19]) (P := []) (s := 19) (by decide) (by simp) s) (fun k _ => dIS h4 (S := [67]) (P := []) (s := 67) (by decide) (by simp) 0 _)]
      exact Ers_r _
  · -- a DONE
    have v0 : ¬ tI a 10 r 0 = 5 := by rcases v1 with ⟨e, -⟩ | ⟨e, -⟩ | ⟨e, -⟩ <;> rw [e] <;> decide
    have v2' : tI b qs qi 0 = 5 := v2
    have u2' : tI b qs qi 13 = tI a 10 r 14 := u2
    by_cases e14 : tI a 10 r 14 = 0
    · obtain ⟨a', b', x, y, h1, h2, h3, h4, h5, h6, h7, h8, h9, h10, hFg⟩ := sim_fgt (q := (qs, qi)) (d0 := tI a 10 r 0) (d1 := tI a 10 r 1) (d11 := tI a 10 r 11) (e8 := tI b qs qi 8) hR hK hsh hr hq hqi rfl rfl rfl v1 rfl u4 u3
      have gq' : groQ b b' := groQ_c h4 (by decide +kernel)
      refine ⟨a', b', fun z K => ?_, fun z => ?_, ⟨⟨h1, Nt_c hN h3 h4 (by decide) (by decide) h5.1 (gro_c h3 (by decide)) gq', As_c hA h3 h4 (by decide) (by decide), h2, h5⟩, chF_m h3 (by decide) (by simp), chF_m h4 (by decide) (by simp), gq', Stt_c h4 (by decide), h6, h7, h8, h9, h10⟩, Or.inr (Or.inl ⟨by rw [g 0 (by decide) (by decide)]; exact v0, by rw [g14]; exact e14, by rw [g 0 (by decide) (by decide), g 1 (by decide) (by decide), g 11 (by decide) (by decide)]; exact hFg, h4⟩)⟩
      · unfold bodyD
        simp (config := {decide := true}) only [gfI_enc, gfL_enc, gfR_enc, pfI_enc, pfL_enc, pfR_enc, Option.bind_some, cI_v, cL_v, cF_v, cD_v, cR_v, cV_v, cI_x, cL_x, cR_x, cV_x, gz_0, gz_1, acc_enc, tI_sI, tL_sI, tR_sI, tN_sI, tZ_sI, tC_sI, tc_sI, tz_sI, tI_sL, tL_sL, tR_sL, tN_sL, tZ_sL, tC_sL, tc_sL, tz_sL, tI_sR, tL_sR, tR_sR, tN_sR, tZ_sR, tC_sR, tc_sR, tz_sR, tI_sZ, tL_sZ, tR_sZ, tN_sZ, tZ_sZ, tC_sZ, tc_sZ, tz_sZ, tI_sC, tL_sC, tR_sC, tN_sC, tZ_sC, tC_sC, tc_sC, tz_sC, tI_aC, tL_aC, tR_aC, tN_aC, tZ_aC, tC_aC, tc_aC, tz_aC, tI_rmL, tL_rmL, tR_rmL, tN_rmL, tZ_rmL, tC_rmL, tc_rmL, tz_rmL, tI_mk, tL_mk, tR_mk, tN_mk, tZ_mk, tC_mk, tc_mk, tz_mk, tI_pushL, tL_pushL, tR_pushL, tN_pushL, tZ_pushL, tC_pushL, tc_pushL, tz_pushL, tI_pushB, tL_pushB, tR_pushB, tN_pushB, tZ_pushB, tC_pushB, tc_pushB, tz_pushB, tI_cpL, tL_cpL, tR_cpL, tN_cpL, tZ_cpL, tC_cpL, tc_cpL, tz_cpL, eq_self, true_and, and_true, false_and, and_false, if_true, if_false, reduceIte, ite_true, ite_false, not_true_eq_false, not_false_eq_true, gm i10 hr, v0, e14, x]
      · refine (X_in (by decide +kernel) (frN_95 hfr) rfl).trans ((lf_209_0 ..).trans ?_)
        rw [e14] at u2'
        simp (config := {decide := true}) only [gfI_enc, gfL_enc, gfR_enc, pfI_enc, pfL_enc, pfR_enc, Option.bind_some, cI_v, cL_v, cF_v, cD_v, cR_v, cV_v, cI_x, cL_x, cR_x, cV_x, gz_0, gz_1, acc_enc, tI_sI, tL_sI, tR_sI, tN_sI, tZ_sI, tC_sI, tc_sI, tz_sI, tI_sL, tL_sL, tR_sL, tN_sL, tZ_sL, tC_sL, tc_sL, tz_sL, tI_sR, tL_sR, tR_sR, tN_sR, tZ_sR, tC_sR, tc_sR, tz_sR, tI_sZ, tL_sZ, tR_sZ, tN_sZ, tZ_sZ, tC_sZ, tc_sZ, tz_sZ, tI_sC, tL_sC, tR_sC, tN_sC, tZ_sC, tC_sC, tc_sC, tz_sC, tI_aC, tL_aC, tR_aC, tN_aC, tZ_aC, tC_aC, tc_aC, tz_aC, tI_rmL, tL_rmL, tR_rmL, tN_rmL, tZ_rmL, tC_rmL, tc_rmL, tz_rmL, tI_mk, tL_mk, tR_mk, tN_mk, tZ_mk, tC_mk, tc_mk, tz_mk, tI_pushL, tL_pushL, tR_pushL, tN_pushL, tZ_pushL, tC_pushL, tc_pushL, tz_pushL, tI_pushB, tL_pushB, tR_pushB, tN_pushB, tZ_pushB, tC_pushB, tc_pushB, tz_pushB, tI_cpL, tL_cpL, tR_cpL, tN_cpL, tZ_cpL, tC_cpL, tc_cpL, tz_cpL, eq_self, true_and, and_true, false_and, and_false, if_true, if_false, reduceIte, ite_true, ite_false, not_true_eq_false, not_false_eq_true, gq hq hqi', v2', u2', y]
    · refine ⟨a, b, fun z K => ?_, fun z => ?_, ⟨⟨hR, hN, hA, hK, PS_r a b⟩, chF_r _ _ _, chF_r _ _ _, fun s _ => gro_r b s, Stt_r b, Wr.rf _, Wr.rf _, fun _ => rfl, fun _ => rfl, fun _ _ => Ers_r _⟩, Or.inr (Or.inr ⟨by rw [g 0 (by decide) (by decide)]; exact v0, by rw [g14]; exact e14, rfl, rfl⟩)⟩
      · unfold bodyD
        simp (config := {decide := true}) only [gfI_enc, gfL_enc, gfR_enc, pfI_enc, pfL_enc, pfR_enc, Option.bind_some, cI_v, cL_v, cF_v, cD_v, cR_v, cV_v, cI_x, cL_x, cR_x, cV_x, gz_0, gz_1, acc_enc, tI_sI, tL_sI, tR_sI, tN_sI, tZ_sI, tC_sI, tc_sI, tz_sI, tI_sL, tL_sL, tR_sL, tN_sL, tZ_sL, tC_sL, tc_sL, tz_sL, tI_sR, tL_sR, tR_sR, tN_sR, tZ_sR, tC_sR, tc_sR, tz_sR, tI_sZ, tL_sZ, tR_sZ, tN_sZ, tZ_sZ, tC_sZ, tc_sZ, tz_sZ, tI_sC, tL_sC, tR_sC, tN_sC, tZ_sC, tC_sC, tc_sC, tz_sC, tI_aC, tL_aC, tR_aC, tN_aC, tZ_aC, tC_aC, tc_aC, tz_aC, tI_rmL, tL_rmL, tR_rmL, tN_rmL, tZ_rmL, tC_rmL, tc_rmL, tz_rmL, tI_mk, tL_mk, tR_mk, tN_mk, tZ_mk, tC_mk, tc_mk, tz_mk, tI_pushL, tL_pushL, tR_pushL, tN_pushL, tZ_pushL, tC_pushL, tc_pushL, tz_pushL, tI_pushB, tL_pushB, tR_pushB, tN_pushB, tZ_pushB, tC_pushB, tc_pushB, tz_pushB, tI_cpL, tL_cpL, tR_cpL, tN_cpL, tZ_cpL, tC_cpL, tc_cpL, tz_cpL, eq_self, true_and, and_true, false_and, and_false, if_true, if_false, reduceIte, ite_true, ite_false, not_true_eq_false, not_false_eq_true, gm i10 hr, v0, e14]
      · refine (X_in (by decide +kernel) (frN_95 hfr) rfl).trans ((lf_209_0 ..).trans ?_)
        have e13 : ¬ tI b qs qi 13 = 0 := by rw [u2']; exact e14
        simp (config := {decide := true}) only [gfI_enc, gfL_enc, gfR_enc, pfI_enc, pfL_enc, pfR_enc, Option.bind_some, cI_v, cL_v, cF_v, cD_v, cR_v, cV_v, cI_x, cL_x, cR_x, cV_x, gz_0, gz_1, acc_enc, tI_sI, tL_sI, tR_sI, tN_sI, tZ_sI, tC_sI, tc_sI, tz_sI, tI_sL, tL_sL, tR_sL, tN_sL, tZ_sL, tC_sL, tc_sL, tz_sL, tI_sR, tL_sR, tR_sR, tN_sR, tZ_sR, tC_sR, tc_sR, tz_sR, tI_sZ, tL_sZ, tR_sZ, tN_sZ, tZ_sZ, tC_sZ, tc_sZ, tz_sZ, tI_sC, tL_sC, tR_sC, tN_sC, tZ_sC, tC_sC, tc_sC, tz_sC, tI_aC, tL_aC, tR_aC, tN_aC, tZ_aC, tC_aC, tc_aC, tz_aC, tI_rmL, tL_rmL, tR_rmL, tN_rmL, tZ_rmL, tC_rmL, tc_rmL, tz_rmL, tI_mk, tL_mk, tR_mk, tN_mk, tZ_mk, tC_mk, tc_mk, tz_mk, tI_pushL, tL_pushL, tR_pushL, tN_pushL, tZ_pushL, tC_pushL, tc_pushL, tz_pushL, tI_pushB, tL_pushB, tR_pushB, tN_pushB, tZ_pushB, tC_pushB, tc_pushB, tz_pushB, tI_cpL, tL_cpL, tR_cpL, tN_cpL, tZ_cpL, tC_cpL, tc_cpL, tz_cpL, eq_self, true_and, and_true, false_and, and_false, if_true, if_false, reduceIte, ite_true, ite_false, not_true_eq_false, not_false_eq_true, gq hq hqi', v2', e13]
