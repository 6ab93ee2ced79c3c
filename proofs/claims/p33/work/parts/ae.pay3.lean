/-! ===== a payment is registered: the parts stand ===== -/
theorem pay_R {A B : TS} {cd sh c : Nat} {m T tch : Int32} (hR : R0x A B) (h200 : tZ A 29 0 < 200) (hcd : cd < tZ A 28 0) (hsh : sh < tZ A 27 0) (hm : 0 < m ∧ m ≤ 100000) (hT : ∀ p', p' < tZ A 29 0 → tI B 87 0 (10 * p' + 6) ≤ T) (htch : bitOk tch = true) (hc : c < 201) (hc1 : tI B 86 0 (10 * cd) = Int32.ofNat c) :
    R0 (pyX A (tZ A 29 0) cd sh m T tch (stp (keyL (Int32.ofNat cd)) (Int32.ofNat c) m (Int32.ofNat sh) 2)) (pyY B (tZ A 29 0) cd sh m T tch (stp (keyL (Int32.ofNat cd)) (Int32.ofNat c) m (Int32.ofNat sh) 2)) := by
  obtain ⟨hFC, hFR, hB, hS, hM, hW, hV, hC, hD, hE, hP, hQ, hH, hK, hG, hO, hZ⟩ := hR
  obtain ⟨P1, ⟨P2, P2', P2''⟩, P3, P4, P5, P6, P7⟩ := hP
  obtain ⟨ha, wa, hb, wb⟩ := py_eq (A := A) (B := B) (tZ A 29 0) cd sh m T tch (stp (keyL (Int32.ofNat cd)) (Int32.ofNat c) m (Int32.ofNat sh) 2) P2 (fcN_29 hFC)
  have aI := fun i {f} hf => pyX_I A (tZ A 29 0) cd sh m T tch (stp (keyL (Int32.ofNat cd)) (Int32.ofNat c) m (Int32.ofNat sh) 2) i (f := f) hf
  have aR := pyX_R A (tZ A 29 0) cd sh m T tch (stp (keyL (Int32.ofNat cd)) (Int32.ofNat c) m (Int32.ofNat sh) 2)
  have a36 := pyX_36 A (tZ A 29 0) cd sh m T tch (stp (keyL (Int32.ofNat cd)) (Int32.ofNat c) m (Int32.ofNat sh) 2)
  have aN := pyX_N A (tZ A 29 0) cd sh m T tch (stp (keyL (Int32.ofNat cd)) (Int32.ofNat c) m (Int32.ofNat sh) 2)
  obtain ⟨az, a29, aC⟩ := pyX_29 A (tZ A 29 0) cd sh m T tch (stp (keyL (Int32.ofNat cd)) (Int32.ofNat c) m (Int32.ofNat sh) 2)
  have bI := pyY_I B (tZ A 29 0) cd sh m T tch (stp (keyL (Int32.ofNat cd)) (Int32.ofNat c) m (Int32.ofNat sh) 2)
  have b90 := fun k => (pyY_90 B (tZ A 29 0) cd sh m T tch (stp (keyL (Int32.ofNat cd)) (Int32.ofNat c) m (Int32.ofNat sh) 2) k).1
  have b93 := (pyY_90 B (tZ A 29 0) cd sh m T tch (stp (keyL (Int32.ofNat cd)) (Int32.ofNat c) m (Int32.ofNat sh) 2) 0).2
  have est : stp (keyL (Int32.ofNat cd)) (Int32.ofNat c) m (Int32.ofNat sh) 2 = stp (keyL (Int32.ofNat cd)) (Int32.ofNat c) m (Int32.ofNat sh) 2 := rfl
  generalize hs0 : stp (keyL (Int32.ofNat cd)) (Int32.ofNat c) m (Int32.ofNat sh) 2 = st at *
  generalize pyX A (tZ A 29 0) cd sh m T tch st = a' at *
  generalize pyY B (tZ A 29 0) cd sh m T tch st = b' at *
  rw [P3] at aI aR aN a29
  rw [hc1] at bI
  have z27 : tZ a' 27 0 = tZ A 27 0 := dZ ha (S := [27]) (P := []) (s := 27) (by decide) (by simp) 0
  have z28 : tZ a' 28 0 = tZ A 28 0 := dZ ha (S := [28]) (P := []) (s := 28) (by decide) (by simp) 0
  have nI : ∀ f (hf : f < 12), tI a' 38 (tZ A 29 0) f = if f = 5 then st else if f = 7 then 1 else if f = 11 then tch else if f = 6 then T else if f = 4 then tI A 37 cd 6 else if f = 3 then m else if f = 0 then Int32.ofNat (tZ A 29 0) else 0 := fun f hf => by rw [aI _ hf, if_pos rfl]
  have oI : ∀ p f, p < tZ A 29 0 → f < 12 → tI a' 38 p f = tI A 38 p f := fun p f hp hf => by rw [aI _ hf, if_neg (by omega)]
  have oR : ∀ p f, p < tZ A 29 0 → tR a' 38 p f = tR A 38 p f := fun p f hp => by rw [aR, if_neg (by omega)]
  have oB : ∀ p w, p < tZ A 29 0 → w < 10 → tI b' 87 0 (10 * p + w) = tI B 87 0 (10 * p + w) := fun p w hp hw => by
    rw [bI, if_neg (by omega), if_neg (by omega), if_neg (by omega), if_neg (by omega), if_neg (by omega), if_neg (by omega), if_neg (by omega), if_neg (by omega)]
  have oB0 : ∀ p, p < tZ A 29 0 → tI b' 87 0 (10 * p) = tI B 87 0 (10 * p) := fun p hp => oB p 0 hp (by omega)
  have m5 : tI b' 87 0 (10 * tZ A 29 0 + 5) = st := by rw [bI, if_pos rfl]
  have m0 : tI b' 87 0 (10 * tZ A 29 0) = 1 := by rw [bI, if_neg (by omega), if_pos rfl]
  have m9 : tI b' 87 0 (10 * tZ A 29 0 + 9) = tch := by rw [bI, if_neg (by omega), if_neg (by omega), if_pos rfl]
  have m6 : tI b' 87 0 (10 * tZ A 29 0 + 6) = T := by rw [bI, if_neg (by omega), if_neg (by omega), if_neg (by omega), if_pos rfl]
  have m4 : tI b' 87 0 (10 * tZ A 29 0 + 4) = Int32.ofNat c := by rw [bI, if_neg (by omega), if_neg (by omega), if_neg (by omega), if_neg (by omega), if_pos rfl]
  have m3 : tI b' 87 0 (10 * tZ A 29 0 + 3) = m := by rw [bI, if_neg (by omega), if_neg (by omega), if_neg (by omega), if_neg (by omega), if_neg (by omega), if_pos rfl]
  have m2 : tI b' 87 0 (10 * tZ A 29 0 + 2) = Int32.ofNat sh := by rw [bI, if_neg (by omega), if_neg (by omega), if_neg (by omega), if_neg (by omega), if_neg (by omega), if_neg (by omega), if_pos rfl]
  have m1 : tI b' 87 0 (10 * tZ A 29 0 + 1) = Int32.ofNat cd := by rw [bI, if_neg (by omega), if_neg (by omega), if_neg (by omega), if_neg (by omega), if_neg (by omega), if_neg (by omega), if_neg (by omega), if_pos rfl]
  have mz : ∀ w, w = 7 ∨ w = 8 → tI b' 87 0 (10 * tZ A 29 0 + w) = 0 := fun w hw => by
    rw [bI, if_neg (by omega), if_neg (by omega), if_neg (by omega), if_neg (by omega), if_neg (by omega), if_neg (by omega), if_neg (by omega), if_neg (by omega)]
    exact P7 _ (by omega)
  have i70 := dIS hb (S := [70]) (P := []) (s := 70) (by decide) (by simp) 0
  have hcA : tI A 37 cd 6 = Int32.ofNat c := by rw [(hD.1 cd hcd).2.1, hc1]
  have oP : ∀ p u, p < tZ A 29 0 → pst b' p u = pst B p u := fun p u hp => by
    unfold pst
    rw [oB p 1 hp (by omega), oB p 4 hp (by omega), oB p 3 hp (by omega), oB p 2 hp (by omega)]
  have nP : pst b' (tZ A 29 0) 2 = st := by
    unfold pst
    rw [m1, m4, m3, m2]
    exact hs0
  have hM' : RM a' b' := by
    obtain ⟨r1, r2⟩ := hM
    have i69 := dIS hb (S := [69]) (P := []) (s := 69) (by decide) (by simp) 0
    refine ⟨fun s hs => ?_, fun s hs => ?_⟩
    · rw [z27] at hs
      obtain ⟨⟨n, n1, n2, n3⟩, n4⟩ := r1 s hs
      rw [i69, a36, a36, b90, if_neg (fun q => absurd q.2 (by decide))]
      refine ⟨⟨n, n1, n2, n3⟩, ?_⟩
      by_cases e : s = sh
      · subst e
        rw [if_pos ⟨rfl, rfl⟩, if_pos rfl, n4]
      · rw [if_neg (fun q => e q.1), if_neg e]
        exact n4
    · rw [z27] at hs
      rw [i69, b90, if_neg (by omega)]
      exact r2 s hs
  have hD' : RD a' b' := by
    obtain ⟨d1, d2⟩ := hD
    unfold RD
    simp only [az, z28, dIS ha (S := [37]) (P := []) (s := 37) (by decide) (by simp), dIS hb (S := [86]) (P := []) (s := 86) (by decide) (by simp)]
    exact ⟨d1, d2⟩
  have hP' : RP a' b' := by
    refine ⟨by omega, ?_, ?_, ?_, fun p hp => ?_, fun p p' h1 h2 => ?_, fun k hk => ?_⟩
    · unfold capOK
      rw [az, aC]
      by_cases e : tZ A 29 0 < tC A 29 0
      · rw [if_pos e]
        omega
      · rw [if_neg e]
        exact liC_le2 P2 e (by omega) P2''
    · rw [az, aN, if_pos rfl]
    · rw [az, b93]
    · rw [az] at hp
      by_cases e : p = tZ A 29 0
      · subst e
        refine ⟨by rw [a29, if_pos rfl], nI 0 (by omega), ⟨cd, by rw [z28]; exact hcd, (aR _ 1).trans (if_pos rfl), m1⟩, ⟨sh, by rw [z27]; exact hsh, (aR _ 2).trans (if_pos rfl), m2⟩, ⟨(nI 3 (by omega)).trans m3.symm, by rw [m3]; exact hm.1, by rw [m3]; exact hm.2⟩, ⟨(nI 4 (by omega)).trans (hcA.trans m4.symm), c, hc, m4⟩, (nI 6 (by omega)).trans m6.symm, (nI 11 (by omega)).trans m9.symm, by rw [m9]; exact htch⟩
      · have hp : p < tZ A 29 0 := by omega
        rw [a29, if_neg e, oI p 0 hp (by omega), oR p 1 hp, oR p 2 hp, oI p 3 hp (by omega), oI p 4 hp (by omega), oI p 6 hp (by omega), oI p 11 hp (by omega), oB p 1 hp (by omega), oB p 2 hp (by omega), oB p 3 hp (by omega), oB p 4 hp (by omega), oB p 6 hp (by omega), oB p 9 hp (by omega), z27, z28]
        exact P5 p hp
    · rw [az] at h2
      by_cases e' : p' = tZ A 29 0
      · subst e'
        rw [m6]
        by_cases e : p = tZ A 29 0
        · subst e
          rw [m6]
          exact Int32.le_refl _
        · rw [oB p 6 (by omega) (by omega)]
          exact hT p (by omega)
      · rw [oB p 6 (by omega) (by omega), oB p' 6 (by omega) (by omega)]
        exact P6 p p' h1 (by omega)
    · rw [az] at hk
      rw [bI, if_neg (by omega), if_neg (by omega), if_neg (by omega), if_neg (by omega), if_neg (by omega), if_neg (by omega), if_neg (by omega), if_neg (by omega)]
      exact P7 k (by omega)
  have hQ' : RQ a' b' := by
    obtain ⟨q1, q2⟩ := hQ
    refine ⟨fun p hp => ?_, fun p hp => ?_⟩
    · rw [az] at hp
      by_cases e : p = tZ A 29 0
      · subst e
        have z70 := q2 (tZ A 29 0) (Nat.le_refl _)
        refine ⟨(nI 5 (by omega)).trans m5.symm, (nI 7 (by omega)).trans m0.symm, (nI 8 (by omega)).trans (mz 7 (Or.inl rfl)).symm, (nI 9 (by omega)).trans (mz 8 (Or.inr rfl)).symm, (nI 10 (by omega)).trans (by rw [i70, z70]; rfl), by rw [i70, z70]; rfl, 1, by omega, m0, fun z => absurd z (by decide), fun _ => mz 8 (Or.inr rfl), ?_⟩
        rw [m5]
        exact nP.symm
      · have hp : p < tZ A 29 0 := by omega
        rw [oI p 5 hp (by omega), oI p 7 hp (by omega), oI p 8 hp (by omega), oI p 9 hp (by omega), oI p 10 hp (by omega), oB p 5 hp (by omega), oB0 p hp, oB p 7 hp (by omega), oB p 8 hp (by omega), i70]
        obtain ⟨t1, t2, t3, t4, t5, t6, n, t7⟩ := q1 p hp
        refine ⟨t1, t2, t3, t4, t5, t6, n, ?_⟩
        rw [oP p _ hp]
        exact t7
    · rw [az] at hp
      rw [i70]
      exact q2 p (by omega)
  have hG' : RG a' b' := by
    obtain ⟨H, g1, g2, g3, g4, g5, g6⟩ := hG
    unfold RG
    simp only [dIS hb (S := [54, 55, 56, 94]) (P := []) (s := 54) (by decide) (by simp), dIS hb (S := [54, 55, 56, 94]) (P := []) (s := 55) (by decide) (by simp), dIS hb (S := [54, 55, 56, 94]) (P := []) (s := 56) (by decide) (by simp), dIS hb (S := [54, 55, 56, 94]) (P := []) (s := 94) (by decide) (by simp), dIS ha (S := [1]) (P := []) (s := 1) (by decide) (by simp), dIS ha (S := [37]) (P := []) (s := 37) (by decide) (by simp), z28, az]
    refine ⟨H, g1, g2, fun k hk => ?_, g4, g5, g6⟩
    obtain ⟨cd', c', p, q1, q2, q3, q4, q5, q6, q7, q8, q9⟩ := g3 k hk
    exact ⟨cd', c', p, q1, q2, by omega, q4, q5, q6, q7, by rw [oB p 1 q3 (by omega)]; exact q8, by rw [oB p 4 q3 (by omega)]; exact q9⟩
  have hK' : RK a' b' := RK_g hK ha hb (by decide) (by decide) (Nat.le_of_eq (dZ ha (S := [26]) (P := []) (s := 26) (by decide) (by simp) 0).symm) (Nat.le_of_eq z27.symm) (Nat.le_of_eq z28.symm) (fun k _ => dIS hb (S := [86]) (P := []) (s := 86) (by decide) (by simp) 0 _)
  have hZ' : RZ a' b' := by
    have w := hI_c hb (S := [53, 61, 64]) (P := []) (by decide) (by simp) (by simp)
    have v := hA_c hb (S := [53, 61, 64]) (P := []) (t := 64) (by decide) (by simp) (by simp)
    have u := kR_c ha (S := [3, 4]) (P := []) (by decide) (by simp) (by simp)
    refine ⟨fun i hi => ?_, fun n hn q => ?_⟩
    · rw [dN ha (S := [7]) (P := []) (s := 7) (by decide) (by simp)] at hi
      obtain ⟨n, n1, n2⟩ := hZ.1 i hi
      exact ⟨n, n1, by rw [u]; exact n2⟩
    · rw [w] at q
      obtain ⟨p, p1, p2⟩ := hZ.2 n hn q
      refine ⟨p, by omega, ?_⟩
      rw [oB p 1 p1 (by omega), oB p 4 p1 (by omega), oB p 3 p1 (by omega), oB p 2 p1 (by omega), oB0 p p1, oB p 5 p1 (by omega), v, v, v, w, u]
      simp only [dIS ha (S := [7]) (P := []) (s := 7) (by decide) (by simp)]
      exact p2
  exact ⟨FxC_s hFC wa ha (by decide), FxR_s hFR wb hb (by decide), RB_c hB ha hb (by decide) (by decide), RS_c hS ha hb (by decide) (by decide), hM', RW_c hW ha hb (by decide) (by decide), RV_c hV ha hb (by decide) (by decide), RC_c hC ha hb (by decide) (by decide), hD', RE_c hE ha hb (by decide) (by decide), hP', hQ', RH_c hH ha hb (by decide) (by decide), hK', hG', RO_c hO ha hb (by decide) (by decide), hZ'⟩
