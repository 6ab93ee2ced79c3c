/-! ===== what comes up is heard ===== -/
/-- the class's step, behind the shop's number -/
noncomputable def bodyA (sh r : Nat) (h9 : Hp) (K : Hp → Res) : Res :=
  (gfI h9 (some (10, r)) 6 0).bind (fun x10 =>
        if x10 = (1 : Int32) then
          (gfR h9 (some (36, sh)) 10 5).bind (fun x11 =>
          (gfR h9 (some (96, 0)) 11 7).bind (fun x12 =>
          (gfI h9 x12 9 2).bind (fun x13 =>
          if x13 = 0 then
            (gfR h9 (some (96, 0)) 11 7).bind (fun x14 =>
            cR (Ex 64 [aR x14, aR (some (10, r))] h9) (fun x16 h15 =>
            cV (Ex 37 [aR x11, aR x16] h15) (fun h17 =>
            K h17) xT) xT)
          else
            (gfR h9 (some (96, 0)) 11 6).bind (fun x18 =>
            cR (Ex 19 [aR x18, aR (some (10, r))] h9) (fun x20 h19 =>
            cV (Ex 37 [aR x11, aR x20] h19) (fun h21 =>
            K h21) xT) xT))))
        else
          (gfR h9 (some (96, 0)) 11 7).bind (fun x22 =>
          (gfI h9 x22 9 2).bind (fun x23 =>
          if x23 = 0 then
            K h9
          else
            (gfR h9 (some (96, 0)) 11 6).bind (fun x24 =>
            cV (Ex 18 [aR x24, aR (some (10, r)), aR (some (36, sh))] h9) (fun h25 =>
            (gfR h25 (some (36, sh)) 10 5).bind (fun x26 =>
            cV (Ex 37 [aR x26, aR (some (10, r))] h25) (fun h27 =>
            K h27) xT)) xT))))
theorem mv_at {a : TS} {s i f : Nat} (h : (f < 12 ∧ f ≠ 3) ∨ f = 14) : mv a s i f = tI a s i f := by
  unfold mv
  rw [if_pos h]
theorem qv_at {b : TS} {q : Nat × Nat} {f : Nat} (h : f < 14) : qv b (some q) f = tI b q.1 q.2 f := by
  unfold qv
  dsimp only
  rw [if_pos h]
/-- the shop's number in a slot: lines see nothing of it -/
theorem mv_3 (a : TS) (r : Nat) (v : Int32) (s i : Nat) : mv (sI a 10 r 3 v) s i = mv a s i := by
  funext f
  unfold mv
  by_cases h : (f < 12 ∧ f ≠ 3) ∨ f = 14
  · rw [if_pos h, if_pos h, tI_sI, if_neg (fun q => by omega)]
  · rw [if_neg h, if_neg h]
theorem vA_3 (a : TS) (r : Nat) (v : Int32) (c : Nat) : vA (sI a 10 r 3 v) c = vA a c := by
  unfold vA vL
  rw [tI_sI, if_neg (c := 21 + c % 2 = 10 ∧ c / 2 = r ∧ 3 = 3) (fun q => by omega)]
  refine List.map_congr_left (fun k _ => ?_)
  rw [tR_sI]
  unfold eC
  split
  · rw [mv_3, tI_sI, if_neg (fun q => by omega)]
  · rfl
theorem hear_3 {a b : TS} {r : Nat} {v : Int32} (hR : R0 a b) (hN : Nt a b) (hL : Ln0 a b) : R0 (sI a 10 r 3 v) b ∧ Nt (sI a 10 r 3 v) b ∧ Ln0 (sI a 10 r 3 v) b ∧ PS a (sI a 10 r 3 v) b b := by
  have ha : chF [10] [] a (sI a 10 r 3 v) := chF_I (by simp) (chF_r _ _ _)
  have hb : chF [] [] b b := chF_r _ _ _
  have wa : Wr a (sI a 10 r 3 v) := (Wr.rf a).cI _ _ _ _
  have wb : Wr b b := Wr.rf b
  refine ⟨?_, Nt_c hN ha hb (by decide) (by decide) (PM_c ha hb (by decide) (by decide)) (gro_c ha (by decide)) (groQ_c hb (by decide)), ?_, PS_c ha hb (by decide) (by decide)⟩
  · obtain ⟨hFC, hFR, hB, hS, hM, hW, hV, hC, hD, hE, hP, hQ, hH, hK, hG, hO, hZ⟩ := hR
    exact ⟨FxC_s hFC wa ha (by decide), FxR_s hFR wb hb (by decide), RB_c hB ha hb (by decide) (by decide), RS_c hS ha hb (by decide) (by decide), RM_c hM ha hb (by decide) (by decide), RW_c hW ha hb (by decide) (by decide), RV_c hV ha hb (by decide) (by decide), RC_c hC ha hb (by decide) (by decide), RD_c hD ha hb (by decide) (by decide), RE_c hE ha hb (by decide) (by decide), RP_c hP ha hb (by decide) (by decide), RQ_c hQ ha hb (by decide) (by decide), RH_c hH ha hb (by decide) (by decide), RK_c hK ha hb (by decide) (by decide) (gro_c ha (by decide)) (gro_c ha (by decide)) (gro_c ha (by decide)) (gro_c ha (by decide)), RG_c hG ha hb (by decide) (by decide), RO_c hO ha hb (by decide) (by decide), RZ_c hZ ha hb (by decide) (by decide)⟩
  · obtain ⟨⟨l1, l2, l3⟩, l4, l5, l6, l7⟩ := hL
    refine ⟨⟨l1, l2, fun c hc => ?_⟩, l4, l5, fun c hc => ?_, l7⟩
    · obtain ⟨h1, m, h2, h3⟩ := l3 c hc
      exact ⟨h1, m, by rw [tI_sI, if_neg (fun q => by omega)]; exact h2, h3⟩
    · rw [← l6 c hc]
      funext k
      simp (config := {decide := true}) only [gfI_enc, gfL_enc, gfR_enc, pfI_enc, pfL_enc, pfR_enc, Option.bind_some, cI_v, cL_v, cF_v, cD_v, cR_v, cV_v, cI_x, cL_x, cR_x, cV_x, gz_0, gz_1, acc_enc, tI_sI, tL_sI, tR_sI, tN_sI, tZ_sI, tC_sI, tc_sI, tz_sI, tI_sL, tL_sL, tR_sL, tN_sL, tZ_sL, tC_sL, tc_sL, tz_sL, tI_sR, tL_sR, tR_sR, tN_sR, tZ_sR, tC_sR, tc_sR, tz_sR, tI_sZ, tL_sZ, tR_sZ, tN_sZ, tZ_sZ, tC_sZ, tc_sZ, tz_sZ, tI_sC, tL_sC, tR_sC, tN_sC, tZ_sC, tC_sC, tc_sC, tz_sC, tI_aC, tL_aC, tR_aC, tN_aC, tZ_aC, tC_aC, tc_aC, tz_aC, tI_rmL, tL_rmL, tR_rmL, tN_rmL, tZ_rmL, tC_rmL, tc_rmL, tz_rmL, tI_mk, tL_mk, tR_mk, tN_mk, tZ_mk, tC_mk, tc_mk, tz_mk, tI_pushL, tL_pushL, tR_pushL, tN_pushL, tZ_pushL, tC_pushL, tc_pushL, tz_pushL, tI_pushB, tL_pushB, tR_pushB, tN_pushB, tZ_pushB, tC_pushB, tc_pushB, tz_pushB, tI_cpL, tL_cpL, tR_cpL, tN_cpL, tZ_cpL, tC_cpL, tc_cpL, tz_cpL, eq_self, true_and, and_true, false_and, and_false, if_true, if_false, reduceIte, ite_true, ite_false, not_true_eq_false, not_false_eq_true]
theorem Ln0_o {D D' : List Nat} {F F' : List (Nat × Nat)} {a a' b b' : TS} (h : Ln0 a b) (ha : chF D F a a') (hb : chF D' F' b b') (hd : dpk D F [8, 9, 10, 21, 22, 27] [] = true) (hd25 : 25 ∉ D) (hd' : dpk D' F' [48, 49, 50, 51, 52, 65, 74, 75] [] = true) (hq : groQ b b') : Ln0 a' b' ∧ (∀ c, c < 2 * tZ a 27 0 → vA a' c = vA a c ∧ vQ b' c = vQ b c) := by
  obtain ⟨⟨⟨o1, o2, o3⟩, l1, l2⟩, ⟨c1, c2⟩, l5, l6, m1, m2, m3, m8, m48, m74, m75⟩ := h
  have I : ∀ s, s ∈ [8, 9, 10, 21, 22, 27] → ∀ i k, tI a' s i k = tI a s i k := fun s hs => dIS ha hd hs
  have R : ∀ s, s ∈ [8, 9, 10, 21, 22, 27] → ∀ i k, tR a' s i k = tR a s i k := fun s hs => dR ha hd hs
  have N : ∀ s, s ∈ [8, 9, 10, 21, 22, 27] → tN a' s = tN a s := fun s hs => dN ha hd hs
  have Z : ∀ s, s ∈ [8, 9, 10, 21, 22, 27] → ∀ i, tZ a' s i = tZ a s i := fun s hs => dZ ha hd hs
  have C : ∀ s, s ∈ [8, 9, 10, 21, 22, 27] → ∀ i, tC a' s i = tC a s i := fun s hs => dC ha hd hs
  have N25 : tN a' 25 = tN a 25 := (ha 25 hd25).2.2.2.1
  have I' : ∀ s, s ∈ [48, 49, 50, 51, 52, 65, 74, 75] → ∀ i k, tI b' s i k = tI b s i k := fun s hs => dIS hb hd' hs
  have R' : ∀ s, s ∈ [48, 49, 50, 51, 52, 65, 74, 75] → ∀ i k, tR b' s i k = tR b s i k := fun s hs => dR hb hd' hs
  have N' : ∀ s, s ∈ [48, 49, 50, 51, 52, 65, 74, 75] → tN b' s = tN b s := fun s hs => dN hb hd' hs
  have Z' : ∀ s, s ∈ [48, 49, 50, 51, 52, 65, 74, 75] → ∀ i, tZ b' s i = tZ b s i := fun s hs => dZ hb hd' hs
  have sl : ∀ c, 21 + c % 2 ∈ [8, 9, 10, 21, 22, 27] := fun c => by
    have : c % 2 = 0 ∨ c % 2 = 1 := by omega
    rcases this with e | e <;> rw [e] <;> simp
  have sc : ∀ c, 74 + c % 2 ∈ [48, 49, 50, 51, 52, 65, 74, 75] := fun c => by
    have : c % 2 = 0 ∨ c % 2 = 1 := by omega
    rcases this with e | e <;> rw [e] <;> simp
  have z27 : tZ a' 27 0 = tZ a 27 0 := Z 27 (by simp) 0
  have cp : ∀ c, c < 2 * tZ a 27 0 → capc b' c = capc b c := fun c hc => by
    obtain ⟨m, ds, di, ms, mi, cap, ⟨-, -, -, -, -, -, q7, -⟩, r1, -⟩ := c1 c hc
    have sd : ds ∈ [48, 49, 50, 51, 52, 65, 74, 75] := by rcases r1 with e | e <;> rw [e] <;> simp
    unfold capc capo
    rw [R' _ (sc c), q7]
    exact Z' _ sd _
  have cb : ∀ c m ds di ms mi cap, CbQ b (74 + c % 2) (c / 2) c m ds di ms mi cap → CbQ b' (74 + c % 2) (c / 2) c m ds di ms mi cap ∧ vR b' ds di ms mi m = vR b ds di ms mi m := by
    intro c m ds di ms mi cap hQ
    obtain ⟨⟨q1, q2, q3, q4, q5, q6, q7, q8, q9, q10, q11, q12, q13, q14, q15, q16, q17, q18⟩, r1, r2⟩ := hQ
    have sd : ds ∈ [48, 49, 50, 51, 52, 65, 74, 75] := by rcases r1 with e | e <;> rw [e] <;> simp
    have sm : ms ∈ [48, 49, 50, 51, 52, 65, 74, 75] := by rcases r2 with e | e <;> rw [e] <;> simp
    refine ⟨⟨⟨q1, by rw [N' _ (sc c)]; exact q2, by rw [R' _ (sc c)]; exact q3, by rw [N' 48 (by simp)]; exact q4, by rw [Z' 48 (by simp)]; exact q5, by rw [I' _ (sc c)]; exact q6, by rw [R' _ (sc c)]; exact q7, q8, by rw [N' _ sd]; exact q9, by rw [Z' _ sd]; exact q10, by rw [R' _ (sc c)]; exact q11, q12, by rw [N' _ sm]; exact q13, by rw [Z' _ sm]; exact q14, q15, q16, q17, fun k hk => ?_⟩, r1, r2⟩, ?_⟩
    · obtain ⟨q, s1, s2, s3⟩ := q18 k hk
      exact ⟨q, by rw [R' _ sm]; exact s1, s2, Nat.lt_of_lt_of_le s3 (hq q.1 s2).1⟩
    · unfold vR
      refine List.map_congr_left (fun k hk => ?_)
      obtain ⟨q, s1, s2, s3⟩ := q18 k (List.mem_range.mp hk)
      rw [I' _ sd, R' _ sm, s1]
      congr 1
      exact qv_congr (fun f => (hq q.1 s2).2 q.2 s3 f)
  refine ⟨⟨⟨⟨?_, ?_, ?_⟩, by rw [N 9 (by simp), z27]; exact l1, fun c hc => ?_⟩, ⟨fun c hc => ?_, fun c c' hc hc' hne => ?_⟩, fun s hs => ?_, fun c hc => ?_, fun c hc => ?_, ?_, ?_, by rw [z27, N 8 (by simp)]; exact m8, ⟨by rw [z27, N' 48 (by simp)]; exact m48.1, by rw [z27, N' 49 (by simp)]; exact m48.2.1, by rw [z27, N' 50 (by simp)]; exact m48.2.2⟩, by rw [z27, N' 74 (by simp)]; exact m74, by rw [z27, N' 75 (by simp)]; exact m75⟩, fun c hc => ⟨?_, ?_⟩⟩
  · simp only [N 9 (by simp), Z 9 (by simp), R 9 (by simp), N 10 (by simp)]
    exact o1
  · simp only [N 9 (by simp), Z 9 (by simp), R 9 (by simp)]
    exact o2
  · simp only [N 9 (by simp), Z 9 (by simp), C 9 (by simp)]
    exact o3
  · rw [z27] at hc
    obtain ⟨⟨p1, p2, p3, p4, p5, p6, p7, p8, p9⟩, m, h2, h3⟩ := l2 c hc
    exact ⟨⟨p1, by rw [N _ (sl c)]; exact p2, by rw [R _ (sl c)]; exact p3, by rw [N25]; exact p4, by rw [R _ (sl c)]; exact p5, by rw [N 8 (by simp)]; exact p6, by rw [Z 8 (by simp)]; exact p7, by rw [R _ (sl c)]; exact p8, by rw [N 9 (by simp)]; exact p9⟩, m, by rw [I _ (sl c)]; exact h2, by rw [Z 9 (by simp)]; exact h3⟩
  · rw [z27] at hc
    obtain ⟨m, ds, di, ms, mi, cap, hQ⟩ := c1 c hc
    exact ⟨_, _, _, _, _, _, (cb c _ _ _ _ _ _ hQ).1⟩
  · rw [z27] at hc hc'
    rw [R' _ (sc c), R' _ (sc c'), R' _ (sc c), R' _ (sc c')]
    exact c2 c c' hc hc' hne
  · rw [z27] at hs
    rw [R' 65 (by simp), R' 65 (by simp)]
    exact l5 s hs
  · rw [z27] at hc
    funext k
    rw [I 8 (by simp), I' 48 (by simp)]
    exact congrFun (l6 c hc) k
  · rw [z27] at hc
    rw [cp c hc, Z 9 (by simp)]
    exact m1 c hc
  · rw [z27, sumC_eq cp]
    unfold S5 at *
    rw [s5_eq (N' 51 (by simp)) (fun i _ => Z' 51 (by simp) i), s5_eq (N' 52 (by simp)) (fun i _ => Z' 52 (by simp) i)]
    exact m2
  · rw [z27, N 10 (by simp), m3]
    congr 1
    exact List.map_congr_left (fun i _ => (Z 9 (by simp) i).symm)
  · obtain ⟨-, m, h2, h3⟩ := l2 c hc
    unfold vA
    rw [I _ (sl c)]
    unfold vL
    refine List.map_congr_left (fun k hk => ?_)
    have hk := List.mem_range.mp hk
    have h50 : tZ a 9 c < 50000 := by have := o3 c (by omega); omega
    rw [h2, o_ix (by omega)] at hk
    obtain ⟨r, r1, r2⟩ := o1 c (by omega) k (by omega)
    rw [R 9 (by simp), r2]
    exact eC_congr (fun f => I 10 (by simp) r f)
  · obtain ⟨m, ds, di, ms, mi, cap, hQ⟩ := c1 c hc
    obtain ⟨g1, g2⟩ := cb c _ _ _ _ _ _ hQ
    rw [vQ_of g1.1, vQ_of hQ.1, g2]
