/-! ===== a RECORD is forged ===== -/
def frgA (a : TS) (p cd c m st bd n : Int32) : TS := sI (sI (sI (sI (msA 12 a 3 p cd c m st) 12 (tN a 12) 7 bd) 12 (tN a 12) 1 n) 12 (tN a 12) 7 0) 12 (tN a 12) 14 1
def frgB (b : TS) (n cd c m st : Int32) : TS := sI (sI (maB b 2 n cd c m st) 77 (tN b 77) 6 1) 77 (tN b 77) 13 1
theorem frgA_eq (a : TS) (p cd c m st bd n : Int32) : chF [12] [] a (frgA a p cd c m st bd n) ∧ Wr a (frgA a p cd c m st bd n) ∧ (∀ t, tN (frgA a p cd c m st bd n) t = if t = 12 then tN a 12 + 1 else tN a t) ∧ gro a (frgA a p cd c m st bd n) 12 ∧
    (∀ f, f < 15 → tI (frgA a p cd c m st bd n) 12 (tN a 12) f = if f = 14 then 1 else if f = 7 then 0 else if f = 1 then n else if f = 0 then 3 else if f = 2 then cd else if f = 4 then c else if f = 5 then m else if f = 6 then st else if f = 3 then -1 else if f = 12 then -1 else if f = 13 then -1 else 0) := by
  obtain ⟨ta, tw, tn, tg, tm'⟩ := msA_eq (s := 12) (Or.inr rfl) a 3 p cd c m st
  have hn : ∀ t, tN (frgA a p cd c m st bd n) t = if t = 12 then tN a 12 + 1 else tN a t := fun t => by
    unfold frgA
    rw [tN_sI, tN_sI, tN_sI, tN_sI, tn]
  refine ⟨by unfold frgA; exact chF_I (by simp) (chF_I (by simp) (chF_I (by simp) (chF_I (by simp) ta))), by unfold frgA; exact (((tw.cI _ _ _ _).cI _ _ _ _).cI _ _ _ _).cI _ _ _ _, hn, ⟨by rw [hn, if_pos rfl]; omega, fun i hi k => ?_⟩, fun f hf => ?_⟩
  · unfold frgA
    rw [tI_sI, if_neg (fun q => by omega), tI_sI, if_neg (fun q => by omega), tI_sI, if_neg (fun q => by omega), tI_sI, if_neg (fun q => by omega)]
    exact tg.2 i hi k
  · unfold frgA
    rw [tI_sI, tI_sI, tI_sI, tI_sI, tm' f hf]
    simp only [true_and]
    by_cases e14 : f = 14
    · rw [if_pos e14, if_pos e14]
    · rw [if_neg e14, if_neg e14]
      by_cases e7 : f = 7
      · rw [if_pos e7, if_pos e7]
      · rw [if_neg e7, if_neg e7, if_neg e7]
        by_cases e1 : f = 1
        · rw [if_pos e1, if_pos e1]
        · rw [if_neg e1, if_neg e1, if_neg e1]
theorem frgB_eq (b : TS) (n cd c m st : Int32) : chF [77] [] b (frgB b n cd c m st) ∧ Wr b (frgB b n cd c m st) ∧ (∀ t, tN (frgB b n cd c m st) t = if t = 77 then tN b 77 + 1 else tN b t) ∧ groQ b (frgB b n cd c m st) ∧
    (∀ f, f < 14 → tI (frgB b n cd c m st) 77 (tN b 77) f = if f = 13 then 1 else if f = 6 then 1 else if f = 0 then 2 else if f = 1 then n else if f = 2 then cd else if f = 3 then c else if f = 4 then m else if f = 5 then st else 0) := by
  obtain ⟨sa, sw, sn, sg, sm⟩ := maB_eq b 2 n cd c m st
  have hn : ∀ t, tN (frgB b n cd c m st) t = if t = 77 then tN b 77 + 1 else tN b t := fun t => by
    unfold frgB
    rw [tN_sI, tN_sI, sn]
  refine ⟨by unfold frgB; exact chF_I (by simp) (chF_I (by simp) sa), by unfold frgB; exact (sw.cI _ _ _ _).cI _ _ _ _, hn, fun s hs => ⟨by rw [hn]; split; (rename_i e; rw [e]; omega); exact Nat.le_refl _, fun i hi k => ?_⟩, fun f hf => ?_⟩
  · unfold frgB
    rw [tI_sI, if_neg (fun q => by rw [q.1, q.2.1] at hi; omega), tI_sI, if_neg (fun q => by rw [q.1, q.2.1] at hi; omega)]
    exact (sg s hs).2 i hi k
  · unfold frgB
    rw [tI_sI, tI_sI, sm f hf]
    simp only [true_and]
theorem forge_R {a b : TS} (hR : R0 a b) : R0 (sI a 96 0 11 1) (sI b 95 0 6 1) := by
  have ha : chF [] [(96, 11)] a (sI a 96 0 11 1) := chF_I (by simp) (chF_r _ _ _)
  have hb : chF [] [(95, 6)] b (sI b 95 0 6 1) := chF_I (by simp) (chF_r _ _ _)
  have wa : Wr a (sI a 96 0 11 1) := (Wr.rf _).cI _ _ _ _
  have wb : Wr b (sI b 95 0 6 1) := (Wr.rf _).cI _ _ _ _
  obtain ⟨hFC, hFR, hB, hS, hM, hW, hV, hC, hD, hE, hP, hQ, hH, hK, hG, hO, hZ⟩ := hR
  have hH' : RH (sI a 96 0 11 1) (sI b 95 0 6 1) := by
    unfold RH at *
    simp (config := {decide := true}) only [tI_sI, if_true, if_false]
    exact ⟨hH.1, hH.2.1, hH.2.2.1, hH.2.2.2.1, hH.2.2.2.2.1, trivial⟩
  exact ⟨FxC_s hFC wa ha (by decide), FxR_s hFR wb hb (by decide), RB_c hB ha hb (by decide) (by decide), RS_c hS ha hb (by decide) (by decide), RM_c hM ha hb (by decide) (by decide), RW_c hW ha hb (by decide) (by decide), RV_c hV ha hb (by decide) (by decide), RC_c hC ha hb (by decide) (by decide), RD_c hD ha hb (by decide) (by decide), RE_c hE ha hb (by decide) (by decide), RP_c hP ha hb (by decide) (by decide), RQ_c hQ ha hb (by decide) (by decide), hH', RK_c hK ha hb (by decide) (by decide) (gro_c ha (by decide)) (gro_c ha (by decide)) (gro_c ha (by decide)) (gro_c ha (by decide)), RG_c hG ha hb (by decide) (by decide), RO_c hO ha hb (by decide) (by decide), RZ_c hZ ha hb (by decide) (by decide)⟩
def EvF (a b a' b' : TS) : Prop := ∃ sh g, sh < tZ a 27 0 ∧ PtE a b a' b' sh g ∧ (g 0 = 2 ∧ g 13 = 1) ∧ tI b' 95 0 6 = 1 ∧ chF [8, 9, 10, 12, 21, 22] [(96, 11)] a a' ∧ chF [48, 49, 50, 51, 52, 74, 75, 77] [(95, 6)] b b' ∧ Al a b ∧ Al a' b'
set_option maxHeartbeats 4000000 in
theorem core_forge {a b : TS} {C sh p cd n : Nat} {bd : Int32} (h : Core a b C) (hC1 : C + 1 ≤ 512) (hsh : sh < tZ a 27 0) (hp : p < tZ a 29 0) (hn : n < 1000) (hcd : cd < tZ a 28 0) (hcd1 : tI b 87 0 (10 * p + 1) = Int32.ofNat cd) :
    ∃ a' b', (∀ z, Ex 37 [aR (some (21, sh)), aR (some (12, tN a 12))] (enc 1 (frgA a (Int32.ofNat p) (Int32.ofNat cd) (tI b 87 0 (10 * p + 4)) (tI b 87 0 (10 * p + 3)) (tI b 87 0 (10 * p + 5)) bd (Int32.ofNat n)) z) = some (.inl none, enc 1 a' z)) ∧
      (∀ z, Ex 193 [aR (some (95, 0)), aI (Int32.ofNat sh), aR (some (77, tN b 77))] (enc 2 (sI (frgB b (Int32.ofNat n) (tI b 87 0 (10 * p + 1)) (tI b 87 0 (10 * p + 4)) (tI b 87 0 (10 * p + 3)) (tI b 87 0 (10 * p + 5))) 95 0 6 1) z) = some (.inl none, enc 2 b' z)) ∧
      Core (sI a' 96 0 11 1) b' (C + 1) ∧ Wr a (sI a' 96 0 11 1) ∧ (tI a' 12 (tN a 12) 6 = tI b 87 0 (10 * p + 5) ∧ tN a 12 < tN a' 12 ∧ 0 < tN a' 96) ∧ EvF a b (sI a' 96 0 11 1) b' := by
  obtain ⟨hA, ⟨T, hM⟩, ht⟩ := h
  have hR := hA.1
  obtain ⟨P1, P2, P3, P4, P5, P6, P7⟩ := r_P' hR
  obtain ⟨-, -, -, -, -, ⟨-, c, c1, c2⟩, -⟩ := P5 p hp
  obtain ⟨-, -, -, -, -, -, n0, n1, n2, n3, n4, n5⟩ := (r_Q hR).1 p hp
  obtain ⟨ta, tw, tn, tg, tm'⟩ := frgA_eq a (Int32.ofNat p) (Int32.ofNat cd) (tI b 87 0 (10 * p + 4)) (tI b 87 0 (10 * p + 3)) (tI b 87 0 (10 * p + 5)) bd (Int32.ofNat n)
  obtain ⟨sa, sw, sn, sg, sm⟩ := frgB_eq b (Int32.ofNat n) (tI b 87 0 (10 * p + 1)) (tI b 87 0 (10 * p + 4)) (tI b 87 0 (10 * p + 3)) (tI b 87 0 (10 * p + 5))
  have hR1 : R0 (frgA a (Int32.ofNat p) (Int32.ofNat cd) (tI b 87 0 (10 * p + 4)) (tI b 87 0 (10 * p + 3)) (tI b 87 0 (10 * p + 5)) bd (Int32.ofNat n)) (frgB b (Int32.ofNat n) (tI b 87 0 (10 * p + 1)) (tI b 87 0 (10 * p + 4)) (tI b 87 0 (10 * p + 3)) (tI b 87 0 (10 * p + 5))) := by
    have ha := ta
    have hb := sa
    have wa := tw
    have wb := sw
    obtain ⟨hFC, hFR, hB, hS, hM, hW, hV, hC, hD, hE, hP, hQ, hH, hK, hG, hO, hZ⟩ := hR
    exact ⟨FxC_s hFC wa ha (by decide), FxR_s hFR wb hb (by decide), RB_c hB ha hb (by decide) (by decide), RS_c hS ha hb (by decide) (by decide), RM_c hM ha hb (by decide) (by decide), RW_c hW ha hb (by decide) (by decide), RV_c hV ha hb (by decide) (by decide), RC_c hC ha hb (by decide) (by decide), RD_c hD ha hb (by decide) (by decide), RE_c hE ha hb (by decide) (by decide), RP_c hP ha hb (by decide) (by decide), RQ_c hQ ha hb (by decide) (by decide), RH_c hH ha hb (by decide) (by decide), RK_c hK ha hb (by decide) (by decide) (gro_c ha (by decide)) (gro_c ha (by decide)) (gro_c ha (by decide)) (gro_c ha (by decide)), RG_c hG ha hb (by decide) (by decide), RO_c hO ha hb (by decide) (by decide), RZ_c hZ ha hb (by decide) (by decide)⟩
  generalize frgA a (Int32.ofNat p) (Int32.ofNat cd) (tI b 87 0 (10 * p + 4)) (tI b 87 0 (10 * p + 3)) (tI b 87 0 (10 * p + 5)) bd (Int32.ofNat n) = a1 at *
  generalize frgB b (Int32.ofNat n) (tI b 87 0 (10 * p + 1)) (tI b 87 0 (10 * p + 4)) (tI b 87 0 (10 * p + 3)) (tI b 87 0 (10 * p + 5)) = b1 at *
  have hR2 := forge_R hR1
  have ca : chF [12] [(96, 11)] a (sI a1 96 0 11 1) := chF_I (by simp) (chF_m ta (by simp) (by simp))
  have cb : chF [77] [(95, 6)] b (sI b1 95 0 6 1) := chF_I (by simp) (chF_m sa (by simp) (by simp))
  have wa2 : Wr a (sI a1 96 0 11 1) := tw.cI _ _ _ _
  have wb2 : Wr b (sI b1 95 0 6 1) := sw.cI _ _ _ _
  have n2A : ∀ s, tN (sI a1 96 0 11 1) s = if s = 12 then tN a 12 + 1 else tN a s := fun s => by rw [tN_sI]; exact tn s
  have n2B : ∀ s, tN (sI b1 95 0 6 1) s = if s = 77 then tN b 77 + 1 else tN b s := fun s => by rw [tN_sI]; exact sn s
  have fA : ∀ f, f < 15 → tI (sI a1 96 0 11 1) 12 (tN a 12) f = tI a1 12 (tN a 12) f := fun f _ => by rw [tI_sI, if_neg (fun q => absurd q.1 (by decide))]
  have fB : ∀ f, f < 14 → tI (sI b1 95 0 6 1) 77 (tN b 77) f = tI b1 77 (tN b 77) f := fun f _ => by rw [tI_sI, if_neg (fun q => absurd q.1 (by decide))]
  have g12 : gro a (sI a1 96 0 11 1) 12 := ⟨by rw [n2A, if_pos rfl]; omega, fun i hi k => by rw [tI_sI, if_neg (fun q => absurd q.1 (by decide))]; exact tg.2 i hi k⟩
  have v6 : tI (sI b1 95 0 6 1) 95 0 6 = 1 := by rw [tI_sI, if_pos ⟨rfl, rfl, rfl⟩]
  have gq2 : groQ b (sI b1 95 0 6 1) := groQ_t sg (groQ_c (D := []) (F := [(95, 6)]) (chF_I (by simp) (chF_r _ _ _)) (by decide +kernel))
  have ea2 : sI a1 96 0 11 1 = sI a1 96 0 11 1 := rfl
  generalize ha2 : sI a1 96 0 11 1 = a2 at *
  generalize sI b1 95 0 6 1 = b2 at *
  have hKc : Kc a2 = Kc a + 1 := by
    unfold Kc
    rw [n2A, n2A, n2A, n2A, if_neg (by decide), if_pos rfl, if_neg (by decide), if_neg (by decide)]
    omega
  have hKb : Kb b2 = Kb b + 1 := by
    unfold Kb
    rw [n2B, n2B, n2B, if_neg (by decide), if_pos rfl, if_neg (by decide)]
    omega
  have i87 : ∀ k, tI b2 87 0 k = tI b 87 0 k := dIS cb (S := [87]) (P := []) (s := 87) (by decide) (by simp) 0
  have hGK : GK a2 b2 = GK a b := by
    unfold GK
    rw [dZ ca (S := [29]) (P := []) (s := 29) (by decide) (by simp) 0, unsN_eq (fun p => dIS cb (S := [70]) (P := []) (s := 70) (by decide) (by simp) 0 p), bkN_eq (fun p => dIS cb (S := [69]) (P := []) (s := 69) (by decide) (by simp) 0 p)]
    unfold askN
    simp only [i87]
  obtain ⟨hA2, hO2, hP2, hst2, z27, z29, z19, r19⟩ := pre_keep (C2 := C + 1) (e := 1) hA hM hR2 ca cb (by decide) (by decide) (by decide) (by decide) gq2 g12 (gro_c ca (by decide)) (gro_c ca (by decide)) (fun q _ hq => by rw [dIS cb (S := [70]) (P := []) (s := 70) (by decide) (by simp)]; exact hq) (fun s m' hs e1 e2 => ⟨m', by rw [dIS cb (S := [69]) (P := []) (s := 69) (by decide) (by simp)]; exact e1, Nat.le_refl _, e2⟩) ⟨hKc, hKb⟩ ⟨Nat.le_succ C, hC1⟩ (by omega) (by omega)
  have gm : ∀ f, ((f < 12 ∧ f ≠ 3) ∨ f = 14) → mv a2 12 (tN a 12) f = tI a2 12 (tN a 12) f := fun f hf => mv_at hf
  have qm : ∀ f, f < 14 → qv b2 (some (77, tN b 77)) f = tI b2 77 (tN b 77) f := fun f hf => qv_at hf
  have g0 : mv a2 12 (tN a 12) 0 = 3 := by rw [gm 0 (by omega), fA 0 (by omega), tm' 0 (by omega)]; rfl
  have g1 : mv a2 12 (tN a 12) 1 = Int32.ofNat n := by rw [gm 1 (by omega), fA 1 (by omega), tm' 1 (by omega)]; rfl
  have g2 : mv a2 12 (tN a 12) 2 = Int32.ofNat cd := by rw [gm 2 (by omega), fA 2 (by omega), tm' 2 (by omega)]; rfl
  have g4 : mv a2 12 (tN a 12) 4 = tI b 87 0 (10 * p + 4) := by rw [gm 4 (by omega), fA 4 (by omega), tm' 4 (by omega)]; rfl
  have g5 : mv a2 12 (tN a 12) 5 = tI b 87 0 (10 * p + 3) := by rw [gm 5 (by omega), fA 5 (by omega), tm' 5 (by omega)]; rfl
  have g6 : mv a2 12 (tN a 12) 6 = tI b 87 0 (10 * p + 5) := by rw [gm 6 (by omega), fA 6 (by omega), tm' 6 (by omega)]; rfl
  have g7 : mv a2 12 (tN a 12) 7 = 0 := by rw [gm 7 (by omega), fA 7 (by omega), tm' 7 (by omega)]; rfl
  have g11 : mv a2 12 (tN a 12) 11 = 0 := by rw [gm 11 (by omega), fA 11 (by omega), tm' 11 (by omega)]; rfl
  have g14 : mv a2 12 (tN a 12) 14 = 1 := by rw [gm 14 (by omega), fA 14 (by omega), tm' 14 (by omega)]; rfl
  have q0 : qv b2 (some (77, tN b 77)) 0 = 2 := by rw [qm 0 (by omega), fB 0 (by omega), sm 0 (by omega)]; rfl
  have q1 : qv b2 (some (77, tN b 77)) 1 = Int32.ofNat n := by rw [qm 1 (by omega), fB 1 (by omega), sm 1 (by omega)]; rfl
  have q2 : qv b2 (some (77, tN b 77)) 2 = tI b 87 0 (10 * p + 1) := by rw [qm 2 (by omega), fB 2 (by omega), sm 2 (by omega)]; rfl
  have q3 : qv b2 (some (77, tN b 77)) 3 = tI b 87 0 (10 * p + 4) := by rw [qm 3 (by omega), fB 3 (by omega), sm 3 (by omega)]; rfl
  have q4 : qv b2 (some (77, tN b 77)) 4 = tI b 87 0 (10 * p + 3) := by rw [qm 4 (by omega), fB 4 (by omega), sm 4 (by omega)]; rfl
  have q5 : qv b2 (some (77, tN b 77)) 5 = tI b 87 0 (10 * p + 5) := by rw [qm 5 (by omega), fB 5 (by omega), sm 5 (by omega)]; rfl
  have q6 : qv b2 (some (77, tN b 77)) 6 = 1 := by rw [qm 6 (by omega), fB 6 (by omega), sm 6 (by omega)]; rfl
  have q7 : qv b2 (some (77, tN b 77)) 7 = 0 := by rw [qm 7 (by omega), fB 7 (by omega), sm 7 (by omega)]; rfl
  have q13 : qv b2 (some (77, tN b 77)) 13 = 1 := by rw [qm 13 (by omega), fB 13 (by omega), sm 13 (by omega)]; rfl
  have eP : ∀ t, pst b2 p t = pst b p t := fun t => by
    unfold pst
    rw [i87, i87, i87, i87]
  have stp5 : (tI b 87 0 (10 * p + 5) = pst b p 1 ∧ tI b 87 0 (10 * p) = 0) ∨ tI b 87 0 (10 * p + 5) = pst b p 2 := by
    by_cases e : n0 = 0
    · subst e
      exact Or.inl ⟨n5, n2⟩
    · rw [if_neg e] at n5
      exact Or.inr n5
  have n10 : ¬ (1 : Int32) = 0 := by decide
  have z28 : tZ a2 28 0 = tZ a 28 0 := dZ ca (S := [28]) (P := []) (s := 28) (by decide) (by simp) 0
  have hup : upM a2 b2 sh (mv a2 12 (tN a 12)) (qv b2 (some (77, tN b 77))) := ⟨by rw [g14]; rfl, by rw [q13, g14], by rw [q7, g11], by rw [q1, g1], Or.inr (Or.inr (Or.inl ⟨g0, q0, g11, n, p, cd, c, hn, by rw [z29]; exact hp, by rw [z28]; exact hcd, c1, ⟨by rw [i87]; exact hcd1, by rw [i87]; exact c2⟩, ⟨g1, g2, by rw [g4]; exact c2, by rw [g5, i87]⟩, ⟨by rw [q2, g2]; exact hcd1, by rw [q3, g4], by rw [q4, g5], by rw [q5, g6], by rw [q6, g7]; rfl⟩, by rw [g6, eP, eP, i87]; exact stp5, Or.inl g7, fun z => by rw [g14] at z; exact absurd z n10, fun _ => g7, fun z => by rw [g14] at z; exact absurd z n10⟩))⟩
  have hsh2 : sh < tZ a2 27 0 := by rw [z27]; exact hsh
  obtain ⟨lim1, lim2⟩ := RmO_lim hO2 hsh2
  obtain ⟨a3, a', b3, ea', x, y, hA3, hF3⟩ := up_alF (a0 := a1) (v := 1) ha2.symm (sh := sh) (s := 12) (i := tN a 12) (q := (77, tN b 77)) hA2 hsh2 lim1 lim2 ⟨by decide +kernel, by decide +kernel⟩ (by rw [n2A, if_pos rfl]; omega) (show isQ 77 from ⟨by decide +kernel, by decide +kernel⟩) (by show tN b 77 < tN b2 77; rw [n2B, if_pos rfl]; omega) hup
  have hM3 := RmO_put hA2.1 hO2 (Or.inr (by rw [q0]; decide)) hsh2 hF3
  obtain ⟨-, hv⟩ := Ln0_o hA.2.2.1.1 ca cb (by decide) (by decide) (by decide) gq2
  have hpt : PtE a b a' b3 sh (qv b2 (some (77, tN b 77))) := PtE_of (kL_c ca cb (by decide) (by decide)) (fun c hc => (hv c hc).2) (fun c => funext fun k => dIS cb (S := [48]) (P := []) (s := 48) (by decide) (by simp) c k) (dI cb (S := []) (P := [(95, 1)]) (s := 95) (k := 1) (by decide) (by simp) 0) (dI cb (S := []) (P := [(95, 2)]) (s := 95) (k := 2) (by decide) (by simp) 0) z27 hsh hF3 gq2
  obtain ⟨f1, f2, f3, f4, f5, f6, f7, f8, -⟩ := hF3
  have e96 : ∀ f, tI (sI a3 96 0 11 1) 12 (tN a 12) f = tI a3 12 (tN a 12) f := fun f => by rw [tI_sI, if_neg (fun q => absurd q.1 (by decide))]
  have l96 : 0 < tN a' 96 := by
    have := fcN_96 (r_FC hA3.1)
    exact this
  subst ea'
  refine ⟨a3, b3, x, y, ⟨hA3, ⟨T, hM3⟩, Tx_s ht (sam0_t (sam0_c ca (by decide)) (sam0_c f2 (by decide))) (sam0_t (sam0_c cb (by decide)) (sam0_c f3 (by decide)))⟩, wa2.t f5, ⟨?_, ?_, ?_⟩, ?_⟩
  · rw [← e96, dIS f2 (S := [12]) (P := []) (s := 12) (by decide) (by simp), ← g6, gm 6 (by omega)]
  · have := f7 12 (by decide)
    rw [tN_sI, n2A, if_pos rfl] at this
    omega
  · rw [tN_sI] at l96
    exact l96
  · exact ⟨sh, _, hsh, hpt, ⟨q0, q13⟩, by rw [dIS f3 (S := [95]) (P := []) (s := 95) (by decide) (by simp)]; exact v6, chF_t (chF_m ca (by decide) (by simp)) (chF_m f2 (by decide) (by simp)), chF_t (chF_m cb (by decide) (by simp)) (chF_m f3 (by decide) (by simp)), hA, hA3⟩
