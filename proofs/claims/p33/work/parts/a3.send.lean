/-! ===== a RECORD is sent alike ===== -/
theorem unsN_dec {b b' : TS} {p : Nat} (h : tI b 70 0 p = 0) (h' : tI b' 70 0 p ≠ 0) (ho : ∀ p', p' ≠ p → tI b' 70 0 p' = tI b 70 0 p') : ∀ n, p < n → unsN b' n + 1 = unsN b n := by
  have same : ∀ n, n ≤ p → unsN b' n = unsN b n := fun n hn => by
    unfold unsN
    refine List.countP_congr (fun q hq => ?_)
    have := List.mem_range.mp hq
    rw [ho q (by omega)]
  intro n
  induction n with
  | zero => exact fun h => absurd h (Nat.not_lt_zero _)
  | succ n ih =>
    intro hp
    have st : ∀ B, unsN B (n + 1) = unsN B n + (if tI B 70 0 n = 0 then 1 else 0) := fun B => by
      unfold unsN
      rw [List.range_succ, List.countP_append]
      congr 1
      by_cases e : tI B 70 0 n = 0 <;> simp [e]
    rw [st, st]
    by_cases e : p = n
    · subst e
      rw [if_pos h, if_neg h', same p (Nat.le_refl _)]
    · rw [ho n (fun q => e q.symm)]
      have := ih (by omega)
      omega
/-- it is sent -/
theorem sent_R {a b : TS} {p : Nat} (hR : R0 a b) (hp : p < tZ a 29 0) : R0 (sI a 38 p 10 1) (sI b 70 0 p 1) := by
  have ha : chF [] [(38, 10)] a (sI a 38 p 10 1) := chF_I (by simp) (chF_r _ _ _)
  have hb : chF [70] [] b (sI b 70 0 p 1) := chF_I (by simp) (chF_r _ _ _)
  have wa : Wr a (sI a 38 p 10 1) := (Wr.rf _).cI _ _ _ _
  have wb : Wr b (sI b 70 0 p 1) := (Wr.rf _).cI _ _ _ _
  obtain ⟨hFC, hFR, hB, hS, hM, hW, hV, hC, hD, hE, hP, hQ, hH, hK, hG, hO, hZ⟩ := hR
  have hQ' : RQ (sI a 38 p 10 1) (sI b 70 0 p 1) := by
    obtain ⟨q1, q2⟩ := hQ
    have i87 : ∀ k, tI (sI b 70 0 p 1) 87 0 k = tI b 87 0 k := fun k => by rw [tI_sI, if_neg (fun q => absurd q.1 (by decide))]
    have eP : ∀ r t, pst (sI b 70 0 p 1) r t = pst b r t := fun r t => by
      unfold pst
      rw [i87, i87, i87, i87]
    refine ⟨fun r hr => ?_, fun r hr => ?_⟩
    · obtain ⟨e1, e2, e3, e4, e5, e6, n, n1, n2, n3, n4, n5⟩ := q1 r hr
      have iA : ∀ f, f ≠ 10 → tI (sI a 38 p 10 1) 38 r f = tI a 38 r f := fun f hf => by rw [tI_sI, if_neg (fun q => hf q.2.2)]
      rw [iA 5 (by decide), iA 7 (by decide), iA 8 (by decide), iA 9 (by decide), i87, i87, i87, i87]
      refine ⟨e1, e2, e3, e4, ?_, ?_, n, n1, n2, n3, n4, by rw [eP]; exact n5⟩
      · rw [tI_sI, tI_sI]
        by_cases e : r = p
        · rw [if_pos ⟨rfl, e, rfl⟩, if_pos ⟨rfl, rfl, e⟩]
        · rw [if_neg (fun q => e q.2.1), if_neg (fun q => e q.2.2)]
          exact e5
      · rw [tI_sI]
        by_cases e : r = p
        · rw [if_pos ⟨rfl, rfl, e⟩]
          rfl
        · rw [if_neg (fun q => e q.2.2)]
          exact e6
    · have hr : tZ a 29 0 ≤ r := hr
      rw [tI_sI, if_neg (fun q => by omega)]
      exact q2 r hr
  exact ⟨FxC_s hFC wa ha (by decide), FxR_s hFR wb hb (by decide), RB_c hB ha hb (by decide) (by decide), RS_c hS ha hb (by decide) (by decide), RM_c hM ha hb (by decide) (by decide), RW_c hW ha hb (by decide) (by decide), RV_c hV ha hb (by decide) (by decide), RC_c hC ha hb (by decide) (by decide), RD_c hD ha hb (by decide) (by decide), RE_c hE ha hb (by decide) (by decide), RP_c hP ha hb (by decide) (by decide), hQ', RH_c hH ha hb (by decide) (by decide), RK_c hK ha hb (by decide) (by decide) (gro_c ha (by decide)) (gro_c ha (by decide)) (gro_c ha (by decide)) (gro_c ha (by decide)), RG_c hG ha hb (by decide) (by decide), RO_c hO ha hb (by decide) (by decide), RZ_c hZ ha hb (by decide) (by decide)⟩
/-- a RECORD is sent -/
def EvSp (a b a' b' : TS) (sh p : Nat) : Prop := ∃ o q g, sh < tZ a 27 0 ∧ p < tZ a 29 0 ∧ tI b 87 0 (10 * p + 2) = Int32.ofNat sh ∧ (tI b 87 0 (10 * p) = 0 ∨ tI b 87 0 (10 * p) = 2) ∧ tI b 70 0 p = 0 ∧ (∀ r, tI b' 70 0 r = if r = p then 1 else tI b 70 0 r) ∧ KpE a b a' b' sh o q g ∧ (g 0 = 2 ∧ g 1 = Int32.ofNat p ∧ g 6 = 1 + tI b 87 0 (10 * p + 8) ∧ g 7 = 0 ∧ g 13 = 0) ∧
  chF [8, 9, 10, 12, 19, 21, 22] ((38, 10) :: FkA) a a' ∧ chF [48, 49, 50, 51, 52, 66, 67, 68, 70, 74, 75, 77] [] b b' ∧ Al a b ∧ Al a' b'
def EvS (a b a' b' : TS) : Prop := ∃ sh p, EvSp a b a' b' sh p
set_option maxHeartbeats 4000000 in
theorem core_send {a b : TS} {C sh p cd : Nat} (h : Core a b C) (hsh : sh < tZ a 27 0) (hp : p < tZ a 29 0) (hps : tI b 87 0 (10 * p + 2) = Int32.ofNat sh) (hst : tI b 87 0 (10 * p) = 0 ∨ tI b 87 0 (10 * p) = 2) (h70 : tI b 70 0 p = 0) (hcd : cd < tZ a 28 0) (hcd1 : tI b 87 0 (10 * p + 1) = Int32.ofNat cd) :
    ∃ a' b', (∀ z, Ex 70 [aR (some (36, sh)), aR (some (12, tN a 12))] (enc 1 (sI (msA 12 (sI a 38 p 10 1) 3 (Int32.ofNat p) (Int32.ofNat cd) (tI b 87 0 (10 * p + 4)) (tI b 87 0 (10 * p + 3)) (tI b 87 0 (10 * p + 5))) 12 (tN a 12) 7 (tI b 87 0 (10 * p + 8))) z) = some (.inl none, enc 1 a' z)) ∧
      (∀ z, Ex 195 [aR (some (95, 0)), aI (Int32.ofNat sh), aR (some (77, tN b 77))] (enc 2 (sI (maB (sI b 70 0 p 1) 2 (Int32.ofNat p) (tI b 87 0 (10 * p + 1)) (tI b 87 0 (10 * p + 4)) (tI b 87 0 (10 * p + 3)) (tI b 87 0 (10 * p + 5))) 77 (tN b 77) 6 (1 + tI b 87 0 (10 * p + 8))) z) = some (.inl none, enc 2 b' z)) ∧
      Core a' b' C ∧ Wr a a' ∧ tZ a' 29 0 = tZ a 29 0 ∧ tZ a' 27 0 = tZ a 27 0 ∧ EvSp a b a' b' sh p := by
  obtain ⟨hA, ⟨T, hM⟩, ht⟩ := h
  have hR := hA.1
  have hK := hA.2.2.2.2
  obtain ⟨S1, S2, ⟨S3, S4, S5', S6, S7, S8⟩, S9, S10⟩ := r_S hR
  obtain ⟨P1, P2, P3, P4, P5, P6, P7⟩ := r_P' hR
  obtain ⟨-, -, -, -, -, ⟨-, c, c1, c2⟩, -⟩ := P5 p hp
  obtain ⟨-, -, -, -, -, -, n0, n1, n2, n3, n4, n5⟩ := (r_Q hR).1 p hp
  have hR1 := sent_R hR hp
  obtain ⟨ta, tw, tn, tg, tm'⟩ := msA_eq (s := 12) (Or.inr rfl) (sI a 38 p 10 1) 3 (Int32.ofNat p) (Int32.ofNat cd) (tI b 87 0 (10 * p + 4)) (tI b 87 0 (10 * p + 3)) (tI b 87 0 (10 * p + 5))
  obtain ⟨sa, sw, sn, sg, sm⟩ := maB_eq (sI b 70 0 p 1) 2 (Int32.ofNat p) (tI b 87 0 (10 * p + 1)) (tI b 87 0 (10 * p + 4)) (tI b 87 0 (10 * p + 3)) (tI b 87 0 (10 * p + 5))
  rw [tN_sI] at tn tm' sn sm
  have hR2 : R0 (sI (msA 12 (sI a 38 p 10 1) 3 (Int32.ofNat p) (Int32.ofNat cd) (tI b 87 0 (10 * p + 4)) (tI b 87 0 (10 * p + 3)) (tI b 87 0 (10 * p + 5))) 12 (tN a 12) 7 (tI b 87 0 (10 * p + 8))) (sI (maB (sI b 70 0 p 1) 2 (Int32.ofNat p) (tI b 87 0 (10 * p + 1)) (tI b 87 0 (10 * p + 4)) (tI b 87 0 (10 * p + 3)) (tI b 87 0 (10 * p + 5))) 77 (tN b 77) 6 (1 + tI b 87 0 (10 * p + 8))) := by
    have ha : chF [12] [] (sI a 38 p 10 1) (sI (msA 12 (sI a 38 p 10 1) 3 (Int32.ofNat p) (Int32.ofNat cd) (tI b 87 0 (10 * p + 4)) (tI b 87 0 (10 * p + 3)) (tI b 87 0 (10 * p + 5))) 12 (tN a 12) 7 (tI b 87 0 (10 * p + 8))) := chF_I (by simp) ta
    have hb : chF [77] [] (sI b 70 0 p 1) (sI (maB (sI b 70 0 p 1) 2 (Int32.ofNat p) (tI b 87 0 (10 * p + 1)) (tI b 87 0 (10 * p + 4)) (tI b 87 0 (10 * p + 3)) (tI b 87 0 (10 * p + 5))) 77 (tN b 77) 6 (1 + tI b 87 0 (10 * p + 8))) := chF_I (by simp) sa
    have wa := tw.cI 12 (tN a 12) 7 (tI b 87 0 (10 * p + 8))
    have wb := sw.cI 77 (tN b 77) 6 (1 + tI b 87 0 (10 * p + 8))
    have hR1' := hR1
    obtain ⟨hFC, hFR, hB, hS, hM, hW, hV, hC, hD, hE, hP, hQ, hH, hK, hG, hO, hZ⟩ := hR1
    exact ⟨FxC_s hFC wa ha (by decide), FxR_s hFR wb hb (by decide), RB_c hB ha hb (by decide) (by decide), RS_c hS ha hb (by decide) (by decide), RM_c hM ha hb (by decide) (by decide), RW_c hW ha hb (by decide) (by decide), RV_c hV ha hb (by decide) (by decide), RC_c hC ha hb (by decide) (by decide), RD_c hD ha hb (by decide) (by decide), RE_c hE ha hb (by decide) (by decide), RP_c hP ha hb (by decide) (by decide), RQ_c hQ ha hb (by decide) (by decide), RH_c hH ha hb (by decide) (by decide), RK_c hK ha hb (by decide) (by decide) (gro_c ha (by decide)) (gro_c ha (by decide)) (gro_c ha (by decide)) (gro_c ha (by decide)), RG_c hG ha hb (by decide) (by decide), RO_c hO ha hb (by decide) (by decide), RZ_c hZ ha hb (by decide) (by decide)⟩
  have ca : chF [12] [(38, 10)] a (sI (msA 12 (sI a 38 p 10 1) 3 (Int32.ofNat p) (Int32.ofNat cd) (tI b 87 0 (10 * p + 4)) (tI b 87 0 (10 * p + 3)) (tI b 87 0 (10 * p + 5))) 12 (tN a 12) 7 (tI b 87 0 (10 * p + 8))) := chF_I (by simp) (chF_t (chF_I (by simp) (chF_r _ _ _)) (chF_m ta (by simp) (by simp)))
  have cb : chF [70, 77] [] b (sI (maB (sI b 70 0 p 1) 2 (Int32.ofNat p) (tI b 87 0 (10 * p + 1)) (tI b 87 0 (10 * p + 4)) (tI b 87 0 (10 * p + 3)) (tI b 87 0 (10 * p + 5))) 77 (tN b 77) 6 (1 + tI b 87 0 (10 * p + 8))) := chF_I (by simp) (chF_t (chF_I (by simp) (chF_r _ _ _)) (chF_m sa (by simp) (by simp)))
  have wa2 : Wr a (sI (msA 12 (sI a 38 p 10 1) 3 (Int32.ofNat p) (Int32.ofNat cd) (tI b 87 0 (10 * p + 4)) (tI b 87 0 (10 * p + 3)) (tI b 87 0 (10 * p + 5))) 12 (tN a 12) 7 (tI b 87 0 (10 * p + 8))) := (((Wr.rf _).cI _ _ _ _).t tw).cI _ _ _ _
  have wb2 : Wr b (sI (maB (sI b 70 0 p 1) 2 (Int32.ofNat p) (tI b 87 0 (10 * p + 1)) (tI b 87 0 (10 * p + 4)) (tI b 87 0 (10 * p + 3)) (tI b 87 0 (10 * p + 5))) 77 (tN b 77) 6 (1 + tI b 87 0 (10 * p + 8))) := (((Wr.rf _).cI _ _ _ _).t sw).cI _ _ _ _
  have n2A : ∀ s, tN (sI (msA 12 (sI a 38 p 10 1) 3 (Int32.ofNat p) (Int32.ofNat cd) (tI b 87 0 (10 * p + 4)) (tI b 87 0 (10 * p + 3)) (tI b 87 0 (10 * p + 5))) 12 (tN a 12) 7 (tI b 87 0 (10 * p + 8))) s = if s = 12 then tN a 12 + 1 else tN a s := fun s => by rw [tN_sI, tn, tN_sI]
  have n2B : ∀ s, tN (sI (maB (sI b 70 0 p 1) 2 (Int32.ofNat p) (tI b 87 0 (10 * p + 1)) (tI b 87 0 (10 * p + 4)) (tI b 87 0 (10 * p + 3)) (tI b 87 0 (10 * p + 5))) 77 (tN b 77) 6 (1 + tI b 87 0 (10 * p + 8))) s = if s = 77 then tN b 77 + 1 else tN b s := fun s => by rw [tN_sI, sn, tN_sI]
  have fA : ∀ f, f < 15 → tI (sI (msA 12 (sI a 38 p 10 1) 3 (Int32.ofNat p) (Int32.ofNat cd) (tI b 87 0 (10 * p + 4)) (tI b 87 0 (10 * p + 3)) (tI b 87 0 (10 * p + 5))) 12 (tN a 12) 7 (tI b 87 0 (10 * p + 8))) 12 (tN a 12) f = if f = 7 then tI b 87 0 (10 * p + 8) else if f = 0 then 3 else if f = 1 then Int32.ofNat p else if f = 2 then Int32.ofNat cd else if f = 4 then tI b 87 0 (10 * p + 4) else if f = 5 then tI b 87 0 (10 * p + 3) else if f = 6 then tI b 87 0 (10 * p + 5) else if f = 3 then -1 else if f = 12 then -1 else if f = 13 then -1 else 0 := fun f hf => by
    rw [tI_sI]
    by_cases e : f = 7
    · rw [if_pos ⟨rfl, rfl, e⟩, if_pos e]
    · rw [if_neg (fun q => e q.2.2), if_neg e]
      exact tm' f hf
  have fB : ∀ f, f < 14 → tI (sI (maB (sI b 70 0 p 1) 2 (Int32.ofNat p) (tI b 87 0 (10 * p + 1)) (tI b 87 0 (10 * p + 4)) (tI b 87 0 (10 * p + 3)) (tI b 87 0 (10 * p + 5))) 77 (tN b 77) 6 (1 + tI b 87 0 (10 * p + 8))) 77 (tN b 77) f = if f = 6 then 1 + tI b 87 0 (10 * p + 8) else if f = 0 then 2 else if f = 1 then Int32.ofNat p else if f = 2 then tI b 87 0 (10 * p + 1) else if f = 3 then tI b 87 0 (10 * p + 4) else if f = 4 then tI b 87 0 (10 * p + 3) else if f = 5 then tI b 87 0 (10 * p + 5) else 0 := fun f hf => by
    rw [tI_sI]
    by_cases e : f = 6
    · rw [if_pos ⟨rfl, rfl, e⟩, if_pos e]
    · rw [if_neg (fun q => e q.2.2), if_neg e]
      exact sm f hf
  have g12 : gro a (sI (msA 12 (sI a 38 p 10 1) 3 (Int32.ofNat p) (Int32.ofNat cd) (tI b 87 0 (10 * p + 4)) (tI b 87 0 (10 * p + 3)) (tI b 87 0 (10 * p + 5))) 12 (tN a 12) 7 (tI b 87 0 (10 * p + 8))) 12 := ⟨by rw [n2A, if_pos rfl]; omega, fun i hi k => by rw [tI_sI, if_neg (fun q => by omega), tg.2 i (by rw [tN_sI]; exact hi), tI_sI, if_neg (fun q => absurd q.1 (by decide))]⟩
  have gq2 : groQ b (sI (maB (sI b 70 0 p 1) 2 (Int32.ofNat p) (tI b 87 0 (10 * p + 1)) (tI b 87 0 (10 * p + 4)) (tI b 87 0 (10 * p + 3)) (tI b 87 0 (10 * p + 5))) 77 (tN b 77) 6 (1 + tI b 87 0 (10 * p + 8))) := fun s hs => by
    refine ⟨by rw [n2B]; split; (rename_i e; rw [e]; omega); exact Nat.le_refl _, fun i hi k => ?_⟩
    rw [tI_sI, if_neg (fun q => by rw [q.1, q.2.1] at hi; omega), (sg s hs).2 i (by rw [tN_sI]; exact hi) k, tI_sI, if_neg (fun q => by rw [q.1] at hs; exact absurd hs.2 (by decide +kernel))]
  have v70 : ∀ q, tI (sI (maB (sI b 70 0 p 1) 2 (Int32.ofNat p) (tI b 87 0 (10 * p + 1)) (tI b 87 0 (10 * p + 4)) (tI b 87 0 (10 * p + 3)) (tI b 87 0 (10 * p + 5))) 77 (tN b 77) 6 (1 + tI b 87 0 (10 * p + 8))) 70 0 q = if q = p then 1 else tI b 70 0 q := fun q => by
    rw [tI_sI, if_neg (fun q => absurd q.1 (by decide)), dIS sa (S := [70]) (P := []) (s := 70) (by decide) (by simp), tI_sI]
    by_cases e : q = p
    · rw [if_pos e, if_pos ⟨rfl, rfl, e⟩]
    · rw [if_neg e, if_neg (fun z => e z.2.2)]
  generalize sI (msA 12 (sI a 38 p 10 1) 3 (Int32.ofNat p) (Int32.ofNat cd) (tI b 87 0 (10 * p + 4)) (tI b 87 0 (10 * p + 3)) (tI b 87 0 (10 * p + 5))) 12 (tN a 12) 7 (tI b 87 0 (10 * p + 8)) = a2 at *
  generalize sI (maB (sI b 70 0 p 1) 2 (Int32.ofNat p) (tI b 87 0 (10 * p + 1)) (tI b 87 0 (10 * p + 4)) (tI b 87 0 (10 * p + 3)) (tI b 87 0 (10 * p + 5))) 77 (tN b 77) 6 (1 + tI b 87 0 (10 * p + 8)) = b2 at *
  have hKc : Kc a2 = Kc a + 1 := by
    unfold Kc
    rw [n2A, n2A, n2A, n2A, if_neg (by decide), if_pos rfl, if_neg (by decide), if_neg (by decide)]
    omega
  have hKb : Kb b2 = Kb b + 1 := by
    unfold Kb
    rw [n2B, n2B, n2B, if_neg (by decide), if_pos rfl, if_neg (by decide)]
    omega
  have i87 : ∀ k, tI b2 87 0 k = tI b 87 0 k := dIS cb (S := [87]) (P := []) (s := 87) (by decide) (by simp) 0
  have hGK : GK a2 b2 + 1 ≤ GK a b := by
    have := unsN_dec (b := b) (b' := b2) (p := p) h70 (by rw [v70, if_pos rfl]; decide) (fun q hq => by rw [v70, if_neg hq]) (tZ a 29 0) hp
    unfold GK
    rw [dZ ca (S := [29]) (P := []) (s := 29) (by decide) (by simp) 0, bkN_eq (fun p => dIS cb (S := [69]) (P := []) (s := 69) (by decide) (by simp) 0 p)]
    have e : askN b2 (tZ a 29 0) = askN b (tZ a 29 0) := by
      unfold askN
      simp only [i87]
    omega
  have hC := hM.2.1
  obtain ⟨hA2, hO2, hP2, hst2, z27, z29, z19, r19⟩ := pre_keep (C2 := C) (e := 301) hA hM hR2 ca cb (by decide) (by decide) (by decide) (by decide) gq2 g12 (gro_c ca (by decide)) (gro_c ca (by decide)) (fun q _ hq => by
    rw [v70]
    by_cases e : q = p
    · rw [if_pos e]; decide
    · rw [if_neg e]; exact hq) (fun s m' hs e1 e2 => ⟨m', by rw [dIS cb (S := [69]) (P := []) (s := 69) (by decide) (by simp)]; exact e1, Nat.le_refl _, e2⟩) ⟨hKc, hKb⟩ ⟨Nat.le_refl _, hC⟩ (by omega) (by omega)
  have gm : ∀ f, ((f < 12 ∧ f ≠ 3) ∨ f = 14) → mv a2 12 (tN a 12) f = tI a2 12 (tN a 12) f := fun f hf => mv_at hf
  have qm : ∀ f, f < 14 → qv b2 (some (77, tN b 77)) f = tI b2 77 (tN b 77) f := fun f hf => qv_at hf
  have g0 : mv a2 12 (tN a 12) 0 = 3 := by rw [gm 0 (by omega), fA 0 (by omega)]; rfl
  have g1 : mv a2 12 (tN a 12) 1 = Int32.ofNat p := by rw [gm 1 (by omega), fA 1 (by omega)]; rfl
  have g2 : mv a2 12 (tN a 12) 2 = Int32.ofNat cd := by rw [gm 2 (by omega), fA 2 (by omega)]; rfl
  have g4 : mv a2 12 (tN a 12) 4 = tI b 87 0 (10 * p + 4) := by rw [gm 4 (by omega), fA 4 (by omega)]; rfl
  have g5 : mv a2 12 (tN a 12) 5 = tI b 87 0 (10 * p + 3) := by rw [gm 5 (by omega), fA 5 (by omega)]; rfl
  have g6 : mv a2 12 (tN a 12) 6 = tI b 87 0 (10 * p + 5) := by rw [gm 6 (by omega), fA 6 (by omega)]; rfl
  have g7 : mv a2 12 (tN a 12) 7 = tI b 87 0 (10 * p + 8) := by rw [gm 7 (by omega), fA 7 (by omega)]; rfl
  have g11 : mv a2 12 (tN a 12) 11 = 0 := by rw [gm 11 (by omega), fA 11 (by omega)]; rfl
  have g14 : mv a2 12 (tN a 12) 14 = 0 := by rw [gm 14 (by omega), fA 14 (by omega)]; rfl
  have q0 : qv b2 (some (77, tN b 77)) 0 = 2 := by rw [qm 0 (by omega), fB 0 (by omega)]; rfl
  have q1 : qv b2 (some (77, tN b 77)) 1 = Int32.ofNat p := by rw [qm 1 (by omega), fB 1 (by omega)]; rfl
  have q2 : qv b2 (some (77, tN b 77)) 2 = tI b 87 0 (10 * p + 1) := by rw [qm 2 (by omega), fB 2 (by omega)]; rfl
  have q3 : qv b2 (some (77, tN b 77)) 3 = tI b 87 0 (10 * p + 4) := by rw [qm 3 (by omega), fB 3 (by omega)]; rfl
  have q4 : qv b2 (some (77, tN b 77)) 4 = tI b 87 0 (10 * p + 3) := by rw [qm 4 (by omega), fB 4 (by omega)]; rfl
  have q5 : qv b2 (some (77, tN b 77)) 5 = tI b 87 0 (10 * p + 5) := by rw [qm 5 (by omega), fB 5 (by omega)]; rfl
  have q6 : qv b2 (some (77, tN b 77)) 6 = 1 + tI b 87 0 (10 * p + 8) := by rw [qm 6 (by omega), fB 6 (by omega)]; rfl
  have q7 : qv b2 (some (77, tN b 77)) 7 = 0 := by rw [qm 7 (by omega), fB 7 (by omega)]; rfl
  have q13 : qv b2 (some (77, tN b 77)) 13 = 0 := by rw [qm 13 (by omega), fB 13 (by omega)]; rfl
  have eP : ∀ t, pst b2 p t = pst b p t := fun t => by
    unfold pst
    rw [i87, i87, i87, i87]
  have by3 : tI b 87 0 (10 * p + 8) = 0 ∨ tI b 87 0 (10 * p + 8) = 1 ∨ tI b 87 0 (10 * p + 8) = 2 := by
    by_cases e : n0 = 2
    · exact Or.inr (n3 e)
    · exact Or.inl (n4 e)
  have stp5 : (tI b 87 0 (10 * p + 5) = pst b p 1 ∧ tI b 87 0 (10 * p) = 0) ∨ tI b 87 0 (10 * p + 5) = pst b p 2 := by
    by_cases e : n0 = 0
    · subst e
      exact Or.inl ⟨n5, n2⟩
    · rw [if_neg e] at n5
      exact Or.inr n5
  have hup : upM a2 b2 sh (mv a2 12 (tN a 12)) (qv b2 (some (77, tN b 77))) := ⟨by rw [g14]; rfl, by rw [q13, g14], by rw [q7, g11], by rw [q1, g1], Or.inr (Or.inr (Or.inl ⟨g0, q0, g11, p, p, cd, c, by omega, by rw [z29]; exact hp, by rw [hP2.1.2.1 |> fun _ => dZ ca (S := [28]) (P := []) (s := 28) (by decide) (by simp) 0]; exact hcd, c1, ⟨by rw [i87]; exact hcd1, by rw [i87]; exact c2⟩, ⟨g1, g2, by rw [g4]; exact c2, by rw [g5, i87]⟩, ⟨by rw [q2, g2]; exact hcd1, by rw [q3, g4], by rw [q4, g5], by rw [q5, g6], by rw [q6, g7]⟩, by rw [g6, eP, eP, i87]; exact stp5, by rw [g7]; exact by3, fun _ => rfl, fun z => absurd g14 z, fun _ => ⟨by rw [i87]; exact hps, by rw [i87]; exact hst, by rw [g6, i87]⟩⟩))⟩
  have hkc : kcd a2 b2 sh (mv a2 12 (tN a 12)) := Or.inr (Or.inl ⟨g0, p, by rw [z29]; exact hp, g1, by rw [v70, if_pos rfl]; decide⟩)
  have hnew : ∀ k, k < tZ a2 19 sh → kN (keyA a2 (tR a2 19 sh k)) ≠ kN (mv a2 12 (tN a 12) 0, mv a2 12 (tN a 12) 1, mv a2 12 (tN a 12) 11) := fun k hk e => by
    rw [z19] at hk
    have hkm := (hK.1 sh hsh).2.2.2.1 k hk
    rw [r19, keyA_c hkm hst2.g12 hst2.g23 hst2.g39] at e
    obtain ⟨c', i', q', k1, k2, k3, k4, k5, k6, k7, k8, k9, k10⟩ := hkm
    rw [k1] at e
    have n34 : ¬ (3 : Int32) = 4 := by decide
    have e3 : kN (mv a c' i' 0, mv a c' i' 1, mv a c' i' 11) = (3, Int32.ofNat p) := by
      rw [mv_at (Or.inl ⟨by decide, by decide⟩), mv_at (Or.inl ⟨by decide, by decide⟩), mv_at (Or.inl ⟨by decide, by decide⟩)]
      refine Eq.trans e ?_
      rw [g0, g1, g11]
      unfold kN
      dsimp only
      rw [if_neg n34]
    have x1 : mv a c' i' 0 = 3 := (Prod.mk.inj e3).1
    rcases k10 with ⟨y1, -⟩ | ⟨y1, p', y2, y3, y4⟩ | ⟨y1, -⟩
    · rw [y1] at x1; exact absurd x1 (by decide)
    · have e4 : (mv a c' i' 1) = Int32.ofNat p := by
        unfold kN at e3
        dsimp only at e3
        rw [y1, if_neg n34] at e3
        exact (Prod.mk.inj e3).2
      rw [y3] at e4
      have : p' = p := o_inj (by omega) (by omega) e4
      subst this
      exact y4 h70
    · rw [y1] at x1; exact absurd x1 (by decide)
  have hsh2 : sh < tZ a2 27 0 := by rw [z27]; exact hsh
  obtain ⟨lim1, lim2⟩ := RmO_lim hO2 hsh2
  obtain ⟨a3, b3, x, y, hA3, hF3, hKe⟩ := sim_keep (sh := sh) (c := 12) (i := tN a 12) (q := (77, tN b 77)) hA2 hsh2 lim1 lim2 (Or.inl rfl) (by rw [n2A, if_pos rfl]; omega) (show isQ 77 from ⟨by decide +kernel, by decide +kernel⟩) (by show tN b 77 < tN b2 77; rw [n2B, if_pos rfl]; omega) hup g14 hkc hnew
  have hM3 := RmO_keep hA2.1 hO2 hsh2 hF3 (by rw [q0]; decide)
  obtain ⟨-, hv⟩ := Ln0_o hA.2.2.1.1 ca cb (by decide) (by decide) (by decide) gq2
  have hkp : KpE a b a3 b3 sh (12, tN a 12) (77, tN b 77) (qv b2 (some (77, tN b 77))) := KpE_of (kL_c ca cb (by decide) (by decide)) (fun c hc => (hv c hc).2) (fun c => funext fun k => dIS cb (S := [48]) (P := []) (s := 48) (by decide) (by simp) c k) (dIS cb (S := [95]) (P := []) (s := 95) (by decide) (by simp) 0 1) (dIS cb (S := [95]) (P := []) (s := 95) (by decide) (by simp) 0 2) z27 hsh hF3 hKe (show isQ 77 from ⟨by decide +kernel, by decide +kernel⟩) (by show tN b 77 < tN b2 77; rw [n2B, if_pos rfl]; omega) rfl gq2
  obtain ⟨f1, f2, f3, f4, f5, f6, f7, f8, -⟩ := hF3
  refine ⟨a3, b3, x, y, ⟨hA3, ⟨T, hM3⟩, Tx_s ht (sam0_t (sam0_c ca (by decide)) (sam0_c f2 (by decide))) (sam0_t (sam0_c cb (by decide)) (sam0_c f3 (by decide)))⟩, wa2.t f5, ?_, ?_, ?_⟩
  · rw [dZ f2 (S := [29]) (P := []) (s := 29) (by decide) (by simp), z29]
  · rw [dZ f2 (S := [27]) (P := []) (s := 27) (by decide) (by simp), z27]
  · exact ⟨_, _, _, hsh, hp, hps, hst, h70, fun r => by rw [dIS f3 (S := [70]) (P := []) (s := 70) (by decide) (by simp), v70], hkp, ⟨q0, q1, q6, q7, q13⟩, chF_t (chF_m ca (by decide) (by simp)) (chF_m f2 (by decide) (fun q h => Or.inl (List.mem_cons_of_mem _ h))), chF_t (chF_m cb (by decide) (by simp)) (chF_m f3 (by decide) (by simp)), hA, hA3⟩
