/-! ===== those that wait too long are given up: alike ===== -/
def askN (b : TS) (n : Nat) : Nat := (List.range n).countP (fun p => decide (tI b 87 0 (10 * p) = 1))
theorem askN_dec {b b' : TS} {p : Nat} (h : tI b 87 0 (10 * p) = 1) (h' : tI b' 87 0 (10 * p) ≠ 1) (ho : ∀ p', p' ≠ p → tI b' 87 0 (10 * p') = tI b 87 0 (10 * p')) : ∀ n, p < n → askN b' n + 1 = askN b n := by
  have same : ∀ n, n ≤ p → askN b' n = askN b n := fun n hn => by
    unfold askN
    refine List.countP_congr (fun q hq => ?_)
    have := List.mem_range.mp hq
    rw [ho q (by omega)]
  intro n
  induction n with
  | zero => exact fun h => absurd h (Nat.not_lt_zero _)
  | succ n ih =>
    intro hp
    have st : ∀ B, askN B (n + 1) = askN B n + (if tI B 87 0 (10 * n) = 1 then 1 else 0) := fun B => by
      unfold askN
      rw [List.range_succ, List.countP_append]
      congr 1
      by_cases e : tI B 87 0 (10 * n) = 1 <;> simp [e]
    rw [st, st]
    by_cases e : p = n
    · subst e
      rw [if_pos h, if_neg h', same p (Nat.le_refl _)]
    · rw [ho n (fun q => e q.symm)]
      have := ih (by omega)
      omega
def FgA : List (Nat × Nat) := FpA ++ FkA
def DgB : List Nat := [48, 49, 50, 51, 52, 66, 67, 68, 74, 75, 76, 86, 87]
/-- what giving up j payments of a shop leaves -/
def GvF (a a' b b' : TS) (sh j : Nat) : Prop :=
  PS a a' b b' ∧ chF [8, 9, 10, 18, 19, 21, 22, 23] FgA a a' ∧ chF DgB [] b b' ∧ groQ b b' ∧ Stt b b' ∧ Wr a a' ∧ Wr b b' ∧ (∀ s, s ≠ 10 → tN a' s = if s = 23 then tN a 23 + j else tN a s) ∧ (∀ s, s ≠ 51 → s ≠ 52 → tN b' s = if s = 76 then tN b 76 + j else tN b s) ∧
  (∀ c', c' < 2 * tZ a 27 0 → c' ≠ 2 * sh → vA a' c' = vA a c' ∧ vQ b' c' = vQ b c' ∧ tZ a' 9 c' = tZ a 9 c' ∧ tI b' 48 c' = tI b 48 c') ∧ (∀ s, s < tZ a 27 0 → s ≠ sh → KTs a' b' s = KTs a b s) ∧ askN b' (tZ a 29 0) + j = askN b (tZ a 29 0)
theorem GvF_r (a b : TS) (sh : Nat) : GvF a a b b sh 0 := ⟨PS_r a b, chF_r _ _ _, chF_r _ _ _, fun s _ => gro_r b s, Stt_r b, Wr.rf _, Wr.rf _, fun s _ => by split; rename_i e; rw [e]; rfl; rfl, fun s _ _ => by split; rename_i e; rw [e]; rfl; rfl, fun _ _ _ => ⟨rfl, rfl, rfl, rfl⟩, fun _ _ _ => rfl, rfl⟩
theorem GvF_z {a a' b b' : TS} {sh j : Nat} (h : GvF a a' b b' sh j) : tZ a' 27 0 = tZ a 27 0 ∧ tZ a' 29 0 = tZ a 29 0 ∧ tI b' 95 0 1 = tI b 95 0 1 ∧ tI b' 95 0 2 = tI b 95 0 2 :=
  ⟨dZ h.2.1 (S := [27]) (P := []) (s := 27) (by decide) (by simp) 0, dZ h.2.1 (S := [29]) (P := []) (s := 29) (by decide) (by simp) 0, dIS h.2.2.1 (S := [95]) (P := []) (s := 95) (by decide) (by simp) 0 1, dIS h.2.2.1 (S := [95]) (P := []) (s := 95) (by decide) (by simp) 0 2⟩
theorem GvF_t {a a1 a2 b b1 b2 : TS} {sh j j' : Nat} (h1 : GvF a a1 b b1 sh j) (h2 : GvF a1 a2 b1 b2 sh j') : GvF a a2 b b2 sh (j + j') := by
  obtain ⟨z1, z2, -, -⟩ := GvF_z h1
  obtain ⟨x1, x2, x3, x4, x5, x6, x7, x8, x9, x10, x11, x12⟩ := h1
  obtain ⟨y1, y2, y3, y4, y5, y6, y7, y8, y9, y10, y11, y12⟩ := h2
  refine ⟨PS_t x1 y1, chF_t x2 y2, chF_t x3 y3, groQ_t x4 y4, Stt_t x5 y5, x6.t y6, x7.t y7, fun s h => ?_, fun s h h' => ?_, fun c' h h' => ?_, fun s h h' => (y11 s (by omega) h').trans (x11 s h h'), ?_⟩
  · have u := x8 s h
    have v := y8 s h
    have w := x8 23 (by decide)
    rw [if_pos rfl] at w
    by_cases e : s = 23
    · rw [if_pos e] at v ⊢; omega
    · rw [if_neg e] at u v ⊢; omega
  · have u := x9 s h h'
    have v := y9 s h h'
    have w := x9 76 (by decide) (by decide)
    rw [if_pos rfl] at w
    by_cases e : s = 76
    · rw [if_pos e] at v ⊢; omega
    · rw [if_neg e] at u v ⊢; omega
  · obtain ⟨u1, u2, u3, u4⟩ := x10 c' h h'
    obtain ⟨v1, v2, v3, v4⟩ := y10 c' (by omega) h'
    exact ⟨v1.trans u1, v2.trans u2, v3.trans u3, v4.trans u4⟩
  · rw [z2] at y12
    omega
theorem i32_8 {T l : Nat} (hT : T ≤ 3000) (hl : l ≤ 3000) : (8 ≤ Int32.ofNat T - Int32.ofNat l) ↔ l + 8 ≤ T := by
  rw [Int32.le_iff_toInt_le, Int32.toInt_sub, Int32.toInt_ofNat_of_lt (by omega), Int32.toInt_ofNat_of_lt (by omega)]
  have h8 : (8 : Int32).toInt = 8 := rfl
  rw [h8, Int.bmod_eq_of_le (by omega) (by omega)]
  omega
theorem tick_93 {a b : TS} (h : R0 a b) : tI b 93 0 9 = tI b 95 0 1 := by
  obtain ⟨⟨-, h2, h3, -⟩, -⟩ := r_H h
  rw [h2, h3]
/-- a payment is given up -/
def EvG (a b a' b' : TS) : Prop := ∃ sh p o q g, sh < tZ a 27 0 ∧ p < tZ a 29 0 ∧ tI b 87 0 (10 * p + 2) = Int32.ofNat sh ∧ tI b 87 0 (10 * p) = 1 ∧ 8 ≤ tI b 95 0 1 - tI b 87 0 (10 * p + 6) ∧ (tI b' 87 0 (10 * p) = 0 ∨ tI b' 87 0 (10 * p) = 4) ∧ (∀ p', p' ≠ p → tI b' 87 0 (10 * p') = tI b 87 0 (10 * p')) ∧
  KeepE a b a' b' sh (some o) (some q) ∧ isQ q.1 ∧ q.2 < tN b' q.1 ∧ qv b' (some q) = g ∧ g 0 = 1 ∧ g 1 = Int32.ofNat p ∧ g 13 = 0 ∧
  vQ b' (2 * sh) = vQ b (2 * sh) ++ laid (fK (tI b 48 (2 * sh))) (tI b 95 0 1 + tI b 95 0 2) g ∧ tI b' 48 (2 * sh) = fR (tI b 48 (2 * sh)) ∧ GvF a a' b b' sh 1 ∧ Al a b ∧ Al a' b'
set_option maxHeartbeats 4000000 in
/-- one payment, the first of those that ask, is given up -/
theorem gv_step {a b : TS} {sh p i m T n N : Nat} (hnN : n ≤ N) (Q : UpQ) (hA : Al a b) (hsh : sh < tZ a 27 0) (hp0 : (askL b (tZ a 29 0) sh)[0]? = some p) (hi : i < m) (hm : m ≤ 200) (hT : T ≤ 3000) (hT' : tI b 95 0 1 = Int32.ofNat T) (old : 8 ≤ tI b 95 0 1 - tI b 87 0 (10 * p + 6)) (hq2 : LimQ N Q) (hkp : KeepOK T (tI b 95 0 1 + tI b 95 0 2) Q) (hQ : atQ Q n a b sh) :
    ∃ a' b', (∀ z, Ru 74 10 [(0, aR (some (36, sh))), (1, aI (Int32.ofNat m)), (2, aI (Int32.ofNat i))] [] (enc 1 a z) = Ru 74 10 [(0, aR (some (36, sh))), (1, aI (Int32.ofNat m)), (2, aI (Int32.ofNat (i + 1)))] [] (enc 1 a' z)) ∧
      (∀ z, Ru 245 2 [(0, aR (some (93, 0))), (1, aI (Int32.ofNat sh)), (2, aI (Int32.ofNat p))] [] (enc 2 b z) = Ru 245 2 [(0, aR (some (93, 0))), (1, aI (Int32.ofNat sh)), (2, aI (Int32.ofNat (p + 1)))] [] (enc 2 b' z)) ∧
      Al a' b' ∧ atQ Q (n + 1) a' b' sh ∧ GvF a a' b b' sh 1 ∧ (∀ q ∈ askL b' (tZ a 29 0) sh, q ∈ askL b (tZ a 29 0) sh ∧ q ≠ p) ∧ tZ a' 18 sh + 1 = tZ a 18 sh ∧ (GvF a a' b b' sh 1 → StpE EvG a b a' b') := by
  have hA00 := hA
  obtain ⟨hR, hN, hL, hAs, hK⟩ := hA
  have hfc := r_FC hR
  have hfr := r_FR hR
  have hA1 := hAs.1 sh hsh
  obtain ⟨hp, hps, h1⟩ := askL_mem.mp (List.mem_of_getElem? hp0)
  obtain ⟨S1, S2, ⟨S3, S4, S5', S6, S7, S8⟩, S9, S10⟩ := r_S hR
  obtain ⟨T1, T2, T3, T4, T5, T6, T7, T8, T9, T10, T11⟩ := S10 sh hsh
  obtain ⟨P1, P2, P3, P4, P5, P6, P7⟩ := r_P' hR
  obtain ⟨u0, u1, ⟨cd, c1, c2, c3⟩, ⟨s', v1, v2, v3⟩, ⟨u3, -⟩, ⟨u4, -⟩, u6, -⟩ := P5 p hp
  have es : s' = sh := o_inj (by omega) (by omega) (v3.symm.trans hps)
  subst es
  obtain ⟨C1, C2, ⟨C3, C4, C5⟩, C6, C7⟩ := r_C hR
  obtain ⟨D1, D2, -, D4, D5, D6, -⟩ := C7 cd c1
  obtain ⟨E1, E2, E3, E4, E5, E6, E7, E8, -⟩ := (r_D hR).1 cd c1
  have tk := tick_of hR
  have hz18 : 0 < tZ a 18 s' := by
    rw [As_len hA1]
    exact (List.getElem?_eq_some_iff.mp hp0).1
  have hz200 : tZ a 18 s' ≤ 200 := by
    have := askL_len b (tZ a 29 0) s'
    rw [As_len hA1]
    omega
  have hR18 : tR a 18 s' 0 = some (38, p) := by
    obtain ⟨p', w1, w2, -⟩ := As_at hA1 hz18
    rw [hp0] at w1
    rw [w2, Option.some.inj w1]
  have eS : stp (tI a 37 cd 3).toInt64 (tI a 38 p 4) (tI b 87 0 (10 * p + 3)) (tI a 36 s' 0) 1 = pst b p 1 := by
    unfold pst
    rw [D5, u4, T2, c3, hps]
  have hG : gvC (rmL a 18 s' 0) s' cd (tI b 87 0 (10 * p + 3)) ↔ gvD b s' cd (tI b 87 0 (10 * p + 3)) := by
    unfold gvC gvD grC
    show (¬ tI a 36 s' 1 < _ ∧ tI a 37 cd 11 = 0 ∧ ¬ tI a 37 cd 4 ≤ tI a 37 cd 9 ∧ tI a 37 cd 10 + _ ≤ tI a 37 cd 5) ↔ _
    rw [T3, E7, E1, E5, E6, D6]
  have hdec : Decidable (gvD b s' cd (tI b 87 0 (10 * p + 3))) := Classical.propDecidable _
  have f46 := fun z => x46 (a := rmL a 18 s' 0) (z := z) (p := p) (cd := cd) (sh := s') (m := tI b 87 0 (10 * p + 3)) (G := gvD b s' cd (tI b 87 0 (10 * p + 3))) (show p < tN a 38 by omega) (by rw [tR_rmL, if_neg (fun q => absurd q.1 (by decide))]; exact c2) (show cd < tN a 37 by omega) (by rw [tR_rmL, if_neg (fun q => absurd q.1 (by decide))]; exact v2) (show s' < tN a 36 by omega) u3 hG.symm
  have f245 := fun z => y245_go (b := b) (z := z) (sh := s') (p := p) (n := tZ a 29 0) (cd := cd) (m := tI b 87 0 (10 * p + 3)) (G := gvD b s' cd (tI b 87 0 (10 * p + 3))) hfr P4 P1 hp (by omega) (by omega) hps h1 (by rw [tick_93 hR]; exact old) c3 rfl Iff.rfl
  obtain ⟨⟨g1, g2, g3, g4, g5, g6, g7, g8⟩, h1', h04⟩ := gv_R0 (cd := cd) (m := tI b 87 0 (10 * p + 3)) (st := pst b p 1) (G := gvD b s' cd (tI b 87 0 (10 * p + 3))) hR hp c1 h1 rfl
  have eA : (if gvD b s' cd (tI b 87 0 (10 * p + 3)) then paA (rmL a 18 s' 0) p cd (tI b 87 0 (10 * p + 3)) (stp (tI (rmL a 18 s' 0) 37 cd 3).toInt64 (tI (rmL a 18 s' 0) 38 p 4) (tI b 87 0 (10 * p + 3)) (tI (rmL a 18 s' 0) 36 s' 0) 1) else sI (rmL a 18 s' 0) 38 p 7 4) = rmL (gvA a p cd (tI b 87 0 (10 * p + 3)) (pst b p 1) (gvD b s' cd (tI b 87 0 (10 * p + 3)))) 18 s' 0 := by
    rw [← gvA_rm, ← eS]
    rfl
  rw [eA] at f46
  have nA1 := gvA_N a p cd (tI b 87 0 (10 * p + 3)) (pst b p 1) (gvD b s' cd (tI b 87 0 (10 * p + 3)))
  have nB1 := gvB_N b p cd (tI b 87 0 (10 * p + 3)) (pst b p 1) (gvD b s' cd (tI b 87 0 (10 * p + 3)))
  generalize gvA a p cd (tI b 87 0 (10 * p + 3)) (pst b p 1) (gvD b s' cd (tI b 87 0 (10 * p + 3))) = a0 at *
  generalize gvB b p cd (tI b 87 0 (10 * p + 3)) (pst b p 1) (gvD b s' cd (tI b 87 0 (10 * p + 3))) = b1 at *
  -- the list without it
  have hAsg := As_gone hAs hsh S1 hp hp0 g2 g3 g5 g6 h1'
  have ca0 : chF [18] FpA a (rmL a0 18 s' 0) := chF_t (chF_m g2 (by simp) DpA_m) (chF_m (chF_g (D := [18]) (F := []) (chg_rmL (D := [18]) (by simp) (chg_r _ _))) (by simp) (by simp))
  have wa0 : Wr a (rmL a0 18 s' 0) := g7.t ((Wr.rf _).cX _ _ _ (by decide +kernel))
  have hR1 : R0 (rmL a0 18 s' 0) b1 := by
    have ha : chF [18] [] a0 (rmL a0 18 s' 0) := chF_g (chg_rmL (by simp) (chg_r _ _))
    have hb : chF [] [] b1 b1 := chF_r _ _ _
    have wa : Wr a0 (rmL a0 18 s' 0) := (Wr.rf _).cX _ _ _ (by decide +kernel)
    have wb : Wr b1 b1 := Wr.rf _
    obtain ⟨hFC, hFR, hB, hS, hM, hW, hV, hC, hD, hE, hP, hQ, hH, hK, hG, hO, hZ⟩ := g1
    have hS2 : RS (rmL a0 18 s' 0) b1 := RS_w hS ha hb (by decide) (by decide) rfl rfl rfl rfl rfl (fun _ => rfl)
    exact ⟨FxC_s hFC wa ha (by decide), FxR_s hFR wb hb (by decide), RB_c hB ha hb (by decide) (by decide), hS2, RM_c hM ha hb (by decide) (by decide), RW_c hW ha hb (by decide) (by decide), RV_c hV ha hb (by decide) (by decide), RC_c hC ha hb (by decide) (by decide), RD_c hD ha hb (by decide) (by decide), RE_c hE ha hb (by decide) (by decide), RP_c hP ha hb (by decide) (by decide), RQ_c hQ ha hb (by decide) (by decide), RH_c hH ha hb (by decide) (by decide), RK_c hK ha hb (by decide) (by decide) (gro_c ha (by decide)) (gro_c ha (by decide)) (gro_c ha (by decide)) (gro_c ha (by decide)), RG_c hG ha hb (by decide) (by decide), RO_c hO ha hb (by decide) (by decide), RZ_c hZ ha hb (by decide) (by decide)⟩
  have gq1 : groQ b b1 := groQ_c g3 (by decide +kernel)
  have st1 : Stt b b1 := fun p' => by
    by_cases e : p' = p
    · subst e; exact Or.inr ⟨h1, h1'⟩
    · exact Or.inl (g6 p' e)
  have hP1 : PS a (rmL a0 18 s' 0) b b1 := PS_t g4 (PS_c (chF_g (D := [18]) (F := []) (chg_rmL (by simp) (chg_r _ _))) (chF_r [] [] b1) (by decide) (by decide))
  have z18 : tZ a0 18 s' = tZ a 18 s' := dZ g2 (S := [18]) (P := []) (s := 18) (by decide) (by simp) s'
  have nA2 : ∀ s, tN (rmL a0 18 s' 0) s = tN a s := fun s => nA1 s
  have z18' : tZ (rmL a0 18 s' 0) 18 s' = tZ a 18 s' - 1 := by rw [tZ_rmL, if_pos ⟨rfl, rfl⟩, z18]
  generalize rmL a0 18 s' 0 = a1 at *
  -- its TAKE BACK
  obtain ⟨ta, tw, tn, tg, tm⟩ := tbA_eq a1 p
  obtain ⟨sa, sw, sn, sg, sm⟩ := tbB_eq b1 p
  have tm0 : mv (tbA a1 p) 23 (tN a1 23) 0 = 2 := by rw [tm, if_pos rfl]
  have tm1 : mv (tbA a1 p) 23 (tN a1 23) 1 = Int32.ofNat p := by rw [tm, if_neg (by decide), if_pos rfl]
  have tm11 : mv (tbA a1 p) 23 (tN a1 23) 11 = 0 := by rw [tm, if_neg (by decide), if_neg (by decide), if_neg (by decide)]
  have tm14 : mv (tbA a1 p) 23 (tN a1 23) 14 = 0 := by rw [tm, if_neg (by decide), if_neg (by decide), if_neg (by decide)]
  have sm0 : qv (tbB b1 p) (some (76, tN b1 76)) 0 = 1 := by rw [sm, if_pos rfl]
  have sm1 : qv (tbB b1 p) (some (76, tN b1 76)) 1 = Int32.ofNat p := by rw [sm, if_neg (by decide), if_pos rfl]
  have sm7 : qv (tbB b1 p) (some (76, tN b1 76)) 7 = 0 := by rw [sm, if_neg (by decide), if_neg (by decide)]
  have sm13 : qv (tbB b1 p) (some (76, tN b1 76)) 13 = 0 := by rw [sm, if_neg (by decide), if_neg (by decide)]
  have iQ76 : isQ 76 := ⟨by decide +kernel, by decide +kernel⟩
  have hfr1 := r_FR hR1
  have gq2 := groQ_t gq1 sg
  have ca1 : chF [18, 23] FpA a (tbA a1 p) := chF_t (chF_m ca0 (by simp) (fun q h => Or.inl h)) (chF_m ta (by simp) (by simp))
  have cb1 : chF [76, 86, 87] [] b (tbB b1 p) := chF_t (chF_m g3 (by simp) (by simp)) (chF_m sa (by simp) (by simp))
  have hP2 : PS a (tbA a1 p) b (tbB b1 p) := PS_t hP1 (PS_c ta sa (by decide) (by decide))
  have hR2 : R0 (tbA a1 p) (tbB b1 p) := by
    have hR1' := hR1
    have ha := ta
    have hb := sa
    have wa := tw
    have wb := sw
    obtain ⟨hFC, hFR, hB, hS, hM, hW, hV, hC, hD, hE, hP, hQ, hH, hK, hG, hO, hZ⟩ := hR1
    exact ⟨FxC_s hFC wa ha (by decide), FxR_s hFR wb hb (by decide), RB_c hB ha hb (by decide) (by decide), RS_c hS ha hb (by decide) (by decide), RM_c hM ha hb (by decide) (by decide), RW_c hW ha hb (by decide) (by decide), RV_c hV ha hb (by decide) (by decide), RC_c hC ha hb (by decide) (by decide), RD_c hD ha hb (by decide) (by decide), RE_c hE ha hb (by decide) (by decide), RP_c hP ha hb (by decide) (by decide), RQ_c hQ ha hb (by decide) (by decide), RH_c hH ha hb (by decide) (by decide), RK_c hK ha hb (by decide) (by decide) (gro_c ha (by decide)) (gro_c ha (by decide)) (gro_c ha (by decide)) (gro_c ha (by decide)), RG_c hG ha hb (by decide) (by decide), RO_c hO ha hb (by decide) (by decide), RZ_c hZ ha hb (by decide) (by decide)⟩
  have st2 : Stt b (tbB b1 p) := Stt_t st1 (Stt_c sa (by decide))
  obtain ⟨hL2, hv2⟩ := Ln0_o hL.1 ca1 cb1 (by decide) (by decide) (by decide) gq2
  have z27 : tZ (tbA a1 p) 27 0 = tZ a 27 0 := dZ ca1 (S := [27]) (P := []) (s := 27) (by decide) (by simp) 0
  have hN2 : Nt (tbA a1 p) (tbB b1 p) := Nt_c hN ca1 cb1 (by decide) (by decide) hP2.1 (gro_c ca1 (by decide)) gq2
  have hAs2 : As (tbA a1 p) (tbB b1 p) := As_c hAsg ta sa (by decide) (by decide)
  have gr23 : gro a (tbA a1 p) 23 := ⟨by have := tg.1; rw [nA2] at this; exact this, fun i hi k => by rw [tg.2 i (by rw [nA2]; exact hi)]; exact dIS ca0 (S := [23]) (P := []) (s := 23) (by decide) (by simp) i k⟩
  have hst2 : Kst a (tbA a1 p) b (tbB b1 p) := ⟨hP2, gro_c ca1 (by decide), gr23, gro_c ca1 (by decide), gq2, fun p' _ h => Stt_1 st2 p' h, fun p' _ h => by rw [dIS cb1 (S := [70]) (P := []) (s := 70) (by decide) (by simp)]; exact h, fun s m _ h h' => ⟨m, by rw [dIS cb1 (S := [69]) (P := []) (s := 69) (by decide) (by simp)]; exact h, Nat.le_refl _, h'⟩⟩
  have z19 : ∀ s, tZ (tbA a1 p) 19 s = tZ a 19 s := dZ ca1 (S := [19]) (P := []) (s := 19) (by decide) (by simp)
  have r19 : ∀ s k, tR (tbA a1 p) 19 s k = tR a 19 s k := dR ca1 (S := [19]) (P := []) (s := 19) (by decide) (by simp)
  have w67 : ∀ k, tI (tbB b1 p) 67 0 k = tI b 67 0 k := dIS cb1 (S := [67]) (P := []) (s := 67) (by decide) (by simp) 0
  have hK2 : Kp (tbA a1 p) (tbB b1 p) := by
    refine ⟨fun s hs => ?_, fun s hs => ?_⟩
    · rw [z27] at hs
      exact Kp1_c (hK.1 s hs) hs hst2 (z19 s) (dC ca1 (S := [19]) (P := []) (s := 19) (by decide) (by simp) s) (r19 s) (dIS cb1 (S := [68]) (P := []) (s := 68) (by decide) (by simp) 0 s) (fun k _ => dR cb1 (S := [66]) (P := []) (s := 66) (by decide) (by simp) 0 _) (fun k _ => w67 _)
    · rw [z27] at hs
      rw [dIS cb1 (S := [68]) (P := []) (s := 68) (by decide) (by simp)]
      exact hK.2 s hs
  have hA2 : Al (tbA a1 p) (tbB b1 p) := ⟨hR2, hN2, Ln_c hL hL2 hP2 z27 hv2, hAs2, hK2⟩
  have z29 : tZ (tbA a1 p) 29 0 = tZ a 29 0 := dZ ca1 (S := [29]) (P := []) (s := 29) (by decide) (by simp) 0
  have e2 : tI (tbB b1 p) 87 0 (10 * p + 2) = Int32.ofNat s' := by rw [dIS sa (S := [87]) (P := []) (s := 87) (by decide) (by simp), g5.2.1]; exact hps
  have e0 : tI (tbB b1 p) 87 0 (10 * p) ≠ 1 := by rw [dIS sa (S := [87]) (P := []) (s := 87) (by decide) (by simp)]; exact h1'
  have hup : upM (tbA a1 p) (tbB b1 p) s' (mv (tbA a1 p) 23 (tN a1 23)) (qv (tbB b1 p) (some (76, tN b1 76))) := by
    exact ⟨by rw [tm14]; rfl, by rw [sm13, tm14], by rw [sm7, tm11], by rw [sm1, tm1], Or.inr (Or.inl ⟨tm0, sm0, tm14, tm11, p, by rw [z29]; exact hp, tm1, e2⟩)⟩
  have hkc : kcd (tbA a1 p) (tbB b1 p) s' (mv (tbA a1 p) 23 (tN a1 23)) := Or.inl ⟨tm0, p, by rw [z29]; exact hp, tm1, e0⟩
  have hnew : ∀ k, k < tZ (tbA a1 p) 19 s' → kN (keyA (tbA a1 p) (tR (tbA a1 p) 19 s' k)) ≠ kN (mv (tbA a1 p) 23 (tN a1 23) 0, mv (tbA a1 p) 23 (tN a1 23) 1, mv (tbA a1 p) 23 (tN a1 23) 11) := fun k hk e => by
    rw [z19] at hk
    have hkm := (hK.1 s' hsh).2.2.2.1 k hk
    rw [r19, keyA_c hkm hst2.g12 hst2.g23 hst2.g39] at e
    obtain ⟨c, i', q', k1, k2, k3, k4, k5, k6, k7, k8, k9, k10⟩ := hkm
    rw [k1] at e
    have e3 : kN (mv a c i' 0, mv a c i' 1, mv a c i' 11) = (2, Int32.ofNat p) := by
      rw [mv_at (Or.inl ⟨by decide, by decide⟩), mv_at (Or.inl ⟨by decide, by decide⟩), mv_at (Or.inl ⟨by decide, by decide⟩)]
      refine Eq.trans e ?_
      rw [tm0, tm1, tm11]
      rfl
    obtain ⟨n', n1, n2⟩ := kcd_cd k10 P1
    rw [e3] at n1
    obtain ⟨x1, x2⟩ := Prod.mk.inj n1
    rcases k10 with ⟨y1, p', y2, y3, y4⟩ | ⟨y1, -⟩ | ⟨y1, -⟩
    · have e4 : (mv a c i' 1) = Int32.ofNat p := by
        unfold kN at e3
        dsimp only at e3
        rw [y1] at e3
        exact (Prod.mk.inj e3).2
      rw [y3] at e4
      have : p' = p := o_inj (by omega) (by omega) e4
      subst this
      exact y4 h1
    · rw [y1] at x1; exact absurd x1 (by decide)
    · rw [y1] at x1; exact absurd x1 (by decide)
  have z9 : ∀ c, tZ (tbA a1 p) 9 c = tZ a 9 c := dZ ca1 (S := [9]) (P := []) (s := 9) (by decide) (by simp)
  have b48 : ∀ c, tI (tbB b1 p) 48 c = tI b 48 c := fun c => funext fun k => dIS cb1 (S := [48]) (P := []) (s := 48) (by decide) (by simp) c k
  have t1 : tI (tbB b1 p) 95 0 1 = tI b 95 0 1 := dIS cb1 (S := [95]) (P := []) (s := 95) (by decide) (by simp) 0 1
  have t2 : tI (tbB b1 p) 95 0 2 = tI b 95 0 2 := dIS cb1 (S := [95]) (P := []) (s := 95) (by decide) (by simp) 0 2
  have hKT : ∀ s, KTs (tbA a1 p) (tbB b1 p) s = KTs a b s := fun s => KTs_eq (z19 s) (fun k _ => w67 _)
  obtain ⟨lim1, lim2⟩ := hq2 _ _ _ _ _ hnN hQ
  obtain ⟨a3, b3, x, y, hA3, ⟨f1, f2, f3, f4, f5, f6, f7, f8, f9, f10, f11, f12, f13, f14⟩, hKe⟩ := sim_keep (sh := s') (c := 23) (i := tN a1 23) (q := (76, tN b1 76)) hA2 (by rw [z27]; exact hsh) (by rw [z9]; exact lim1) (by rw [(hv2 (2 * s') (by omega)).2]; exact lim2) (Or.inr (Or.inl rfl)) (by rw [tn, if_pos rfl]; omega) iQ76 (by rw [sn, if_pos rfl]; omega) hup tm14 hkc hnew
  have i38 : p < tN a1 38 := by rw [nA2]; omega
  have i380 : tI a1 38 p 0 = Int32.ofNat p := (dI ca0 (S := []) (P := [(38, 0)]) (s := 38) (k := 0) (by decide) (by simp) p).trans u1
  refine ⟨a3, b3, fun z => ?_, fun z => ?_, hA3, ?_, ⟨PS_t hP2 f1, ?_, ?_, groQ_t gq2 f4, Stt_t st2 (Stt_c f3 (by decide)), (wa0.t tw).t f5, (g8.t sw).t f6, fun s h => ?_, fun s h h' => ?_, fun c' h h' => ?_, fun s h h' => ?_, ?_⟩, fun q hq => ?_, ?_, fun hG1 => ?_⟩
  · rw [x74_go hfc (by omega) T5 T8 (by omega) hz18 hz200 hi hm hR18 (by omega) (by rw [tk, u6]; exact old) f46 i38 i380, x, cV_v]
  · rw [f245, y197_x _ hfr1, y, cV_v, cV_v]
  · unfold atQ
    rw [f13, f12, f11, f10, hKT, b48, (hv2 (2 * s') (by omega)).2, z9, t1, t2, hT', o_ix (by omega)]
    have := hkp n _ _ _ _ (qv (tbB b1 p) (some (76, tN b1 76))) (by rw [sm0]; decide) hQ
    rw [hT'] at this
    exact this
  · exact chF_t (chF_m ca1 (by decide) (fun q h => Or.inl (List.mem_append_left _ h))) (chF_m f2 (by decide) (fun q h => Or.inl (List.mem_append_right _ h)))
  · exact chF_t (chF_m cb1 (by decide) (by simp)) (chF_m f3 (by decide) (by simp))
  · rw [f7 s h, tn]
    by_cases e : s = 23
    · rw [if_pos e, if_pos e, nA2]
    · rw [if_neg e, if_neg e, nA2]
  · rw [f8 s h h', sn]
    by_cases e : s = 76
    · rw [if_pos e, if_pos e, nB1]
    · rw [if_neg e, if_neg e, nB1]
  · obtain ⟨x1, x2, x3, x4⟩ := f9 c' (by rw [z27]; exact h) h'
    obtain ⟨y1, y2⟩ := hv2 c' h
    exact ⟨x1.trans y1, x2.trans y2, x3.trans (z9 c'), x4.trans (b48 c')⟩
  · exact (f14 s (by rw [z27]; exact h) h').trans (hKT s)
  · have w87 : ∀ k, tI b3 87 0 k = tI b1 87 0 k := fun k => (dIS f3 (S := [87]) (P := []) (s := 87) (by decide) (by simp) 0 k).trans (dIS sa (S := [87]) (P := []) (s := 87) (by decide) (by simp) 0 k)
    exact askN_dec h1 (by rw [w87]; exact h1') (fun p' h => by rw [w87]; exact g6 p' h) _ hp
  · have w87 : ∀ k, tI b3 87 0 k = tI b1 87 0 k := fun k => (dIS f3 (S := [87]) (P := []) (s := 87) (by decide) (by simp) 0 k).trans (dIS sa (S := [87]) (P := []) (s := 87) (by decide) (by simp) 0 k)
    rw [askL_rm (b := b) (p := p) (fun p' _ => by rw [w87]; exact g5.2.1 p') (fun p' h => by rw [w87]; exact g6 p' h) (by rw [w87]; exact h1')] at hq
    obtain ⟨h1, h2⟩ := List.mem_filter.mp hq
    exact ⟨h1, by simpa using h2⟩
  · rw [dZ f2 (S := [18]) (P := []) (s := 18) (by decide) (by simp), dZ ta (S := [18]) (P := []) (s := 18) (by decide) (by simp), z18']
    omega
  · have w87 : ∀ k, tI b3 87 0 k = tI b1 87 0 k := fun k => (dIS f3 (S := [87]) (P := []) (s := 87) (by decide) (by simp) 0 k).trans (dIS sa (S := [87]) (P := []) (s := 87) (by decide) (by simp) 0 k)
    have hlt : tN b1 76 < tN (tbB b1 p) 76 := by rw [sn, if_pos rfl]; omega
    have qE : qv b3 (some (76, tN b1 76)) = qv (tbB b1 p) (some (76, tN b1 76)) := qv_congr (fun f => (f4 76 iQ76).2 _ hlt f)
    have kE : ∀ s, kL (tbA a1 p) (tbB b1 p) s = kL a b s := kL_c ca1 cb1 (by decide) (by decide)
    refine StpE_1 ⟨s', p, (23, tN a1 23), (76, tN b1 76), qv (tbB b1 p) (some (76, tN b1 76)), hsh, hp, hps, h1, old, by rw [w87]; exact h04, fun p' h => by rw [w87]; exact g6 p' h, ⟨by rw [← t1, ← kE]; exact hKe.1, fun s h h' => (hKe.2 s (by rw [z27]; exact h) h').trans (kE s)⟩, iQ76, Nat.lt_of_lt_of_le hlt (f4 76 iQ76).1, qE, sm0, sm1, sm13, by rw [f10, (hv2 (2 * s') (by omega)).2, b48, t1, t2], by rw [f11, b48], hG1, hA00, hA3⟩
