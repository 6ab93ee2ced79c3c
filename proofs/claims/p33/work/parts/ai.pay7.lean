/-! ===== a payment that asks ===== -/
theorem list_push {α β : Type} (f : Nat → α) (g : β → α) {n : Nat} {f' : Nat → α} {l : List β} {x : β} (h : (List.range n).map f = l.map g) (h1 : ∀ k, k < n → f' k = f k) (h2 : f' n = g x) : (List.range (n + 1)).map f' = (l ++ [x]).map g := by
  rw [List.range_succ, List.map_append, List.map_append, ← h]
  congr 1
  · exact List.map_congr_left (fun k hk => h1 k (List.mem_range.mp hk))
  · simp only [List.map_cons, List.map_nil, h2]
/-- a new payment that asks: what is beside it -/
def AskE (a b a' b' Y : TS) (p sh : Nat) : Prop := (∃ g, PtE a b a' b' sh g ∧ g 0 = 0 ∧ g 1 = Int32.ofNat p ∧ g 13 = 0) ∧ tZ a' 29 0 = p + 1 ∧ (∀ j, tI b' 87 0 j = tI Y 87 0 j) ∧ (∀ j, tI b' 86 0 j = tI Y 86 0 j) ∧
  chF [8, 9, 10, 11, 18, 21, 22, 29, 38] [(37, 6), (37, 7), (37, 8), (36, 10)] a a' ∧ chF [48, 49, 50, 51, 52, 74, 75, 77, 86, 87, 90] [(93, 8)] b b'
set_option maxHeartbeats 4000000 in
theorem core_asks {a b X Y : TS} {C cd sh c : Nat} {m tch st : Int32} (h : Core a b C) (h200 : tZ a 29 0 < 200) (hcd : cd < tZ a 28 0) (hsh : sh < tZ a 27 0) (hF : PyF a b X Y (tZ a 29 0) cd sh c m (tI b 95 0 1) tch st) :
    ∃ a' b', (∀ z, Ex 37 [aR (some (21, sh)), aR (some (11, tN a 11))] (enc 1 (msA 11 (pushL X 18 sh (some (38, tZ a 29 0))) 1 (Int32.ofNat (tZ a 29 0)) (Int32.ofNat cd) (Int32.ofNat c) m st) z) = some (.inl none, enc 1 a' z)) ∧
      (∀ z, Ex 193 [aR (some (95, 0)), aI (Int32.ofNat sh), aR (some (77, tN b 77))] (enc 2 (maB Y 0 (Int32.ofNat (tZ a 29 0)) (Int32.ofNat cd) (Int32.ofNat c) m st) z) = some (.inl none, enc 2 b' z)) ∧
      Core a' b' C ∧ Wr a a' ∧ (tI a' 38 (tZ a 29 0) 0 = Int32.ofNat (tZ a 29 0) ∧ tZ a 29 0 < tN a' 38) ∧ AskE a b a' b' Y (tZ a 29 0) sh := by
  obtain ⟨hA, ⟨T, hM⟩, ht⟩ := h
  obtain ⟨hRX, cX, cY, wX, wY, zX, o87, ⟨v0, v1, v2, v3, v4, v5, v6, v9⟩, nX, est, hc, ⟨u1, u2, u3, u4, u5, u6⟩, hPc⟩ := hF
  have hAs := hA.2.2.2.1
  have hS := r_S hA.1
  have hS1 : tZ a 27 0 ≤ 4 := hS.1
  have z28 : tZ X 28 0 = tZ a 28 0 := dZ cX (S := [28]) (P := []) (s := 28) (by decide) (by simp) 0
  have z27 : tZ X 27 0 = tZ a 27 0 := dZ cX (S := [27]) (P := []) (s := 27) (by decide) (by simp) 0
  have z18 : ∀ s, tZ X 18 s = tZ a 18 s := dZ cX (S := [18]) (P := []) (s := 18) (by decide) (by simp)
  have k18 : ∀ s, tC X 18 s = tC a 18 s := dC cX (S := [18]) (P := []) (s := 18) (by decide) (by simp)
  have r18 : ∀ s k, tR X 18 s k = tR a 18 s k := dR cX (S := [18]) (P := []) (s := 18) (by decide) (by simp)
  have hl18 := As_len (hAs.1 sh hsh)
  have hle18 := askL_len b (tZ a 29 0) sh
  obtain ⟨⟨q1, q2, q3⟩, -⟩ := hAs.1 sh hsh
  have n18 : sh < tN X 18 := by
    rw [nX, if_neg (by decide)]
    have := hS.2.2.1.2.2.2.1
    omega
  -- the list
  have cP : chF [18] [] X (pushL X 18 sh (some (38, tZ a 29 0))) := chF_g (chg_pushL (by simp) (chg_r _ _))
  have wP : Wr X (pushL X 18 sh (some (38, tZ a 29 0))) := Wr.cP _ _ _ (by decide +kernel) (by decide) n18 (by rw [z18, k18]; exact q1) (Wr.rf _)
  have hRP : R0 (pushL X 18 sh (some (38, tZ a 29 0))) Y := by
    have ha := cP
    have hb : chF [] [] Y Y := chF_r _ _ _
    have wa := wP
    have wb : Wr Y Y := Wr.rf _
    obtain ⟨hFC, hFR, hB, hS, hM, hW, hV, hC, hD, hE, hP, hQ, hH, hK, hG, hO, hZ⟩ := hRX
    have e18 : tN (pushL X 18 sh (some (38, tZ a 29 0))) 18 = tN X 18 := tN_pushL ..
    have e19 : tN (pushL X 18 sh (some (38, tZ a 29 0))) 19 = tN X 19 := tN_pushL ..
    have e20 : tN (pushL X 18 sh (some (38, tZ a 29 0))) 20 = tN X 20 := tN_pushL ..
    have e21 : tN (pushL X 18 sh (some (38, tZ a 29 0))) 21 = tN X 21 := tN_pushL ..
    have e22 : tN (pushL X 18 sh (some (38, tZ a 29 0))) 22 = tN X 22 := tN_pushL ..
    have hS2 : RS (pushL X 18 sh (some (38, tZ a 29 0))) Y := RS_w hS ha hb (by decide) (by decide) e18 e19 e20 e21 e22 (dZ ha (S := [20]) (P := []) (s := 20) (by decide) (by simp))
    exact ⟨FxC_s hFC wa ha (by decide), FxR_s hFR wb hb (by decide), RB_c hB ha hb (by decide) (by decide), hS2, RM_c hM ha hb (by decide) (by decide), RW_c hW ha hb (by decide) (by decide), RV_c hV ha hb (by decide) (by decide), RC_c hC ha hb (by decide) (by decide), RD_c hD ha hb (by decide) (by decide), RE_c hE ha hb (by decide) (by decide), RP_c hP ha hb (by decide) (by decide), RQ_c hQ ha hb (by decide) (by decide), RH_c hH ha hb (by decide) (by decide), RK_c hK ha hb (by decide) (by decide) (gro_c ha (by decide)) (gro_c ha (by decide)) (gro_c ha (by decide)) (gro_c ha (by decide)), RG_c hG ha hb (by decide) (by decide), RO_c hO ha hb (by decide) (by decide), RZ_c hZ ha hb (by decide) (by decide)⟩
  have pz : ∀ s, tZ (pushL X 18 sh (some (38, tZ a 29 0))) 18 s = if s = sh then tZ a 18 sh + 1 else tZ a 18 s := fun s => by
    rw [tZ_pushL]
    by_cases e : s = sh
    · rw [if_pos ⟨rfl, e⟩, if_pos e, z18]
    · rw [if_neg (fun q => e q.2), if_neg e, z18]
  have pr : ∀ s k, tR (pushL X 18 sh (some (38, tZ a 29 0))) 18 s k = if s = sh ∧ k = tZ a 18 sh then some (38, tZ a 29 0) else tR a 18 s k := fun s k => by
    rw [tR_pushL, z18, r18]
    by_cases e : s = sh ∧ k = tZ a 18 sh
    · rw [if_pos ⟨rfl, e⟩, if_pos e]
    · rw [if_neg (fun q => e q.2), if_neg e]
  have pc : capOK (pushL X 18 sh (some (38, tZ a 29 0))) 18 sh := by
    unfold capOK
    rw [pz, if_pos rfl, tC_pushL, if_pos ⟨rfl, rfl⟩, z18, k18]
    by_cases e : tZ a 18 sh < tC a 18 sh
    · rw [if_pos e]
      omega
    · rw [if_neg e]
      exact liC_le2 q1 e (by omega) q3
  have pk : ∀ s, s ≠ sh → tC (pushL X 18 sh (some (38, tZ a 29 0))) 18 s = tC a 18 s := fun s e => by
    rw [tC_pushL, if_neg (fun q => e q.2)]
    exact k18 s
  have pn : ∀ s, tN (pushL X 18 sh (some (38, tZ a 29 0))) s = tN X s := fun s => tN_pushL ..
  have p29 : tZ (pushL X 18 sh (some (38, tZ a 29 0))) 29 0 = tZ a 29 0 + 1 := (dZ cP (S := [29]) (P := []) (s := 29) (by decide) (by simp) 0).trans zX
  generalize pushL X 18 sh (some (38, tZ a 29 0)) = X2 at *
  -- the message
  obtain ⟨ta, tw, tn, tg, tm'⟩ := msA_eq (s := 11) (Or.inl rfl) X2 1 (Int32.ofNat (tZ a 29 0)) (Int32.ofNat cd) (Int32.ofNat c) m st
  obtain ⟨sa, sw, sn, sg, sm⟩ := maB_eq Y 0 (Int32.ofNat (tZ a 29 0)) (Int32.ofNat cd) (Int32.ofNat c) m st
  have n11 : tN X2 11 = tN a 11 := by rw [pn, nX, if_neg (by decide)]
  have n77 : tN Y 77 = tN b 77 := dN cY (S := [77]) (P := []) (s := 77) (by decide) (by simp)
  rw [n11] at tn tm'
  rw [n77] at sn sm
  have hR2 : R0 (msA 11 X2 1 (Int32.ofNat (tZ a 29 0)) (Int32.ofNat cd) (Int32.ofNat c) m st) (maB Y 0 (Int32.ofNat (tZ a 29 0)) (Int32.ofNat cd) (Int32.ofNat c) m st) := by
    have ha := ta
    have hb := sa
    have wa := tw
    have wb := sw
    obtain ⟨hFC, hFR, hB, hS, hM, hW, hV, hC, hD, hE, hP, hQ, hH, hK, hG, hO, hZ⟩ := hRP
    exact ⟨FxC_s hFC wa ha (by decide), FxR_s hFR wb hb (by decide), RB_c hB ha hb (by decide) (by decide), RS_c hS ha hb (by decide) (by decide), RM_c hM ha hb (by decide) (by decide), RW_c hW ha hb (by decide) (by decide), RV_c hV ha hb (by decide) (by decide), RC_c hC ha hb (by decide) (by decide), RD_c hD ha hb (by decide) (by decide), RE_c hE ha hb (by decide) (by decide), RP_c hP ha hb (by decide) (by decide), RQ_c hQ ha hb (by decide) (by decide), RH_c hH ha hb (by decide) (by decide), RK_c hK ha hb (by decide) (by decide) (gro_c ha (by decide)) (gro_c ha (by decide)) (gro_c ha (by decide)) (gro_c ha (by decide)), RG_c hG ha hb (by decide) (by decide), RO_c hO ha hb (by decide) (by decide), RZ_c hZ ha hb (by decide) (by decide)⟩
  generalize msA 11 X2 1 (Int32.ofNat (tZ a 29 0)) (Int32.ofNat cd) (Int32.ofNat c) m st = a2 at *
  generalize maB Y 0 (Int32.ofNat (tZ a 29 0)) (Int32.ofNat cd) (Int32.ofNat c) m st = b2 at *
  have ca : chF [11, 18, 29, 38] [(37, 6), (37, 7), (37, 8), (36, 10)] a a2 := chF_t (chF_t (chF_m cX (by simp) (by simp)) (chF_m cP (by simp) (by simp))) (chF_m ta (by simp) (by simp))
  have cb : chF [77, 86, 87, 90] [(93, 8)] b b2 := chF_t (chF_m cY (by simp) (by simp)) (chF_m sa (by simp) (by simp))
  have wa2 := (wX.t wP).t tw
  have wb2 := wY.t sw
  have i87 : ∀ j, tI b2 87 0 j = tI Y 87 0 j := dIS sa (S := [87]) (P := []) (s := 87) (by decide) (by simp) 0
  have o2 : ∀ j, j < 10 * tZ a 29 0 → tI b2 87 0 j = tI b 87 0 j := fun j hj => (i87 j).trans (o87 j hj)
  have s0 : tI b2 87 0 (10 * tZ a 29 0) = 1 := (i87 _).trans v0
  have s2 : tI b2 87 0 (10 * tZ a 29 0 + 2) = Int32.ofNat sh := (i87 _).trans v2
  have hz : tZ a2 29 0 = tZ a 29 0 + 1 := (dZ ta (S := [29]) (P := []) (s := 29) (by decide) (by simp) 0).trans p29
  have i95 : tI b2 95 0 1 = tI b 95 0 1 := dIS cb (S := [95]) (P := []) (s := 95) (by decide) (by simp) 0 1
  have y18 : ∀ s, tZ a2 18 s = if s = sh then tZ a 18 sh + 1 else tZ a 18 s := fun s => (dZ ta (S := [18]) (P := []) (s := 18) (by decide) (by simp) s).trans (pz s)
  have yr : ∀ s k, tR a2 18 s k = if s = sh ∧ k = tZ a 18 sh then some (38, tZ a 29 0) else tR a 18 s k := fun s k => (dR ta (S := [18]) (P := []) (s := 18) (by decide) (by simp) s k).trans (pr s k)
  have yc := dC ta (S := [18]) (P := []) (s := 18) (by decide) (by simp)
  have hAs2 : As a2 b2 := by
    refine ⟨fun s hs => ?_, fun p hp => ?_⟩
    · rw [dZ ca (S := [27]) (P := []) (s := 27) (by decide) (by simp)] at hs
      have h1 := hAs.1 s hs
      by_cases e : s = sh
      · subst e
        refine ⟨?_, ?_⟩
        · unfold capOK at pc ⊢
          rw [yc, dZ ta (S := [18]) (P := []) (s := 18) (by decide) (by simp)]
          exact pc
        · rw [y18, if_pos rfl, hz, askL_succ, if_pos ⟨s2, s0⟩, askL_old o2]
          exact list_push (tR a 18 s) (fun p => some (38, p)) h1.2 (fun k hk => by rw [yr, if_neg (fun q => by omega)]) (by rw [yr, if_pos ⟨rfl, rfl⟩])
      · have ne2 : ¬ (tI b2 87 0 (10 * tZ a 29 0 + 2) = Int32.ofNat s ∧ tI b2 87 0 (10 * tZ a 29 0) = 1) := fun q => by
          rw [s2] at q
          exact e (o_inj (by omega) (by omega) q.1).symm
        unfold As1 capOK at *
        rw [yc, pk s e, y18, if_neg e, hz, askL_succ, if_neg ne2, List.append_nil, askL_old o2, show tR a2 18 s = tR a 18 s from funext (fun k => by rw [yr, if_neg (fun q => e q.1)])]
        exact h1
    · rw [hz] at hp
      rw [i95]
      by_cases e : p = tZ a 29 0
      · subst e
        rw [i87, v6]
        exact ⟨tick_3k hA.1, Int32.le_refl _⟩
      · rw [o2 _ (by omega)]
        exact hAs.2 p (by omega)
  have gq2 : groQ b b2 := groQ_t (groQ_c cY (by decide +kernel)) sg
  obtain ⟨hA2, hPS, z27', -, hO2⟩ := pre_pay (κ := 1) hA hM hR2 hAs2 h200 ca cb (by decide) (by decide) (by decide) (by decide) gq2 hz o2 (by rw [askN_succ, s0, askN_old o2]; exact Nat.le_refl _) (Or.inr rfl) (by
    unfold Kc Kb
    rw [tn, tn, tn, tn, if_pos rfl, if_neg (by decide), if_neg (by decide), if_neg (by decide), pn, pn, pn, nX, nX, nX, if_neg (by decide), if_neg (by decide), if_neg (by decide), sn, sn, sn, if_neg (by decide), if_pos rfl, if_neg (by decide), dN cY (S := [76]) (P := []) (s := 76) (by decide) (by simp), dN cY (S := [78]) (P := []) (s := 78) (by decide) (by simp)]
    omega)
  have hO2 := hO2 rfl
  have gm : ∀ f, ((f < 12 ∧ f ≠ 3) ∨ f = 14) → mv a2 11 (tN a 11) f = tI a2 11 (tN a 11) f := fun f hf => mv_at hf
  have qm : ∀ f, f < 14 → qv b2 (some (77, tN b 77)) f = tI b2 77 (tN b 77) f := fun f hf => qv_at hf
  have g0 : mv a2 11 (tN a 11) 0 = 1 := by rw [gm 0 (by omega), tm' 0 (by omega)]; rfl
  have g1 : mv a2 11 (tN a 11) 1 = Int32.ofNat (tZ a 29 0) := by rw [gm 1 (by omega), tm' 1 (by omega)]; rfl
  have g2 : mv a2 11 (tN a 11) 2 = Int32.ofNat cd := by rw [gm 2 (by omega), tm' 2 (by omega)]; rfl
  have g4 : mv a2 11 (tN a 11) 4 = Int32.ofNat c := by rw [gm 4 (by omega), tm' 4 (by omega)]; rfl
  have g5 : mv a2 11 (tN a 11) 5 = m := by rw [gm 5 (by omega), tm' 5 (by omega)]; rfl
  have g6 : mv a2 11 (tN a 11) 6 = st := by rw [gm 6 (by omega), tm' 6 (by omega)]; rfl
  have g11 : mv a2 11 (tN a 11) 11 = 0 := by rw [gm 11 (by omega), tm' 11 (by omega)]; rfl
  have g14 : mv a2 11 (tN a 11) 14 = 0 := by rw [gm 14 (by omega), tm' 14 (by omega)]; rfl
  have q0 : qv b2 (some (77, tN b 77)) 0 = 0 := by rw [qm 0 (by omega), sm 0 (by omega)]; rfl
  have q1 : qv b2 (some (77, tN b 77)) 1 = Int32.ofNat (tZ a 29 0) := by rw [qm 1 (by omega), sm 1 (by omega)]; rfl
  have q2 : qv b2 (some (77, tN b 77)) 2 = Int32.ofNat cd := by rw [qm 2 (by omega), sm 2 (by omega)]; rfl
  have q3 : qv b2 (some (77, tN b 77)) 3 = Int32.ofNat c := by rw [qm 3 (by omega), sm 3 (by omega)]; rfl
  have q4 : qv b2 (some (77, tN b 77)) 4 = m := by rw [qm 4 (by omega), sm 4 (by omega)]; rfl
  have q5 : qv b2 (some (77, tN b 77)) 5 = st := by rw [qm 5 (by omega), sm 5 (by omega)]; rfl
  have q7 : qv b2 (some (77, tN b 77)) 7 = 0 := by rw [qm 7 (by omega), sm 7 (by omega)]; rfl
  have q13 : qv b2 (some (77, tN b 77)) 13 = 0 := by rw [qm 13 (by omega), sm 13 (by omega)]; rfl
  have eP : pst b2 (tZ a 29 0) 2 = st := by
    rw [est]
    unfold pst
    rw [i87, i87, i87, i87]
  have hup : upM a2 b2 sh (mv a2 11 (tN a 11)) (qv b2 (some (77, tN b 77))) := ⟨by rw [g14]; rfl, by rw [q13, g14], by rw [q7, g11], by rw [q1, g1], Or.inl ⟨g0, q0, g14, g11, tZ a 29 0, cd, c, by omega, by rw [dZ ca (S := [28]) (P := []) (s := 28) (by decide) (by simp)]; exact hcd, hc, ⟨(i87 _).trans v1, s2, (i87 _).trans v4⟩, ⟨g1, g2, g4, by rw [g5, i87, v3], by rw [g6, eP]⟩, ⟨by rw [q2, g2], by rw [q3, g4], by rw [q4, g5], by rw [q5, g6]⟩⟩⟩
  have hsh2 : sh < tZ a2 27 0 := by rw [z27']; exact hsh
  obtain ⟨lim1, lim2⟩ := RmO_lim hO2 hsh2
  obtain ⟨a3, b3, x, y, hA3, hF3⟩ := up_al (sh := sh) (s := 11) (i := tN a 11) (q := (77, tN b 77)) hA2 hsh2 lim1 lim2 ⟨by decide +kernel, by decide +kernel⟩ (by rw [tn, if_pos rfl]; omega) (show isQ 77 from ⟨by decide +kernel, by decide +kernel⟩) (by show tN b 77 < tN b2 77; rw [sn, if_pos rfl]; omega) hup
  have hM3 := RmO_put hA2.1 hO2 (Or.inl rfl) hsh2 hF3
  have j86 : ∀ j, tI b2 86 0 j = tI Y 86 0 j := dIS sa (S := [86]) (P := []) (s := 86) (by decide) (by simp) 0
  obtain ⟨-, hv⟩ := Ln0_o hA.2.2.1.1 ca cb (by decide) (by decide) (by decide) gq2
  have hpt : PtE a b a3 b3 sh (qv b2 (some (77, tN b 77))) := PtE_of (kL_c ca cb (by decide) (by decide)) (fun c hc => (hv c hc).2) (fun c => funext fun k => dIS cb (S := [48]) (P := []) (s := 48) (by decide) (by simp) c k) i95 (dIS cb (S := [95]) (P := []) (s := 95) (by decide) (by simp) 0 2) z27' hsh hF3 gq2
  obtain ⟨f1, f2, f3, f4, f5, f6, f7, f8, -⟩ := hF3
  refine ⟨a3, b3, x, y, ⟨hA3, ⟨T, hM3⟩, Tx_s ht (sam0_t (sam0_c ca (by decide)) (sam0_c f2 (by decide))) (sam0_t (sam0_c cb (by decide)) (sam0_c f3 (by decide)))⟩, wa2.t f5, ⟨?_, ?_⟩, ⟨_, hpt, q0, q1, q13⟩, ?_, fun j => ?_, fun j => ?_, chF_t (chF_m ca (by decide) (by simp)) (chF_m f2 (by decide) (by simp)), chF_t (chF_m cb (by decide) (by simp)) (chF_m f3 (by decide) (by simp))⟩
  · rw [dIS f2 (S := [38]) (P := []) (s := 38) (by decide) (by simp), dIS ta (S := [38]) (P := []) (s := 38) (by decide) (by simp), dIS cP (S := [38]) (P := []) (s := 38) (by decide) (by simp)]
    exact u3
  · rw [f7 38 (by decide), tn, if_neg (by decide), pn, nX, if_pos rfl]
    omega
  · rw [dZ f2 (S := [29]) (P := []) (s := 29) (by decide) (by simp)]
    exact hz
  · rw [dIS f3 (S := [87]) (P := []) (s := 87) (by decide) (by simp), i87]
  · rw [dIS f3 (S := [86]) (P := []) (s := 86) (by decide) (by simp), j86]
