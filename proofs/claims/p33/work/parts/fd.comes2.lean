/-! ===== the law's end: the whole ===== -/
/-- nobody asks: nothing of the states changes -/
def StF (N : Nat) (f : Nat → Int32) (a b : TS) : Prop := tZ a 29 0 = N ∧ ∀ p, p < N → tI b 87 0 (10 * p) = f p ∧ f p ≠ 1
theorem StF_c {N : Nat} {f : Nat → Int32} {Da Db : List Nat} {Fa Fb : List (Nat × Nat)} {a a' b b' : TS} (h : StF N f a b) (ca : chF Da Fa a a') (cb : chF Db Fb b b') (hda : dpk Da Fa [29] [] = true) (hdb : dpk Db Fb [87] [] = true) : StF N f a' b' :=
  ⟨(dZ ca hda (s := 29) (by simp) 0).trans h.1, fun p hp => ⟨(dIS cb hdb (s := 87) (by simp) 0 _).trans (h.2 p hp).1, (h.2 p hp).2⟩⟩
theorem StF_L {N : Nat} {f : Nat → Int32} {a a' b b' : TS} (hE : EvL a b a' b') (h : StF N f a b) : StF N f a' b' := by
  have hD : EvD a b a' b' → StF N f a' b' := fun ⟨e, ca, _⟩ => by
    subst e
    exact StF_c h ca (chF_r [] [] b') (by decide) (by decide)
  rcases hE with (h1 | h1) | (h1 | h1)
  · obtain ⟨sh, g, q, b1, pre, post, -, -, -, -, c1, -, -, -, -, n, hHrd⟩ := h1
    obtain ⟨-, -, -, -, -, -, -, -, ca, cb, -⟩ := hHrd
    have cc : chF DhB FhB b b' := chF_t (chF_m c1 (by decide) (by simp)) cb
    exact StF_c h ca cc (by decide) (by decide)
  · exact hD h1
  · obtain ⟨sh, g, q, b1, pre, post, hsh, -, -, -, c1, -, hE, -, -, -, ca, cb, -⟩ := h1
    have g87 : ∀ j, tI b1 87 0 j = tI b 87 0 j := dIS c1 (S := [87]) (P := []) (s := 87) (by decide) (by simp) 0
    refine ⟨(dZ ca (S := [29]) (P := []) (s := 29) (by decide) (by simp) 0).trans h.1, fun p hp => ⟨?_, (h.2 p hp).2⟩⟩
    rcases hE with ⟨-, ⟨p', -, -, -, a1, a2, -⟩, -⟩ | ⟨-, -, -, cF⟩ | ⟨-, -, -, eb⟩
    · by_cases e : p = p'
      · subst e
        rw [a2 (by rw [g87, (h.2 p hp).1]; exact (h.2 p hp).2), g87]
        exact (h.2 p hp).1
      · rw [a1 p e, g87]
        exact (h.2 p hp).1
    · rw [dIS cF (S := [87]) (P := []) (s := 87) (by decide) (by simp) 0, g87]
      exact (h.2 p hp).1
    · rw [eb, g87]
      exact (h.2 p hp).1
  · exact hD h1
theorem StF_tick {N : Nat} {f : Nat → Int32} {a a' b b' : TS} (hE : TickE a b a' b') (h : StF N f a b) : StF N f a' b' := by
  obtain ⟨T, a0, b0, a1, b1, hT, ht, hC, -, hL, -, hM, -⟩ := hE
  obtain ⟨ca, cb⟩ := EvC_c hC
  refine hM (fun x y => StF N f x y) (fun x y x' y' e h => ?_) (hL (fun x y => StF N f x y) (fun _ _ _ _ e h => StF_L e h) (StF_c h ca cb (by decide) (by decide)))
  rcases e with e | e
  · obtain ⟨sh, p, o, q, g, -, hp, -, p0, -⟩ := e
    rw [h.1] at hp
    rw [(h.2 p hp).1] at p0
    exact absurd p0 (h.2 p hp).2
  · obtain ⟨sh, k, c, i, q, l, T, -, -, -, -, -, -, -, -, -, -, ⟨-, ca, cb, -⟩, -, -⟩ := e
    exact StF_c h ca cb (by decide) (by decide)
theorem shop_R {D : List Nat} {F : List (Nat × Nat)} {a a' b b' : TS} (hR : R0 a b) (hR' : R0 a' b') (ca : chF D F a a') (hd : dpk D [] [29, 38] [] = true) {p : Nat} (hp : p < tZ a 29 0) : tI b' 87 0 (10 * p + 2) = tI b 87 0 (10 * p + 2) := by
  have z29 : tZ a' 29 0 = tZ a 29 0 := (ca 29 (dpk_S hd (by simp)).1).2.2.2.2.1 0
  obtain ⟨-, -, -, ⟨s, s1, s2, s3⟩, -⟩ := (r_P' hR).2.2.2.2.1 p hp
  obtain ⟨-, -, -, ⟨u, u1, u2, u3⟩, -⟩ := (r_P' hR').2.2.2.2.1 p (by omega)
  have e : tR a' 38 p 2 = tR a 38 p 2 := (ca 38 (dpk_S hd (by simp)).1).2.2.1 p 2
  rw [e, s2] at u2
  rw [s3, u3, (Prod.mk.inj (Option.some.inj u2)).2]
theorem AllS_ticks {a a' b b' : TS} {j : Nat} (hR : R0 a b) (hR' : R0 a' b') (hS : StpE TickE a b a' b') (hN : NoAsk a b) (h : AllS a b j) : AllS a' b' j ∧ NoAsk a' b' := by
  obtain ⟨ca, cb⟩ := Fr_ticks hS
  have z29 : tZ a' 29 0 = tZ a 29 0 := dZ ca dpk_k1 (s := 29) (by simp) 0
  have hst := hS (fun x y => StF (tZ a 29 0) (fun p => tI b 87 0 (10 * p)) x y) (fun _ _ _ _ e h => StF_tick e h) ⟨rfl, fun p hp => ⟨rfl, hN p hp⟩⟩
  have e70 : ∀ p, tI b' 70 0 p = tI b 70 0 p := dIS cb (S := [70]) (P := []) (s := 70) (by decide) (by simp) 0
  refine ⟨fun p s hp hs h2 h0 => ?_, fun p hp => ?_⟩
  · rw [z29] at hp
    rw [shop_R hR hR' ca (by decide) hp] at h2
    rw [(hst.2 p hp).1] at h0
    rw [e70]
    exact h p s hp hs h2 h0
  · rw [z29] at hp
    rw [(hst.2 p hp).1]
    exact hN p hp
set_option maxHeartbeats 4000000 in
/-- the law's end -/
theorem x331 {a0 a b : TS} {w : Hp} {u T L n : Nat} {t : List Int32} (h : IL a0 a b u T L t) (hL37 : L ≤ 37) (hT3 : T + 460 ≤ 3000) (hwt : WT w n t) : ∃ a' b', Ex 331 [aR (some (96, 0)), aR (some (100, 0)), aR (some (101, 0))] (enc 1 a w) = some (.inl (some (aI 1)), enc 1 a' w) ∧ IL a0 a' b' u (T + 460) L t ∧ tI b' 95 0 6 = tI b 95 0 6 := by
  have hI := h
  obtain ⟨put, D, k, ⟨h1, h2, h3, h4⟩, hC, hT, hM, hL, hK, hf, hF, hTL, hN, hW⟩ := hI
  obtain ⟨a1, b1, x1, hC1, w1, e5, z15, hc⟩ := oc_open hC
  have hI1 := IL_open h hC1 w1 z15 hc
  have e61 : tI b1 95 0 6 = tI b 95 0 6 := by
    rcases hc with ⟨-, -, eb⟩ | ⟨-, -, cb, -⟩
    · rw [eb]
    · exact dI cb (S := []) (P := [(95, 6)]) (s := 95) (k := 6) (by decide) (by simp) 0
  have hnt := Nt_le hC.1.2.1 (r_P' hC.1.1).1
  have hP := (r_P' hC.1.1).1
  have hI1' := hI1
  obtain ⟨put1, D1, k1, -, -, hT1, -, -, hK1, -, hF1, -, -, -⟩ := hI1'
  obtain ⟨a2, b2, x2, hC2, w2, hS2, t2⟩ := oc_passes (m := 60) hC1 hT1 (by omega) (by omega) (by omega) (by omega)
  have hI2 := IL_ticks hI1 hC2 w2 hS2 t2
  obtain ⟨T', dd, t1', hJ1⟩ := TJb_0 hC1 hK1 (by rw [e5]; decide) (fun s hs => Nat.le_trans (hF1.1 s hs) hL37)
  have hT'3 := hJ1.1.2.2.1.2.1
  have eT := o_inj (by omega) (by omega) (hT1.symm.trans t1')
  subst eT
  obtain ⟨hJ2, z27a, z29a⟩ := TJb_ticks hS2 ⟨T, hJ1⟩
  have hJ2 := TJb_T hJ2 (by omega) t2
  obtain ⟨hN2, hJ2'⟩ := TJb_new hC2 hJ2 (by omega)
  have eX : T + 60 - 10 = T + 50 := by omega
  rw [eX] at hJ2'
  obtain ⟨a3, b3, x3, hI3, hJ3, hA3, hN3, z27b, z29b, e63⟩ := co_36 (w := w) hwt (X := T + 50) (by omega) (tZ a2 27 0) 0 a2 b2 (by omega) hI2 hJ2' (fun p s _ hs => by omega) hN2
  have hI3' := hI3
  obtain ⟨put3, D3, k3, -, hC3, hT3', -, -, -, -, -, hTL3, -, -⟩ := hI3'
  obtain ⟨a4, b4, x4, hC4, w4, hS4, t4⟩ := oc_passes (m := 200) hC3 hT3' (by omega) (by omega) (by omega) (by omega)
  have hI4 := IL_ticks hI3 hC4 w4 hS4 t4
  obtain ⟨hJ4, z27c, z29c⟩ := TJb_ticks hS4 ⟨_, hJ3⟩
  obtain ⟨hA4, hN4⟩ := AllS_ticks hC3.1.1 hC4.1.1 hS4 hN3 hA3
  obtain ⟨a5, b5, x5, hC5, w5, hS5, t5⟩ := oc_passes (m := 200) hC4 t4 (by omega) (by omega) (by omega) (by omega)
  have hI5 := IL_ticks hI4 hC5 w5 hS5 t5
  obtain ⟨hJ5, z27d, z29d⟩ := TJb_ticks hS5 hJ4
  obtain ⟨hA5, hN5⟩ := AllS_ticks hC4.1.1 hC5.1.1 hS5 hN4 hA4
  have hJ5 := TJb_T hJ5 (by omega) t5
  have hEnd : EndL a5 b5 := TJb_end hJ5 (by omega)
  have e62 : tI b2 95 0 6 = tI b1 95 0 6 := dI (Fr_ticks hS2).2 dpk_k2 (s := 95) (k := 6) (by simp) 0
  have e64 : tI b4 95 0 6 = tI b3 95 0 6 := dI (Fr_ticks hS4).2 dpk_k2 (s := 95) (k := 6) (by simp) 0
  have e65 : tI b5 95 0 6 = tI b4 95 0 6 := dI (Fr_ticks hS5).2 dpk_k2 (s := 95) (k := 6) (by simp) 0
  have eT5 : T + 60 + 200 + 200 = T + 460 := by omega
  have hI5' := hI5
  obtain ⟨put5, D5, k5, ⟨h51, -, h53, h54⟩, -, -, hM5, hL5, -, -, -, hTL5, -, -⟩ := hI5'
  obtain ⟨⟨q0, q1, q2, q3, q4⟩, ⟨sA, sS, sC⟩, s3, s4, s5, s6⟩ := hTL5
  obtain ⟨-, -, -, -, -, -, b6⟩ := (hC5.1.1.2.2.2.2.2.2.2.2.2.2.2.2.1 : RH a5 b5)
  have hnP5 := (r_P' hC5.1.1).1
  have q4' : t.getD 4 0 = 0 ∨ t.getD 4 0 = 1 := by rw [q4]; exact bit01 b6
  have hLI : t.getD 4 0 = 0 → LIb a5 b5 := fun w => hL5.2 (q4.symm.trans w)
  have hAe : AllS a5 b5 (tZ a5 27 0) := by
    have : tZ a5 27 0 = tZ a2 27 0 := z27d.trans (z27c.trans z27b)
    rw [this]
    exact hA5
  have hPe : t.getD 4 0 = 0 → (∀ p, p < tZ a5 29 0 → (hI b5 p 8 ≠ 0 ↔ okG b5 p = true)) ∧ ∀ n, n < 1000 → hI b5 n 12 = 0 := fun w => end_p hC5.1.1 hM5 (hLI w) hEnd hN5 hAe
  have hPe2 : t.getD 4 0 = 0 → (∀ n, n < 1000 → hI b5 n 8 ≠ 0 → n < tZ a5 29 0 ∧ hA b5 n 64 0 = tI b5 87 0 (10 * n + 1)) ∧ ∀ n, n < 1000 → hI b5 n 12 = 0 := fun w => ⟨fun n hn h8 => by
    obtain ⟨y1, -, -, y4, -⟩ := LI_pst (hLI w) n hn h8
    exact ⟨y1, y4⟩, (hPe w).2⟩
  have c116 := co_116 hC5 hwt q1 (by omega) hEnd (tZ a5 27 0) 0 (by omega)
  have c179 := co_179 hC5 hwt q3 hnP5 hN5 q4' hPe (tZ a5 29 0) 0 (by omega)
  have c282 := co_282 hC5 hwt hM5 q0 q3 s3 (by omega) (by omega) (fun k hk => (s4 k hk).1) hPe2 (tZ a5 26 0) 0 (by omega)
  have g1 := tb_get (a := a3) (i := 1) (x := 1) hwt rfl (by omega)
  rw [hTL3.1.2.1] at g1
  have d10 : ∀ w, Ex 321 [aR (some (96, 0)), aI 10, aI 1, aI 0, aI 0, aI 0] (enc 1 a w) = some (.inl (some (aI (Int32.ofNat (tZ a 15 0)))), enc 1 a1 w) := fun w => dn_10 (fun z => by rw [if_pos rfl]; exact x1 z)
  have d60 : ∀ w, Ex 321 [aR (some (96, 0)), aI 8, aI 60, aI 0, aI 0, aI 0] (enc 1 a1 w) = some (.inl (some (aI (Int32.ofNat (T + 60)))), enc 1 a2 w) := fun w => dn_8 x2
  have d200 : ∀ w, Ex 321 [aR (some (96, 0)), aI 8, aI 200, aI 0, aI 0, aI 0] (enc 1 a3 w) = some (.inl (some (aI (Int32.ofNat (T + 60 + 200)))), enc 1 a4 w) := fun w => dn_8 x4
  have d400 : ∀ w, Ex 321 [aR (some (96, 0)), aI 8, aI 200, aI 0, aI 0, aI 0] (enc 1 a4 w) = some (.inl (some (aI (Int32.ofNat (T + 60 + 200 + 200)))), enc 1 a5 w) := fun w => dn_8 x5
  refine ⟨a5, b5, ?_, by rw [← eT5]; exact hI5, e65.trans (e64.trans (e63.trans (e62.trans e61)))⟩
  refine (X_sl (by decide +kernel) rfl).trans ((lf_331_0 ..).trans ?_)
  rw [d10, cI_v, if_neg (o_lt0 (by omega)), d60, cI_v, if_neg (pos_ofn (by omega) (by omega))]
  refine x3.trans ?_
  rw [← z27b, lf_331_36, g1, Option.bind_some, if_pos (Int32.le_refl _), if_neg (by decide), d200, cI_v, if_neg (pos_ofn (by omega) (by omega)), d400, cI_v, if_neg (pos_ofn (by omega) (by omega))]
  exact c116.trans (c179.trans c282)
