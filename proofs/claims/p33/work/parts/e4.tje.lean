/-! ===== when what is kept was put: always, and at the end ===== -/
def KlB (a b : TS) : Prop := ∃ T, T ≤ 3000 ∧ tI b 95 0 1 = Int32.ofNat T ∧ ∀ s, s < tZ a 27 0 → ∀ x ∈ kL a b s, ∃ n, n ≤ T ∧ x.2.2 = Int32.ofNat n
theorem KlB_sub {a a' b b' : TS} (h : KlB a b) (e1 : tI b' 95 0 1 = tI b 95 0 1) (z : tZ a' 27 0 = tZ a 27 0) (hk : ∀ s, s < tZ a 27 0 → ∀ x ∈ kL a' b' s, x ∈ kL a b s ∨ x.2.2 = tI b 95 0 1) : KlB a' b' := by
  obtain ⟨T, t1, t2, t3⟩ := h
  refine ⟨T, t1, e1.trans t2, fun s hs x hx => ?_⟩
  rw [z] at hs
  rcases hk s hs x hx with w | w
  · exact t3 s hs x w
  · exact ⟨T, Nat.le_refl _, w.trans t2⟩
theorem KlB_c {Da Db : List Nat} {Fa Fb : List (Nat × Nat)} {a a' b b' : TS} (h : KlB a b) (ca : chF Da Fa a a') (cb : chF Db Fb b b') (hda : dpk Da Fa [19, 27] [] = true) (hdb : dpk Db Fb [66, 67] [(95, 1)] = true) : KlB a' b' :=
  KlB_sub h (dI cb hdb (s := 95) (k := 1) (by simp) 0) (dZ ca hda (s := 27) (by simp) 0) (fun s _ x hx => by
    rw [kL_c ca cb (dpk_sub hda (by simp) (by simp)) (dpk_sub hdb (by simp) (by simp)) s] at hx
    exact Or.inl hx)
theorem KlB_keep {a a' b b' : TS} {sh : Nat} {o q : Nat × Nat} (h : KlB a b) (e1 : tI b' 95 0 1 = tI b 95 0 1) (z : tZ a' 27 0 = tZ a 27 0) (hE : KeepE a b a' b' sh (some o) (some q)) : KlB a' b' :=
  KlB_sub h e1 z (fun s hs x hx => by
    by_cases e : s = sh
    · subst e
      rw [hE.1] at hx
      rcases List.mem_append.mp hx with w | w
      · exact Or.inl w
      · rw [List.mem_singleton.mp w]
        exact Or.inr rfl
    · rw [hE.2 s hs e] at hx
      exact Or.inl hx)
theorem KlB_L {a a' b b' : TS} (hE : EvL a b a' b') (h : KlB a b) : KlB a' b' := by
  have hD : EvD a b a' b' → KlB a' b' := fun ⟨e, ca, _⟩ => by
    subst e
    exact KlB_c h ca (chF_r [] [] b') (by decide) (by decide)
  rcases hE with (h1 | h1) | (h1 | h1)
  · obtain ⟨sh, g, q, b1, pre, post, -, -, -, -, c1, -, -, -, -, n, hHrd⟩ := h1
    obtain ⟨-, -, -, -, -, -, -, -, ca, cb, -⟩ := hHrd
    have cc : chF DhB FhB b b' := chF_t (chF_m c1 (by decide) (by simp)) cb
    exact KlB_c h ca cc (by decide) (by decide)
  · exact hD h1
  · obtain ⟨sh, g, q, b1, pre, post, hsh, -, -, -, c1, -, hE, -, -, -, ca, cb, -⟩ := h1
    have cc : chF (DrB ++ [49, 50, 51, 52, 74, 75]) [] b b' := chF_t (chF_m c1 (by decide) (by simp)) (chF_m cb (by decide) (by simp))
    have kb1 : ∀ s, kL a b1 s = kL a b s := fun s => kL_c (chF_r [] [] a) c1 (by decide) (by decide) s
    refine KlB_sub h (dI cc (S := []) (P := [(95, 1)]) (s := 95) (k := 1) (by decide) (by simp) 0) (dZ ca (S := [27]) (P := []) (s := 27) (by decide) (by simp) 0) (fun s hs x hx => Or.inl ?_)
    rcases hE with ⟨-, -, hkl⟩ | ⟨-, -, hF, -⟩ | ⟨-, -, ea, eb⟩
    · rw [hkl s, kb1] at hx; exact hx
    · by_cases e : s = sh
      · subst e
        rcases hF.2 with ⟨j, -, -, w⟩ | ⟨-, w⟩
        · rw [w, kb1] at hx
          exact er_mem x _ j hx
        · rw [w, kb1] at hx; exact hx
      · rw [hF.1 s hs e, kb1] at hx; exact hx
    · rw [ea, eb, kb1] at hx; exact hx
  · exact hD h1
theorem KlB_M {a a' b b' : TS} (hE : EvM a b a' b') (h : KlB a b) : KlB a' b' := by
  rcases hE with h1 | h1
  · obtain ⟨sh, p, o, q, g, -, -, -, -, -, -, -, hKe, -, -, -, -, -, -, -, -, ⟨-, ca, cb, -⟩, -, -⟩ := h1
    exact KlB_keep h (dI cb (S := []) (P := [(95, 1)]) (s := 95) (k := 1) (by decide) (by simp) 0) (dZ ca (S := [27]) (P := []) (s := 27) (by decide) (by simp) 0) hKe
  · obtain ⟨sh, k, c, i, q, l, T, hsh, hk, -, ht, -, -, hkl, hko, -, -, ⟨-, ca, cb, -⟩, -, -⟩ := h1
    refine KlB_sub h (dI cb (S := []) (P := [(95, 1)]) (s := 95) (k := 1) (by decide) (by simp) 0) (dZ ca (S := [27]) (P := []) (s := 27) (by decide) (by simp) 0) (fun s hs x hx => ?_)
    by_cases e : s = sh
    · subst e
      rw [hkl] at hx
      rcases List.mem_or_eq_of_mem_set hx with w | w
      · exact Or.inl w
      · rw [w]
        exact Or.inr ht.symm
    · rw [hko s hs e] at hx
      exact Or.inl hx
theorem KlB_tick {a a' b b' : TS} (hE : TickE a b a' b') (h : KlB a b) : KlB a' b' := by
  obtain ⟨T, a0, b0, a1, b1, hT, ht, hC, -, hL, -, hM, -⟩ := hE
  have h0 : KlB a0 b0 := by
    obtain ⟨ca, cb⟩ := EvC_c hC
    obtain ⟨T', hT', ht', -, eb, -, -⟩ := hC
    obtain ⟨T2, t1, t2, t3⟩ := h
    have e := o_inj (by omega) (by omega) (t2.symm.trans ht')
    subst e
    refine ⟨T2 + 1, by omega, by rw [eb, tI_sI, if_pos ⟨rfl, rfl, rfl⟩], fun s hs x hx => ?_⟩
    rw [dZ ca (S := [27]) (P := []) (s := 27) (by decide) (by simp) 0] at hs
    rw [kL_c ca cb (by decide) (by decide) s] at hx
    obtain ⟨n, n1, n2⟩ := t3 s hs x hx
    exact ⟨n, by omega, n2⟩
  exact hM KlB (fun _ _ _ _ e h => KlB_M e h) (hL KlB (fun _ _ _ _ e h => KlB_L e h) h0)
theorem KlB_ticks {a a' b b' : TS} (hE : StpE TickE a b a' b') (h : KlB a b) : KlB a' b' := hE KlB (fun _ _ _ _ e h => KlB_tick e h) h
theorem KlB_S {a a' b b' : TS} (hE : EvS a b a' b') (h : KlB a b) : KlB a' b' := by
  obtain ⟨sh, p, o, q, g, -, -, -, -, -, -, ⟨hKe, -⟩, -, ca, cb, -, -⟩ := hE
  exact KlB_keep h (dI cb (S := []) (P := [(95, 1)]) (s := 95) (k := 1) (by decide) (by simp) 0) (dZ ca (S := [27]) (P := []) (s := 27) (by decide) (by simp) 0) hKe
theorem KlB_Ss {a a' b b' : TS} (hE : StpE EvS a b a' b') (h : KlB a b) : KlB a' b' := hE KlB (fun _ _ _ _ e h => KlB_S e h) h
theorem KlB_B {a a' b b' : TS} (hE : EvB a b a' b') (h : KlB a b) : KlB a' b' := by
  obtain ⟨sh, p, m, o, q, g, -, -, ⟨hKe, -⟩, -, ca, cb, -, -⟩ := hE
  exact KlB_keep h (dI cb (S := []) (P := [(95, 1)]) (s := 95) (k := 1) (by decide) (by simp) 0) (dZ ca (S := [27]) (P := []) (s := 27) (by decide) (by simp) 0) hKe
theorem KlB_F {a a' b b' : TS} (hE : EvF a b a' b') (h : KlB a b) : KlB a' b' := by
  obtain ⟨sh, g, hsh, ⟨-, -, -, hkl, hg⟩, -, e6, ca, cb, hAl, hAl'⟩ := hE
  exact KlB_c h ca cb (by decide) (by decide)
theorem KlB_pay {a a' b b' : TS} {cd sh : Nat} {m pin : Int32} (hE : PayP a b a' b' cd sh m pin) (h : KlB a b) : KlB a' b' := by
  obtain ⟨c, -, -, -, -, -, -, -, -, ca, cb, -⟩ := hE
  exact KlB_c h ca cb (by decide) (by decide)
/-- what is kept, of which sort -/
theorem kept_k {a b : TS} (hK : Kp a b) {s : Nat} (hs : s < tZ a 27 0) {k : Nat → Int32} {l : Int32} (h : oKw a b s k l) : k 0 ≠ 0 ∧ k 13 = 0 := by
  obtain ⟨x, x1, x2, -⟩ := h
  obtain ⟨i, i1, i2⟩ := List.mem_map.mp x1
  have i1 := List.mem_range.mp i1
  obtain ⟨-, -, -, k4, -⟩ := hK.1 s hs
  obtain ⟨c, j, q', o1, o2, -, -, -, -, -, ⟨-, o6, -, -, o9⟩, m14, kc⟩ := k4 i i1
  have hr : qv b x.2.1 = qv b (some q') := by rw [← i2]; show qv b (tR b 66 0 (500 * s + i)) = _; rw [o2]
  rw [← x2, hr]
  refine ⟨?_, o6.trans m14⟩
  rcases o9 with ⟨y0, y1, -⟩ | ⟨y0, y1, -⟩ | ⟨y0, y1, -⟩ | ⟨y0, y1, -⟩
  · rcases kc with ⟨z, -⟩ | ⟨z, -⟩ | ⟨z, -⟩ <;> (rw [y0] at z; exact absurd z (by decide))
  all_goals (rw [y1]; decide)
/-- the quiet begins -/
theorem TJb_0 {a b : TS} {C : Nat} (hC : Core a b C) (hK : KlB a b) (hop : tI b 95 0 5 ≠ 0) (h37 : ∀ s, s < tZ a 27 0 → lostN b s ≤ 37) : ∃ T d, tI b 95 0 1 = Int32.ofNat T ∧ TJb a b T T d := by
  obtain ⟨T, hT, ht, hnd⟩ := Core_nd hC
  have hAl := hC.1
  obtain ⟨-, -, ⟨-, d, d1, d2, d3⟩, -⟩ := (hAl.1.2.2.2.2.2.2.2.2.2.2.2.2.1 : RH a b)
  obtain ⟨T', t1, t2, t3⟩ := hK
  have e := o_inj (by omega) (by omega) (ht.symm.trans t2)
  subst e
  have kl : ∀ s, s < tZ a 27 0 → ∀ k l, oKw a b s k l → ∃ n, n ≤ T ∧ l = Int32.ofNat n := by
    intro s hs k l ⟨x, x1, _, x3⟩
    obtain ⟨n, n1, n2⟩ := t3 s hs x x1
    exact ⟨n, n1, x3.symm.trans n2⟩
  refine ⟨T, d, ht, ⟨KpQ_of hAl.2.2.2.2, hop, ⟨hT, hT, ht, d3, d1, d2⟩, fun _ _ _ => by omega, fun s hs => ?_⟩, ?_, Or.inl (by omega)⟩
  · refine ⟨h37 s hs, TI1_0 (h37 s hs) (fun k l hl w => ?_), fun t g w => ?_, fun t g w => ?_, fun k l w => ?_⟩
    · obtain ⟨n, n1, n2⟩ := kl s hs k _ w
      have := o_inj (by omega) (by omega) n2
      omega
    · obtain ⟨d', e1, e2, e3⟩ := hnd (2 * s) (by omega) _ w
      exact ⟨d', e1, by omega, by omega⟩
    · obtain ⟨d', e1, e2, e3⟩ := hnd (2 * s + 1) (by omega) _ w
      exact ⟨d', e1, by omega, by omega⟩
    · obtain ⟨n, n1, n2⟩ := kl s hs k l w
      exact ⟨⟨n, n2, n1, Or.inr (by omega)⟩, kept_k hAl.2.2.2.2 hs w⟩
  · intro p hp
    obtain ⟨⟨n, n1, n2⟩, n3⟩ := hAl.2.2.2.1.2 p hp
    refine ⟨n, ?_, n2⟩
    rw [n2, ht, Int32.le_iff_toInt_le, Int32.toInt_ofNat_of_lt (by omega), Int32.toInt_ofNat_of_lt (by omega)] at n3
    omega
theorem TJb_ticks {a a' b b' : TS} {X d : Nat} (hE : StpE TickE a b a' b') (h : ∃ T, TJb a b X T d) : (∃ T, TJb a' b' X T d) ∧ tZ a' 27 0 = tZ a 27 0 ∧ tZ a' 29 0 = tZ a 29 0 := by
  refine hE (fun x y => (∃ T, TJb x y X T d) ∧ tZ x 27 0 = tZ a 27 0 ∧ tZ x 29 0 = tZ a 29 0) (fun x y x' y' e ⟨⟨T, w⟩, z1, z2⟩ => ?_) ⟨h, rfl, rfl⟩
  obtain ⟨w1, w2, w3⟩ := TJ_tick e w
  exact ⟨⟨T + 1, w1⟩, w2.trans z1, w3.trans z2⟩
theorem TJb_T {a b : TS} {X d T : Nat} (h : ∃ T, TJb a b X T d) (hT : T ≤ 3000) (ht : tI b 95 0 1 = Int32.ofNat T) : TJb a b X T d := by
  obtain ⟨T', w⟩ := h
  have := w.1.2.2.1
  have e := o_inj (by omega) (by omega) (ht.symm.trans this.2.2.1)
  rw [e]
  exact w
/-- nobody asks any more, and the account begins anew -/
theorem TJb_new {a b : TS} {X T d C : Nat} (hC : Core a b C) (h : TJb a b X T d) (hX : X + 10 < T) : (∀ p, p < tZ a 29 0 → tI b 87 0 (10 * p) ≠ 1) ∧ TJb a b (T - 10) T d := by
  obtain ⟨⟨hQ, hop, ⟨t1, t2, t3, t4, t5, t6⟩, has, hs⟩, hB, hy⟩ := h
  have hna : ∀ p, p < tZ a 29 0 → tI b 87 0 (10 * p) ≠ 1 := fun p hp w => by have := has p hp w; omega
  obtain ⟨T', hT', ht', hnd⟩ := Core_nd hC
  have e := o_inj (by omega) (by omega) (t3.symm.trans ht')
  subst e
  have hy2 : ∀ s, s < tZ a 27 0 → ∀ k l, oKw a b s k l → ∃ n, l = Int32.ofNat n ∧ n ≤ 3000 ∧ T < n + 10 := by
    rcases hy with y | ⟨y, -⟩
    · omega
    · exact y
  refine ⟨hna, ⟨hQ, hop, ⟨by omega, t2, t3, t4, t5, t6⟩, fun p hp w => absurd w (hna p hp), fun s hs' => ?_⟩, fun p hp => ?_, Or.inr ⟨hy2, fun p hp w => absurd w (hna p hp)⟩⟩
  · obtain ⟨j1, j2, j3, j4, j5⟩ := hs s hs'
    refine ⟨j1, TI1_new j2 hX (fun k l hl w => ?_), fun t g w => ?_, fun t g w => ?_, fun k l w => ?_⟩
    · obtain ⟨⟨n, n1, n2, -⟩, -⟩ := j5 k _ w
      obtain ⟨n', m1, m2, m3⟩ := hy2 s hs' k _ w
      have e1 := o_inj (by omega) (by omega) n1
      have e2 := o_inj (by omega) (by omega) m1
      omega
    · obtain ⟨d', e1, e2, e3⟩ := hnd (2 * s) (by omega) _ w
      exact ⟨d', e1, by omega, by omega⟩
    · obtain ⟨d', e1, e2, e3⟩ := hnd (2 * s + 1) (by omega) _ w
      exact ⟨d', e1, by omega, by omega⟩
    · obtain ⟨⟨n, n1, n2, -⟩, n4, n5⟩ := j5 k l w
      exact ⟨⟨n, n1, n2, Or.inr (by omega)⟩, n4, n5⟩
  · obtain ⟨m, m1, m2⟩ := hB p hp
    exact ⟨m, by omega, m2⟩
set_option maxHeartbeats 2000000 in
/-- batches are sent -/
theorem TJb_S {a a' b b' : TS} {X T d : Nat} (hT : T ≤ X + 10) (hE : EvS a b a' b') (h : TJb a b X T d) : TJb a' b' X T d := by
  obtain ⟨sh, p, o, q, g, hsh, hp, p2, p0, p70, h70, ⟨hKe, q1, q2, qg, hv, e48, ho, hg⟩, ⟨g0, g1, g6, -, g13⟩, ca, cb, hAl, hAl'⟩ := hE
  obtain ⟨⟨hQ, hop, ⟨t1, t2, t3, t4, t5, t6⟩, has, hs⟩, hB, hy⟩ := h
  have z27 : tZ a' 27 0 = tZ a 27 0 := dZ ca (S := [27]) (P := []) (s := 27) (by decide) (by simp) 0
  have z29 : tZ a' 29 0 = tZ a 29 0 := dZ ca (S := [29]) (P := []) (s := 29) (by decide) (by simp) 0
  obtain ⟨f5, f1, f2⟩ := o952_c cb (by decide)
  have f87 : ∀ k, tI b' 87 0 k = tI b 87 0 k := dIS cb (S := [87]) (P := []) (s := 87) (by decide) (by simp) 0
  obtain ⟨k1, k2, k3⟩ := oK_keep hQ hKe hg
  refine ⟨⟨(KM_keep hQ hKe q1 q2 hg z27 hsh).1, by rw [f5]; exact hop, ⟨t1, t2, f1.trans t3, f2.trans t4, t5, t6⟩, fun r hr w => hT, fun s hs' => ?_⟩, fun r hr => ?_, ?_⟩
  · rw [z27] at hs'
    by_cases e : s = sh
    · subst e
      rw [qg, t3] at k2 k3
      exact TJs_put (hs s hs') t1 t2 t6 t3 t4 hv (ho (2 * s + 1) (by omega) (by omega)).1 e48 (ho (2 * s + 1) (by omega) (by omega)).2 g13 (by rw [g0]; decide) k3 (fun k l w => (k2 hs' k l w).imp id (fun w => ⟨w.1, w.2, Or.inl hT⟩))
    · exact TJs_o (hs s hs') (ho (2 * s) (by omega) (by omega)).1 (ho (2 * s + 1) (by omega) (by omega)).1 (ho (2 * s) (by omega) (by omega)).2 (ho (2 * s + 1) (by omega) (by omega)).2 (k1 s hs' e)
  · rw [f87]
    exact hB r (by omega)
  · rcases hy with y | ⟨y1, y2⟩
    · exact Or.inl y
    · refine Or.inr ⟨fun s hs' k l w => ?_, fun r hr w => by rw [f87] at w; exact y2 r (by omega) w⟩
      rw [z27] at hs'
      by_cases e : s = sh
      · subst e
        rcases k2 hs' k l w with w | ⟨-, w⟩
        · exact y1 s hs' k l w
        · exact ⟨T, w.trans t3, by omega, by omega⟩
      · exact y1 s hs' k l (k1 s hs' e k l w)
theorem TJb_Ss {a a' b b' : TS} {X T d : Nat} (hT : T ≤ X + 10) (hE : StpE EvS a b a' b') (h : TJb a b X T d) : TJb a' b' X T d := hE (fun x y => TJb x y X T d) (fun _ _ _ _ e h => TJb_S hT e h) h
/-- at the end nothing is kept, and nothing is on a line -/
theorem TJb_end {a b : TS} {X T d : Nat} (h : TJb a b X T d) (hT : X + 408 < T) : ∀ s, s < tZ a 27 0 → tZ a 19 s = 0 ∧ vQ b (2 * s) = [] ∧ vQ b (2 * s + 1) = [] := by
  obtain ⟨⟨hQ, hop, ⟨t1, t2, t3, t4, t5, t6⟩, has, hs⟩, hB, hy⟩ := h
  intro s hs'
  obtain ⟨j1, j2, j3, j4, j5⟩ := hs s hs'
  refine ⟨?_, ?_, ?_⟩
  · refine Decidable.byContradiction (fun w => ?_)
    have h0 : 0 < tZ a 19 s := by omega
    have hmem : kR3 a b s 0 ∈ kL a b s := List.mem_map.mpr ⟨0, List.mem_range.mpr h0, rfl⟩
    have hk : oKw a b s (qv b (kR3 a b s 0).2.1) (kR3 a b s 0).2.2 := ⟨_, hmem, rfl, rfl⟩
    obtain ⟨⟨n, n1, n2, -⟩, -⟩ := j5 _ _ hk
    rw [n1] at hk
    have := TI1_bd j2 (by omega) hk
    rcases hy with y | ⟨y, -⟩
    · omega
    · obtain ⟨n', m1, m2, m3⟩ := y s hs' _ _ hk
      have := o_inj (by omega) (by omega) m1
      omega
  · cases hq : vQ b (2 * s) with
    | nil => rfl
    | cons e l =>
      obtain ⟨n, n1, n2, n3⟩ := j3 e.1 e.2 (by unfold oUw; rw [hq]; exact List.mem_cons_self)
      omega
  · cases hq : vQ b (2 * s + 1) with
    | nil => rfl
    | cons e l =>
      obtain ⟨n, n1, n2, n3⟩ := j4 e.1 e.2 (by unfold oDw; rw [hq]; exact List.mem_cons_self)
      omega
