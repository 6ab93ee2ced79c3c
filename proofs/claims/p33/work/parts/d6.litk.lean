/-! ===== who was granted what: a tick ===== -/
theorem NoDue_now {a b : TS} {T : Nat} (h : NoDue a b T) (hT : T ≤ 3000) (ht : tI b 95 0 1 = Int32.ofNat T) : ∀ d g, oUp a b d g → d ≠ tI b 95 0 1 := by
  intro d g ⟨s, s1, s2⟩ e
  obtain ⟨d', d1, d2, d3⟩ := h (2 * s) (by omega) _ s2
  have d1 : d = Int32.ofNat d' := d1
  have := o_inj (by omega) (by omega) (d1.symm.trans (e.trans ht))
  omega
set_option maxHeartbeats 2000000 in
theorem LIc_C {a a' b b' : TS} {T : Nat} (hE : EvC a b a' b') (hT : T ≤ 3000) (ht : tI b 95 0 1 = Int32.ofNat T) (hnd : NoDue a b T) (h : LIc a b) : LIc a' b' := by
  obtain ⟨ca, cb⟩ := EvC_c hE
  obtain ⟨-, -, -, -, -, hAl, hAl'⟩ := hE
  have z27 : tZ a' 27 0 = tZ a 27 0 := dZ ca (S := [27]) (P := []) (s := 27) (by decide) (by simp) 0
  have z29 : tZ a' 29 0 = tZ a 29 0 := dZ ca (S := [29]) (P := []) (s := 29) (by decide) (by simp) 0
  have hkl : ∀ s, s < tZ a 27 0 → kL a' b' s = kL a b s := fun s _ => kL_c ca cb (by decide) (by decide) s
  have hg : groQ b b' := groQ_c cb (by decide)
  have hv := (Ln0_o hAl.2.2.1.1 ca cb (by decide) (by decide) (by decide) hg).2
  have f5 := dI cb (S := []) (P := [(95, 5)]) (s := 95) (k := 5) (by decide) (by simp) 0
  have f6 := dI cb (S := []) (P := [(95, 6)]) (s := 95) (k := 6) (by decide) (by simp) 0
  have eH : ∀ n f, hI b' n f = hI b n f := hI_c cb (S := [53, 61]) (P := []) (by decide) (by simp) (by simp)
  have eA : ∀ n t f, t = 62 ∨ t = 63 ∨ t = 64 → hA b' n t f = hA b n t f := fun n t f ht => hA_c cb (S := [53, 62, 63, 64]) (P := []) (t := t) (by decide) (by simp) (by rcases ht with q | q | q <;> subst q <;> simp) n f
  refine ⟨KpQ_same h.1 z27 hkl hg, fun ht' => ?_⟩
  have hL := h.2 (f6.symm.trans ht')
  show LI (tZ a' 29 0) (oPf b') (oCt b') (oSe b') (hI b') (hA b') (oUp a' b') (oDn a' b') (oKp a' b') (oNt a') (tI b' 95 0 5 ≠ 0) (tI b' 95 0 1) (oSw b')
  rw [z29, oPf_c cb (by decide), oCt_c cb (by decide), oSe_c cb (by decide), oKp_same h.1 z27 hkl hg, oNt_s (NtS_of hAl.2.1 ca (by decide) (gro_c ca (by decide))), f5]
  have x := LI_clk (opn' := tI b 95 0 5 ≠ 0) (now' := tI b' 95 0 1) (swd' := oSw b') hL (NoDue_now hnd hT ht) (fun ⟨p, p1, p2⟩ => (LI_ntp hL p p1 p2).2)
  exact LI_less x (fun n f _ _ => eH n f) (fun n t f _ ht => eA n t f ht) (fun _ w => w) (fun d g ⟨s, s1, s2⟩ => by
    rw [z27] at s1
    rw [hv (2 * s) (by omega) |>.2] at s2
    exact ⟨s, s1, s2⟩) (fun d g ⟨s, s1, s2⟩ => by
    rw [z27] at s1
    rw [hv (2 * s + 1) (by omega) |>.2] at s2
    exact ⟨s, s1, s2⟩)
/-- a message is kept: what is kept then -/
theorem KM_keep {a a' b b' : TS} {sh : Nat} {o q : Nat × Nat} (hQ : KpQ a b) (hE : KeepE a b a' b' sh (some o) (some q)) (hq : isQ q.1) (hqi : q.2 < tN b' q.1) (hg : groQ b b') (z : tZ a' 27 0 = tZ a 27 0) (hsh : sh < tZ a 27 0) : KpQ a' b' ∧ ∀ g, oKp a' b' g ↔ oKp a b g ∨ g = qv b' (some q) := by
  have hqv : ∀ s, s < tZ a 27 0 → ∀ x ∈ kL a b s, qv b' x.2.1 = qv b x.2.1 := by
    intro s hs x hx
    obtain ⟨r, r1, r2, r3⟩ := hQ s hs x hx
    rw [r1]
    exact qv_gro hg r2 r3
  refine ⟨fun s hs x hx => ?_, fun g => ⟨fun ⟨s, s1, s2⟩ => ?_, fun w => ?_⟩⟩
  · rw [z] at hs
    by_cases e : s = sh
    · subst e
      rw [hE.1] at hx
      rcases List.mem_append.mp hx with w | w
      · obtain ⟨r, r1, r2, r3⟩ := hQ s hs x w
        exact ⟨r, r1, r2, Nat.lt_of_lt_of_le r3 (hg r.1 r2).1⟩
      · rw [List.mem_singleton.mp w]
        exact ⟨q, rfl, hq, hqi⟩
    · rw [hE.2 s hs e] at hx
      obtain ⟨r, r1, r2, r3⟩ := hQ s hs x hx
      exact ⟨r, r1, r2, Nat.lt_of_lt_of_le r3 (hg r.1 r2).1⟩
  · rw [z] at s1
    obtain ⟨x, x1, x2⟩ := List.mem_map.mp s2
    by_cases e : s = sh
    · subst e
      rw [hE.1] at x1
      rcases List.mem_append.mp x1 with w | w
      · exact Or.inl ⟨s, s1, List.mem_map.mpr ⟨x, w, (hqv s s1 x w).symm.trans x2⟩⟩
      · rw [List.mem_singleton.mp w] at x2
        exact Or.inr x2.symm
    · rw [hE.2 s s1 e] at x1
      exact Or.inl ⟨s, s1, List.mem_map.mpr ⟨x, x1, (hqv s s1 x x1).symm.trans x2⟩⟩
  · rcases w with ⟨s, s1, s2⟩ | w
    · obtain ⟨x, x1, x2⟩ := List.mem_map.mp s2
      refine ⟨s, by rw [z]; exact s1, List.mem_map.mpr ⟨x, ?_, (hqv s s1 x x1).trans x2⟩⟩
      by_cases e : s = sh
      · subst e
        rw [hE.1]
        exact List.mem_append_left _ x1
      · rw [hE.2 s s1 e]; exact x1
    · refine ⟨sh, by rw [z]; exact hsh, List.mem_map.mpr ⟨(some o, some q, tI b 95 0 1), ?_, w.symm⟩⟩
      rw [hE.1]
      exact List.mem_append_right _ (List.mem_singleton.mpr rfl)
/-- a put on the way up: what is on the lines -/
theorem up_put {a a' b b' : TS} {sh : Nat} {k td : Int32} {g : Nat → Int32} (z : tZ a' 27 0 = tZ a 27 0) (hsh : sh < tZ a 27 0) (hv : vQ b' (2 * sh) = vQ b (2 * sh) ++ laid k td g) (ho : ∀ c, c < 2 * tZ a 27 0 → c ≠ 2 * sh → vQ b' c = vQ b c) : (∀ d r, oUp a' b' d r → oUp a b d r ∨ r = g) ∧ (∀ d r, oDn a' b' d r → oDn a b d r) := by
  refine ⟨fun d r ⟨s, s1, s2⟩ => ?_, fun d r ⟨s, s1, s2⟩ => ?_⟩
  · rw [z] at s1
    by_cases e : s = sh
    · subst e
      rw [hv] at s2
      rcases List.mem_append.mp s2 with w | w
      · exact Or.inl ⟨s, s1, w⟩
      · exact Or.inr (laid_mem w).1
    · rw [ho (2 * s) (by omega) (by omega)] at s2
      exact Or.inl ⟨s, s1, s2⟩
  · rw [z] at s1
    rw [ho (2 * s + 1) (by omega) (by omega)] at s2
    exact ⟨s, s1, s2⟩
set_option maxHeartbeats 2000000 in
theorem LIc_G {a a' b b' : TS} (hE : EvG a b a' b') (h : LIc a b) : LIc a' b' := by
  obtain ⟨sh, p, o, q, g, hsh, hp, p2, p0, -, p0', po, hKe, q1, q2, qg, g0, g1, g13, hv, -, ⟨hPS, ca, cb, hg, -, -, -, -, -, hln, -⟩, hAl, hAl'⟩ := hE
  have z27 : tZ a' 27 0 = tZ a 27 0 := dZ ca (S := [27]) (P := []) (s := 27) (by decide) (by simp) 0
  have z29 : tZ a' 29 0 = tZ a 29 0 := dZ ca (S := [29]) (P := []) (s := 29) (by decide) (by simp) 0
  obtain ⟨f5, f1, f6, f3⟩ := o95_c cb (by decide)
  have eH : ∀ n f, hI b' n f = hI b n f := hI_c cb (S := [53, 61]) (P := []) (by decide) (by simp) (by simp)
  have eA : ∀ n t f, t = 62 ∨ t = 63 ∨ t = 64 → hA b' n t f = hA b n t f := fun n t f ht => hA_c cb (S := [53, 62, 63, 64]) (P := []) (t := t) (by decide) (by simp) (by rcases ht with q | q | q <;> subst q <;> simp) n f
  have f73 : ∀ k, tI b' 73 0 k = tI b 73 0 k := dIS cb (S := [73]) (P := []) (s := 73) (by decide) (by simp) 0
  obtain ⟨k1, k2⟩ := KM_keep h.1 hKe q1 q2 hg z27 hsh
  refine ⟨k1, fun ht => ?_⟩
  have hL := h.2 (f6.symm.trans ht)
  show LI (tZ a' 29 0) (oPf b') (oCt b') (oSe b') (hI b') (hA b') (oUp a' b') (oDn a' b') (oKp a' b') (oNt a') (tI b' 95 0 5 ≠ 0) (tI b' 95 0 1) (oSw b')
  rw [z29, oCt_R hAl.1 hAl'.1 ca (by decide), oSe_c cb (by decide), oNt_s (NtS_of hAl.2.1 ca (by decide) (gro_c ca (by decide))), f5, f1]
  obtain ⟨u1, u2⟩ := up_put z27 hsh hv (fun c hc hne => (hln c hc hne).2.1)
  obtain ⟨⟨-, -, -, hPM⟩, hPs⟩ := hPS
  have x := LI_give (pf' := oPf b') (up' := oUp a' b') (kp' := oKp a' b') (p := p) (r := g) hL hp p0 p0' (fun n hne => po n hne) (fun n hn => ⟨(hPM n hn).1, (hPM n hn).2.2.1, (hPM n hn).2.2.2⟩) (fun n hn w => (hPs n hn w).2.2) ⟨g0, g1, g13⟩ (fun r => by rw [k2 r, qg]) u1
  have sw : ∀ p, p < tZ a 29 0 → oSw b p → oSw b' p := fun p hp ⟨k, k1, k2, k3⟩ => by
    refine ⟨k, k1, (hPM p hp).1.trans k2, ?_⟩
    unfold SwD at *
    rw [f3, f73, (hPM p hp).2.2.1]
    exact k3
  exact LI_less (LI_swd x sw) (fun n f _ _ => eH n f) (fun n t f _ ht => eA n t f ht) (fun _ w => w) (fun _ _ w => w) u2
set_option maxHeartbeats 2000000 in
theorem LIc_R {a a' b b' : TS} (hE : EvR a b a' b') (h : LIc a b) : LIc a' b' := by
  obtain ⟨sh, k, c, i, q, l, T, hsh, hk, hk3, -, -, -, hkl, hko, hv, -, ⟨hPS, ca, cb, hg, -, -, -, -, hln, -⟩, hAl, hAl'⟩ := hE
  have z27 : tZ a' 27 0 = tZ a 27 0 := dZ ca (S := [27]) (P := []) (s := 27) (by decide) (by simp) 0
  have z29 : tZ a' 29 0 = tZ a 29 0 := dZ ca (S := [29]) (P := []) (s := 29) (by decide) (by simp) 0
  obtain ⟨f5, f1, f6, f3⟩ := o95_c cb (by decide)
  have eH : ∀ n f, hI b' n f = hI b n f := hI_c cb (S := [53, 61]) (P := []) (by decide) (by simp) (by simp)
  have eA : ∀ n t f, t = 62 ∨ t = 63 ∨ t = 64 → hA b' n t f = hA b n t f := fun n t f ht => hA_c cb (S := [53, 62, 63, 64]) (P := []) (t := t) (by decide) (by simp) (by rcases ht with q | q | q <;> subst q <;> simp) n f
  have hat : (kL a b sh)[k]? = some (some (c, i), some q, Int32.ofNat l) := by
    unfold kL
    rw [List.getElem?_map, List.getElem?_range hk, Option.map_some, hk3]
  have hmem : (some (c, i), some q, Int32.ofNat l) ∈ kL a b sh := List.mem_of_getElem? hat
  obtain ⟨q', e1, e2, e3⟩ := h.1 sh hsh _ hmem
  have e1 : some q = some q' := e1
  have e1 := Option.some.inj e1
  subst e1
  have hqv : ∀ s, s < tZ a 27 0 → ∀ x ∈ kL a b s, qv b' x.2.1 = qv b x.2.1 := by
    intro s hs x hx
    obtain ⟨r, r1, r2, r3⟩ := h.1 s hs x hx
    rw [r1]
    exact qv_gro hg r2 r3
  have hKM : ∀ s, s < tZ a 27 0 → KM a' b' s = KM a b s := by
    intro s hs
    have hm : (kL a b s).map (fun x => qv b' x.2.1) = (kL a b s).map (fun x => qv b x.2.1) := List.map_congr_left (fun x hx => hqv s hs x hx)
    unfold KM
    by_cases e : s = sh
    · subst e
      rw [hkl, List.map_set, hm]
      exact set_same (by rw [List.getElem?_map, hat, Option.map_some]; show some (qv b (some q)) = some (qv b' (some q)); rw [qv_gro hg e2 e3])
    · rw [hko s hs e, hm]
  have hkp : oKp a' b' = oKp a b := by
    funext g
    unfold oKp
    rw [z27]
    apply propext
    constructor
    · intro ⟨s, s1, s2⟩
      exact ⟨s, s1, by rw [← hKM s s1]; exact s2⟩
    · intro ⟨s, s1, s2⟩
      exact ⟨s, s1, by rw [hKM s s1]; exact s2⟩
  refine ⟨fun s hs x hx => ?_, fun ht => ?_⟩
  · rw [z27] at hs
    by_cases e : s = sh
    · subst e
      rw [hkl] at hx
      rcases List.mem_or_eq_of_mem_set hx with w | w
      · obtain ⟨r, r1, r2, r3⟩ := h.1 s hs x w
        exact ⟨r, r1, r2, Nat.lt_of_lt_of_le r3 (hg r.1 r2).1⟩
      · rw [w]
        exact ⟨q, rfl, e2, Nat.lt_of_lt_of_le e3 (hg q.1 e2).1⟩
    · rw [hko s hs e] at hx
      obtain ⟨r, r1, r2, r3⟩ := h.1 s hs x hx
      exact ⟨r, r1, r2, Nat.lt_of_lt_of_le r3 (hg r.1 r2).1⟩
  · have hL := h.2 (f6.symm.trans ht)
    show LI (tZ a' 29 0) (oPf b') (oCt b') (oSe b') (hI b') (hA b') (oUp a' b') (oDn a' b') (oKp a' b') (oNt a') (tI b' 95 0 5 ≠ 0) (tI b' 95 0 1) (oSw b')
    rw [z29, oPf_c cb (by decide), oCt_c cb (by decide), oSe_c cb (by decide), hkp, oNt_s (NtS_of hAl.2.1 ca (by decide) (gro_c ca (by decide))), oSw_c cb (by decide), f5, f1]
    obtain ⟨u1, u2⟩ := up_put z27 hsh hv (fun c hc hne => (hln c hc hne).2.1)
    have x := LI_rep (up' := oUp a' b') hL (fun d g hg' => (u1 d g hg').imp id (fun w => ⟨sh, hsh, by rw [w]; exact List.mem_map.mpr ⟨_, hmem, rfl⟩⟩))
    exact LI_less x (fun n f _ _ => eH n f) (fun n t f _ ht => eA n t f ht) (fun _ w => w) (fun _ _ w => w) u2
theorem LIc_L {a a' b b' : TS} (hE : EvL a b a' b') (h : LIc a b) : LIc a' b' := by
  rcases hE with (h1 | h1) | (h1 | h1)
  · exact LIc_H h1 h
  · exact LIc_D h1 h
  · exact LIc_T h1 h
  · exact LIc_D h1 h
theorem LIc_tick {a a' b b' : TS} (hE : TickE a b a' b') (h : LIc a b) : LIc a' b' := by
  obtain ⟨T, a0, b0, a1, b1, hT, ht, hC, hnd, hL, -, hM, -⟩ := hE
  refine hM (fun x y => LIc x y) (fun x y x' y' e h => ?_) (hL (fun x y => LIc x y) (fun x y x' y' e h => LIc_L e h) (LIc_C hC (by omega) ht hnd h))
  rcases e with e | e
  · exact LIc_G e h
  · exact LIc_R e h
theorem LIc_ticks {a a' b b' : TS} (hE : StpE TickE a b a' b') (h : LIc a b) : LIc a' b' := hE (fun x y => LIc x y) (fun _ _ _ _ e h => LIc_tick e h) h
