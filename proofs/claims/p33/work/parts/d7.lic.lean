/-! ===== who was granted what: the calls ===== -/
theorem Core_nd {a b : TS} {C : Nat} (h : Core a b C) : ∃ T, T ≤ 3000 ∧ tI b 95 0 1 = Int32.ofNat T ∧ NoDue a b T := by
  obtain ⟨hAl, ⟨T, hM⟩, -⟩ := h
  have hn := NoDue_of hM
  obtain ⟨m1, -, m3, -⟩ := hM
  exact ⟨T, m1, m3, hn⟩
theorem LIc_any {Da Db : List Nat} {Fa Fb : List (Nat × Nat)} {a a' b b' : TS} (hAl : Al a b) (hAl' : Al a' b') (h : LIc a b) (ca : chF Da Fa a a') (cb : chF Db Fb b b') (hda : dpk Da Fa [15, 19, 27, 28, 29] [(37, 6)] = true) (hg17 : gro a a' 17) (hdb : dpk Db Fb [53, 62, 63, 64, 66, 67, 70, 73, 87] [(95, 1), (95, 3), (95, 5), (95, 6)] = true) (hg : groQ b b')
    (hv : ∀ c, c < 2 * tZ a 27 0 → vQ b' c = vQ b c) (hH : ∀ n f, n < 1000 → f = 0 ∨ f = 7 ∨ f = 8 ∨ f = 9 ∨ f = 12 → hI b' n f = hI b n f) : LIc a' b' := by
  have z27 : tZ a' 27 0 = tZ a 27 0 := dZ ca hda (s := 27) (by simp) 0
  have z29 : tZ a' 29 0 = tZ a 29 0 := dZ ca hda (s := 29) (by simp) 0
  have hkl : ∀ s, s < tZ a 27 0 → kL a' b' s = kL a b s := fun s _ => kL_c ca cb (dpk_sub hda (by simp) (by simp)) (dpk_sub hdb (by simp) (by simp)) s
  obtain ⟨f5, f1, f6, f3⟩ := o95_c cb (dpk_sub hdb (by simp) (by simp))
  refine ⟨KpQ_same h.1 z27 hkl hg, fun ht => ?_⟩
  have hL := h.2 (f6.symm.trans ht)
  show LI (tZ a' 29 0) (oPf b') (oCt b') (oSe b') (hI b') (hA b') (oUp a' b') (oDn a' b') (oKp a' b') (oNt a') (tI b' 95 0 5 ≠ 0) (tI b' 95 0 1) (oSw b')
  rw [z29, oPf_c cb (dpk_sub hdb (by simp) (by simp)), oCt_R hAl.1 hAl'.1 ca (dpk_sub hda (by simp) (by simp)), oSe_c cb (dpk_sub hdb (by simp) (by simp)), oKp_same h.1 z27 hkl hg, oNt_s (NtS_of hAl.2.1 ca (dpk_sub hda (by simp) (by simp)) hg17), oSw_c cb (dpk_sub hdb (by simp) (by simp)), f5, f1]
  exact LI_less hL hH (fun n t f _ ht => hA_c cb hdb (by simp) (by rcases ht with q | q | q <;> subst q <;> simp) n f) (fun _ w => w) (fun d g ⟨s, s1, s2⟩ => by
    rw [z27] at s1
    rw [hv (2 * s) (by omega)] at s2
    exact ⟨s, s1, s2⟩) (fun d g ⟨s, s1, s2⟩ => by
    rw [z27] at s1
    rw [hv (2 * s + 1) (by omega)] at s2
    exact ⟨s, s1, s2⟩)
theorem laid_D (k td : Int32) (g : Nat → Int32) : ∃ D, ∀ e ∈ laid k td g, e.1 = D := by
  cases h : laid k td g with
  | nil => exact ⟨0, fun e he => absurd he List.not_mem_nil⟩
  | cons x l => exact ⟨x.1, fun e he => laid_same (k := k) (td := td) (g := g) (by rw [h]; exact he) (by rw [h]; exact List.mem_cons_self)⟩
set_option maxHeartbeats 2000000 in
theorem LIc_pay {a a' b b' : TS} {cd sh : Nat} {m pin : Int32} (hAl : Al a b) (h200 : tZ a 29 0 < 200) (hcd : cd < tZ a 28 0) (hsh : sh < tZ a 27 0) (hE : PayP a b a' b' cd sh m pin) (h : LIc a b) : LIc a' b' := by
  obtain ⟨c, c1, c2, z29, v87, ⟨n1, n2, n3, n4, n6⟩, ⟨w0, -, -⟩, w86, hw, ca, cb, cb0⟩ := hE
  have hC := (r_C hAl.1).1
  have z27 : tZ a' 27 0 = tZ a 27 0 := dZ ca (S := [27]) (P := []) (s := 27) (by decide) (by simp) 0
  have hkl : ∀ s, s < tZ a 27 0 → kL a' b' s = kL a b s := fun s _ => kL_c ca cb (by decide) (by decide) s
  obtain ⟨f5, f1, f6, f3⟩ := o95_c cb (by decide)
  have hg : groQ b b' := by
    rcases hw with ⟨e, -⟩ | ⟨-, g, hP, -⟩
    · exact groQ_c (cb0 e) (by decide)
    · exact hP.2.2.2.2
  have eH : ∀ n f, hI b' n f = hI b n f := hI_c cb (S := [53, 61]) (P := []) (by decide) (by simp) (by simp)
  have eA : ∀ n t f, t = 62 ∨ t = 63 ∨ t = 64 → hA b' n t f = hA b n t f := fun n t f ht => hA_c cb (S := [53, 62, 63, 64]) (P := []) (t := t) (by decide) (by simp) (by rcases ht with q | q | q <;> subst q <;> simp) n f
  have f73 : ∀ k, tI b' 73 0 k = tI b 73 0 k := dIS cb (S := [73]) (P := []) (s := 73) (by decide) (by simp) 0
  refine ⟨KpQ_same h.1 z27 hkl hg, fun ht => ?_⟩
  have hL := h.2 (f6.symm.trans ht)
  show LI (tZ a' 29 0) (oPf b') (oCt b') (oSe b') (hI b') (hA b') (oUp a' b') (oDn a' b') (oKp a' b') (oNt a') (tI b' 95 0 5 ≠ 0) (tI b' 95 0 1) (oSw b')
  rw [oSe_c cb (by decide), oKp_same h.1 z27 hkl hg, oNt_s (NtS_of hAl.2.1 ca (by decide) (gro_c ca (by decide))), f5, f1]
  have hse : ¬ oSe b (tZ a 29 0) := fun w => w ((hAl.1.2.2.2.2.2.2.2.2.2.2.2.1 : RQ a b).2 _ (Nat.le_refl _))
  have hup : ∃ r D, (∀ d g, oUp a' b' d g → oUp a b d g ∨ g = r ∧ d = D) ∧ (∀ d g, oDn a' b' d g → oDn a b d g) ∧ r 0 = 0 ∧ r 1 = Int32.ofNat (tZ a 29 0) ∧ r 13 = 0 := by
    rcases hw with ⟨-, -, hv⟩ | ⟨-, r, ⟨hv, -, ho, -⟩, r0, r1, r13⟩
    · refine ⟨fun f => if f = 1 then Int32.ofNat (tZ a 29 0) else 0, 0, fun d g ⟨s, s1, s2⟩ => Or.inl ⟨s, by omega, ?_⟩, fun d g ⟨s, s1, s2⟩ => ⟨s, by omega, ?_⟩, by simp, by simp, by simp⟩
      · rw [← hv (2 * s) (by omega)]; exact s2
      · rw [← hv (2 * s + 1) (by omega)]; exact s2
    · obtain ⟨D, hD⟩ := laid_D (fK (tI b 48 (2 * sh))) (tI b 95 0 1 + tI b 95 0 2) r
      refine ⟨r, D, fun d g ⟨s, s1, s2⟩ => ?_, (up_put z27 hsh hv (fun c hc hne => (ho c hc hne).1)).2, r0, r1, r13⟩
      rw [z27] at s1
      by_cases e : s = sh
      · subst e
        rw [hv] at s2
        rcases List.mem_append.mp s2 with w | w
        · exact Or.inl ⟨s, s1, w⟩
        · exact Or.inr ⟨(laid_mem w).1, hD _ w⟩
      · rw [(ho (2 * s) (by omega) (by omega)).1] at s2
        exact Or.inl ⟨s, s1, s2⟩
  obtain ⟨r, D, hu, hd, hr⟩ := hup
  have x := LI_pay (nP' := tZ a' 29 0) (pf' := oPf b') (ctr' := oCt b') (up' := oUp a' b') (swd' := oSw b') (k := cd) (c := c) (D := D) (r := r) hL z29 h200 (by omega) c1 (by omega) w0 (fun j hj hne => w86 _ (by omega)) (fun n f hn hf => v87 _ (by omega)) (by rcases hw with ⟨e, -⟩ | ⟨e, -⟩; exact Or.inl e; exact Or.inr e) n1 n4 hse (fun p hp ⟨k, k1, k2, k3⟩ => by
    refine ⟨k, k1, (v87 _ (by omega)).trans k2, ?_⟩
    unfold SwD at *
    rw [f3, f73, v87 _ (by omega)]
    exact k3) hu hr
  exact LI_less x (fun n f _ _ => eH n f) (fun n t f _ ht => eA n t f ht) (fun _ w => w) (fun _ _ w => w) hd
set_option maxHeartbeats 2000000 in
theorem LIc_S {a a' b b' : TS} (hE : EvS a b a' b') (h : LIc a b) : LIc a' b' := by
  obtain ⟨sh, p, o, q, g, hsh, hp, p2, p0, p70, h70, ⟨hKe, q1, q2, qg, hv, -, ho, hg⟩, ⟨g0, g1, g6, -, g13⟩, ca, cb, hAl, hAl'⟩ := hE
  have hP200 := (r_P' hAl.1).1
  have z27 : tZ a' 27 0 = tZ a 27 0 := dZ ca (S := [27]) (P := []) (s := 27) (by decide) (by simp) 0
  have z29 : tZ a' 29 0 = tZ a 29 0 := dZ ca (S := [29]) (P := []) (s := 29) (by decide) (by simp) 0
  obtain ⟨f5, f1, f6, f3⟩ := o95_c cb (by decide)
  have eH : ∀ n f, hI b' n f = hI b n f := hI_c cb (S := [53, 61]) (P := []) (by decide) (by simp) (by simp)
  have eA : ∀ n t f, t = 62 ∨ t = 63 ∨ t = 64 → hA b' n t f = hA b n t f := fun n t f ht => hA_c cb (S := [53, 62, 63, 64]) (P := []) (t := t) (by decide) (by simp) (by rcases ht with q | q | q <;> subst q <;> simp) n f
  obtain ⟨k1, k2⟩ := KM_keep h.1 hKe q1 q2 hg z27 hsh
  refine ⟨k1, fun ht => ?_⟩
  have hL := h.2 (f6.symm.trans ht)
  show LI (tZ a' 29 0) (oPf b') (oCt b') (oSe b') (hI b') (hA b') (oUp a' b') (oDn a' b') (oKp a' b') (oNt a') (tI b' 95 0 5 ≠ 0) (tI b' 95 0 1) (oSw b')
  rw [z29, oPf_c cb (by decide), oCt_c cb (by decide), oNt_s (NtS_of hAl.2.1 ca (by decide) (gro_c ca (by decide))), oSw_c cb (by decide), f5, f1]
  obtain ⟨u1, u2⟩ := up_put z27 hsh hv (fun c hc hne => (ho c hc hne).1)
  have x := LI_keep (sent' := oSe b') (up' := oUp a' b') (kp' := oKp a' b') (p := p) (r := g) hL hp (Or.inr ⟨g0, by unfold oSe; rw [h70, if_pos rfl]; decide, g6⟩) ⟨g1, g13⟩ (fun n w => by
    unfold oSe at *
    rw [h70]
    split
    · decide
    · exact w) (fun n hn w => by
    unfold oSe at *
    rw [h70] at w
    by_cases e : n = p
    · exact Or.inr ⟨e, g0, p0⟩
    · rw [if_neg e] at w
      exact Or.inl w) (fun r => by rw [k2 r, qg]) u1
  exact LI_less x (fun n f _ _ => eH n f) (fun n t f _ ht => eA n t f ht) (fun _ w => w) (fun _ _ w => w) u2
theorem LIc_Ss {a a' b b' : TS} (hE : StpE EvS a b a' b') (h : LIc a b) : LIc a' b' := hE (fun x y => LIc x y) (fun _ _ _ _ e h => LIc_S e h) h
set_option maxHeartbeats 2000000 in
theorem LIc_B {a a' b b' : TS} (hE : EvB a b a' b') (h : LIc a b) : LIc a' b' := by
  obtain ⟨sh, p, m, o, q, g, hsh, hp, ⟨hKe, q1, q2, qg, hv, -, ho, hg⟩, ⟨g0, g1, -, g13⟩, ca, cb, hAl, hAl'⟩ := hE
  have z27 : tZ a' 27 0 = tZ a 27 0 := dZ ca (S := [27]) (P := []) (s := 27) (by decide) (by simp) 0
  have z29 : tZ a' 29 0 = tZ a 29 0 := dZ ca (S := [29]) (P := []) (s := 29) (by decide) (by simp) 0
  obtain ⟨f5, f1, f6, f3⟩ := o95_c cb (by decide)
  have eH : ∀ n f, hI b' n f = hI b n f := hI_c cb (S := [53, 61]) (P := []) (by decide) (by simp) (by simp)
  have eA : ∀ n t f, t = 62 ∨ t = 63 ∨ t = 64 → hA b' n t f = hA b n t f := fun n t f ht => hA_c cb (S := [53, 62, 63, 64]) (P := []) (t := t) (by decide) (by simp) (by rcases ht with q | q | q <;> subst q <;> simp) n f
  obtain ⟨k1, k2⟩ := KM_keep h.1 hKe q1 q2 hg z27 hsh
  refine ⟨k1, fun ht => ?_⟩
  have hL := h.2 (f6.symm.trans ht)
  show LI (tZ a' 29 0) (oPf b') (oCt b') (oSe b') (hI b') (hA b') (oUp a' b') (oDn a' b') (oKp a' b') (oNt a') (tI b' 95 0 5 ≠ 0) (tI b' 95 0 1) (oSw b')
  rw [z29, oPf_c cb (by decide), oCt_c cb (by decide), oSe_c cb (by decide), oNt_s (NtS_of hAl.2.1 ca (by decide) (gro_c ca (by decide))), oSw_c cb (by decide), f5, f1]
  obtain ⟨u1, u2⟩ := up_put z27 hsh hv (fun c hc hne => (ho c hc hne).1)
  have x := LI_keep (sent' := oSe b) (up' := oUp a' b') (kp' := oKp a' b') (p := p) (r := g) hL hp (Or.inl g0) ⟨g1, g13⟩ (fun n w => w) (fun n hn w => Or.inl w) (fun r => by rw [k2 r, qg]) u1
  exact LI_less x (fun n f _ _ => eH n f) (fun n t f _ ht => eA n t f ht) (fun _ w => w) (fun _ _ w => w) u2
theorem LIc_F {a a' b b' : TS} (hE : EvF a b a' b') (h : LIc a b) : LIc a' b' := by
  obtain ⟨sh, g, hsh, ⟨-, -, -, hkl, hg⟩, -, e6, ca, cb, hAl, hAl'⟩ := hE
  have z27 : tZ a' 27 0 = tZ a 27 0 := dZ ca (S := [27]) (P := []) (s := 27) (by decide) (by simp) 0
  exact ⟨KpQ_same h.1 z27 hkl hg, fun ht => absurd (e6.symm.trans ht) (by decide)⟩
