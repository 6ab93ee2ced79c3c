/-! ===== who was granted what: what comes down, and the rest of a tick ===== -/
theorem oCt_R {D : List Nat} {F : List (Nat × Nat)} {a a' b b' : TS} (hR : R0 a b) (hR' : R0 a' b') (ca : chF D F a a') (hd : dpk D F [28] [(37, 6)] = true) : oCt b' = oCt b := by
  funext k
  have z28 := dZ ca hd (s := 28) (by simp) 0
  have hD : RD a b := hR.2.2.2.2.2.2.2.2.1
  have hD' : RD a' b' := hR'.2.2.2.2.2.2.2.2.1
  unfold oCt
  by_cases hk : k < tZ a 28 0
  · obtain ⟨-, x, -⟩ := hD.1 k hk
    obtain ⟨-, y, -⟩ := hD'.1 k (by omega)
    rw [← x, ← y]
    exact dI ca hd (s := 37) (k := 6) (by simp) k
  · rw [hD.2 (10 * k) (by omega), hD'.2 (10 * k) (by omega)]
theorem mem_er {α : Type} (g : α) : ∀ (l : List α) (j : Nat), g ∈ l → g ∈ l.eraseIdx j ∨ l[j]? = some g
  | [], _, h => absurd h List.not_mem_nil
  | x :: l, 0, h => by
    rcases List.mem_cons.mp h with q | q
    · exact Or.inr (by rw [q]; rfl)
    · exact Or.inl q
  | x :: l, j + 1, h => by
    rcases List.mem_cons.mp h with q | q
    · exact Or.inl (by rw [q]; exact List.mem_cons_self)
    · rcases mem_er g l j q with w | w
      · exact Or.inl (List.mem_cons_of_mem _ w)
      · exact Or.inr w
theorem er_mem {α : Type} (g : α) : ∀ (l : List α) (j : Nat), g ∈ l.eraseIdx j → g ∈ l
  | [], _, h => h
  | x :: l, 0, h => List.mem_cons_of_mem _ h
  | x :: l, j + 1, h => by
    rcases List.mem_cons.mp h with q | q
    · rw [q]; exact List.mem_cons_self
    · exact List.mem_cons_of_mem _ (er_mem g l j q)
theorem set_same {α : Type} {l : List α} {k : Nat} {x : α} (h : l[k]? = some x) : l.set k x = l := by
  apply List.ext_getElem?
  intro j
  rw [List.getElem?_set]
  by_cases e : k = j
  · subst e
    rw [if_pos rfl]
    split
    · exact h.symm
    · rename_i q
      rw [List.getElem?_eq_none (by omega)] at h
      exact absurd h (by simp)
  · rw [if_neg e]
theorem LIc_D {a a' b b' : TS} (hE : EvD a b a' b') (h : LIc a b) : LIc a' b' := by
  obtain ⟨e, ca, ⟨hR, hN, -⟩, hR', -, -⟩ := hE
  subst e
  have z27 : tZ a' 27 0 = tZ a 27 0 := dZ ca (S := [27]) (P := []) (s := 27) (by decide) (by simp) 0
  have z29 : tZ a' 29 0 = tZ a 29 0 := dZ ca (S := [29]) (P := []) (s := 29) (by decide) (by simp) 0
  have hkl : ∀ s, s < tZ a 27 0 → kL a' b' s = kL a b' s := fun s _ => kL_c ca (chF_r [] [] b') (by decide) (by decide) s
  have hg : groQ b' b' := groQ_c (chF_r [] [] b') (by decide)
  refine ⟨KpQ_same h.1 z27 hkl hg, fun ht => ?_⟩
  have hL := h.2 ht
  show LI (tZ a' 29 0) (oPf b') (oCt b') (oSe b') (hI b') (hA b') (oUp a' b') (oDn a' b') (oKp a' b') (oNt a') (tI b' 95 0 5 ≠ 0) (tI b' 95 0 1) (oSw b')
  rw [z29, oKp_same h.1 z27 hkl hg, oNt_s (NtS_of hN ca (by decide) (gro_c ca (by decide)))]
  exact LI_less hL (fun _ _ _ _ => rfl) (fun _ _ _ _ _ => rfl) (fun _ w => w) (fun d g ⟨s, s1, s2⟩ => ⟨s, by rw [← z27]; exact s1, s2⟩) (fun d g ⟨s, s1, s2⟩ => ⟨s, by rw [← z27]; exact s1, s2⟩)
set_option maxHeartbeats 2000000 in
theorem LIc_T {a a' b b' : TS} (hE : EvT a b a' b') (h : LIc a b) : LIc a' b' := by
  obtain ⟨sh, g, q, b1, pre, post, hsh, v1, v2, v3, c1, ⟨-, m13, -, m1, hm⟩, hE, hv, ⟨hR, hN, -, -, hK⟩, ⟨hR', -, -, -, hPS⟩, ca, cb, hgQ, -⟩ := hE
  have cc : chF (DrB ++ [49, 50, 51, 52, 74, 75]) [] b b' := chF_t (chF_m c1 (by decide) (by simp)) (chF_m cb (by decide) (by simp))
  have hg : groQ b b' := groQ_t (groQ_c c1 (by decide)) hgQ
  have hP200 := (r_P' hR).1
  have z27 : tZ a' 27 0 = tZ a 27 0 := dZ ca (S := [27]) (P := []) (s := 27) (by decide) (by simp) 0
  have z29 : tZ a' 29 0 = tZ a 29 0 := dZ ca (S := [29]) (P := []) (s := 29) (by decide) (by simp) 0
  have eCt := oCt_R hR hR' ca (by decide)
  have eSe := oSe_c cc (by decide)
  have eNt := oNt_s (NtS_of hN ca (by decide) (gro_c ca (by decide)))
  obtain ⟨f5, f1, f6, f3⟩ := o95_c cc (by decide)
  have g87 : ∀ k, tI b1 87 0 k = tI b 87 0 k := dIS c1 (S := [87]) (P := []) (s := 87) (by decide) (by simp) 0
  have f73 : ∀ k, tI b' 73 0 k = tI b 73 0 k := dIS cc (S := [73]) (P := []) (s := 73) (by decide) (by simp) 0
  have eH : ∀ n f, hI b' n f = hI b n f := hI_c cc (S := [53, 61]) (P := []) (by decide) (by simp) (by simp)
  have eA : ∀ n t f, t = 62 ∨ t = 63 ∨ t = 64 → hA b' n t f = hA b n t f := fun n t f ht => hA_c cc (S := [53, 62, 63, 64]) (P := []) (t := t) (by decide) (by simp) (by rcases ht with q | q | q <;> subst q <;> simp) n f
  have kb1 : ∀ s, kL a b1 s = kL a b s := fun s => kL_c (chF_r [] [] a) c1 (by decide) (by decide) s
  have hq : oDn a b (tI b 95 0 1) q := ⟨sh, hsh, by rw [v1]; simp⟩
  have hup : ∀ d g, oUp a' b' d g → oUp a b d g := by
    intro d g ⟨s, s1, s2⟩
    rw [z27] at s1
    rw [hv (2 * s) (by omega), v3 (2 * s) (by omega) (by omega)] at s2
    exact ⟨s, s1, s2⟩
  have hdn : ∀ d g, oDn a' b' d g → oDn a b d g := by
    intro d g ⟨s, s1, s2⟩
    rw [z27] at s1
    rw [hv (2 * s + 1) (by omega)] at s2
    refine ⟨s, s1, ?_⟩
    by_cases e : s = sh
    · subst e
      rw [v2] at s2
      rw [v1]
      rcases List.mem_append.mp s2 with w | w
      · exact List.mem_append_left _ w
      · exact List.mem_append_right _ (List.mem_cons_of_mem _ w)
    · rw [v3 (2 * s + 1) (by omega) (by omega)] at s2
      exact s2
  rcases hE with ⟨g0, ⟨p, p1, p2, p3, hAn⟩, hkl⟩ | ⟨g0, g14, hF, cF⟩ | ⟨g0, g14, ea, eb⟩
  · have hkl' : ∀ s, s < tZ a 27 0 → kL a' b' s = kL a b s := fun s _ => (hkl s).trans (kb1 s)
    refine ⟨KpQ_same h.1 z27 hkl' hg, fun ht => ?_⟩
    have hL := h.2 (f6.symm.trans ht)
    show LI (tZ a' 29 0) (oPf b') (oCt b') (oSe b') (hI b') (hA b') (oUp a' b') (oDn a' b') (oKp a' b') (oNt a') (tI b' 95 0 5 ≠ 0) (tI b' 95 0 1) (oSw b')
    rw [z29, eCt, eSe, oKp_same h.1 z27 hkl' hg, eNt, f5, f1]
    rcases hm with ⟨-, m0, -, m7, m12, m8, -⟩ | ⟨m0, -⟩
    · have x : LI (tZ a 29 0) (oPf b') (oCt b) (oSe b) (hI b) (hA b) (oUp a b) (oDn a' b') (oKp a b) (oNt a) (tI b 95 0 5 ≠ 0) (tI b 95 0 1) (oSw b) := by
        obtain ⟨a1, a2, a3⟩ := hAn
        simp only [g87] at a1 a2 a3
        obtain ⟨⟨-, -, -, hPM⟩, hPS⟩ := hPS
        simp only [g87] at hPM hPS
        refine LI_ans (p := p) (q := q) (w := g 8) (by' := g 7) hL p1 hq m0 (m1.trans p2) m8 ?_ (fun n hn => ⟨(hPM n hn).1, (hPM n hn).2.2.1, (hPM n hn).2.2.2⟩) (fun n hne => a1 n hne) (fun n hn w => (hPS n hn w).2.2) a2 a3 hdn
        rcases m7 with w | w
        · exact Or.inl ⟨w, by rw [m12, if_pos w]⟩
        · exact Or.inr ⟨w, by rw [m12, w]; decide⟩
      have sw : ∀ p, p < tZ a 29 0 → oSw b p → oSw b' p := fun p hp ⟨k, k1, k2, k3⟩ => by
        obtain ⟨⟨-, -, -, hPM⟩, -⟩ := hPS
        simp only [g87] at hPM
        refine ⟨k, k1, (hPM p hp).1.trans k2, ?_⟩
        unfold SwD at *
        rw [f3, f73, (hPM p hp).2.2.1]
        exact k3
      refine LI_less (LI_swd x sw) (fun n f _ _ => eH n f) (fun n t f _ ht => eA n t f ht) (fun _ w => w) hup (fun _ _ w => w)
    · rcases m0 with x | x | x <;> (rw [g0] at x; exact absurd x.1 (by decide))
  · have ePf : oPf b' = oPf b := oPf_c (chF_t (chF_m c1 (D' := [49, 50, 51, 52, 66, 67, 68, 74, 75]) (F' := []) (by decide) (by simp)) (chF_m cF (by decide) (by simp))) (by decide)
    have hb0 : ∀ s, s < tZ a 27 0 → ∀ x ∈ kL a' b' s, x ∈ kL a b s := by
      intro s hs x hx
      by_cases e : s = sh
      · subst e
        rcases hF.2 with ⟨j, -, -, w⟩ | ⟨-, w⟩
        · rw [w, kb1] at hx
          exact er_mem x _ j hx
        · rw [w, kb1] at hx
          exact hx
      · rw [hF.1 s hs e, kb1] at hx
        exact hx
    have hqv : ∀ s, s < tZ a 27 0 → ∀ x ∈ kL a b s, qv b' x.2.1 = qv b x.2.1 := by
      intro s hs x hx
      obtain ⟨r, r1, r2, r3⟩ := h.1 s hs x hx
      rw [r1]
      exact qv_gro hg r2 r3
    refine ⟨fun s hs x hx => ?_, fun ht => ?_⟩
    · rw [z27] at hs
      obtain ⟨r, r1, r2, r3⟩ := h.1 s hs x (hb0 s hs x hx)
      exact ⟨r, r1, r2, Nat.lt_of_lt_of_le r3 (hg r.1 r2).1⟩
    · have hL := h.2 (f6.symm.trans ht)
      show LI (tZ a' 29 0) (oPf b') (oCt b') (oSe b') (hI b') (hA b') (oUp a' b') (oDn a' b') (oKp a' b') (oNt a') (tI b' 95 0 5 ≠ 0) (tI b' 95 0 1) (oSw b')
      rw [z29, eCt, eSe, ePf, eNt, f5, f1]
      rcases hm with ⟨m0, -⟩ | ⟨m0, q0⟩
      · exact absurd m0 g0
      · have x := LI_dne (kp' := oKp a' b') (dn' := oDn a' b') (q := q) hL hq q0 hdn (fun r ⟨s, s1, s2⟩ => by
          rw [z27] at s1
          obtain ⟨x, x1, x2⟩ := List.mem_map.mp s2
          have x1 := hb0 s s1 x x1
          refine ⟨s, s1, List.mem_map.mpr ⟨x, x1, ?_⟩⟩
          rw [← hqv s s1 x x1]
          exact x2) (fun r ⟨s, s1, s2⟩ => by
          obtain ⟨x, x1, x2⟩ := List.mem_map.mp s2
          have keep : x ∈ kL a' b' s → oKp a' b' r := fun y => ⟨s, by rw [z27]; exact s1, List.mem_map.mpr ⟨x, y, by show qv b' x.2.1 = r; rw [hqv s s1 x x1]; exact x2⟩⟩
          by_cases e : s = sh
          · subst e
            rcases hF.2 with ⟨j, j1, j2, w⟩ | ⟨-, w⟩
            · rw [kb1] at w
              rcases mem_er x _ j x1 with y | y
              · rw [← w] at y
                exact Or.inl (keep y)
              · refine Or.inr ?_
                have y3 : x = kR3 a b s j := by
                  unfold kL at y
                  rw [List.getElem?_map, List.getElem?_range j1, Option.map_some] at y
                  exact (Option.some.inj y).symm
                obtain ⟨-, -, -, k4, -⟩ := hK.1 s s1
                obtain ⟨c, i, q', o1, o2, -, -, -, -, -, ⟨-, -, -, o8, o9⟩, -, -⟩ := k4 j j1
                have hr : qv b (some q') = r := by rw [← x2, y3]; show _ = qv b (tR b 66 0 (500 * s + j)); rw [o2]
                rw [o1] at j2
                have j2 : (tI a c i 0, tI a c i 1, tI a c i 11) = (g 0, g 1, g 11) := j2
                have k0 : tI a c i 0 = g 0 := (Prod.mk.inj j2).1
                have k1 : tI a c i 1 = g 1 := (Prod.mk.inj (Prod.mk.inj j2).2).1
                have n0 : mv a c i 0 = g 0 := (mv_at (Or.inl ⟨by decide, by decide⟩)).trans k0
                have n1 : mv a c i 1 = g 1 := (mv_at (Or.inl ⟨by decide, by decide⟩)).trans k1
                rw [hr, n1] at o8
                rw [hr, n0] at o9
                refine ⟨o8.trans m1.symm, ?_⟩
                rcases o9 with ⟨z1, z2, -⟩ | ⟨z1, z2, -⟩ | ⟨z1, z2, -⟩ | ⟨z1, z2, -⟩
                · rcases m0 with z | z | z <;> (rw [z1] at z; exact absurd z.1 (by decide))
                · refine Or.inl ⟨z2, ?_⟩
                  rcases m0 with z | z | z
                  · exact z.2
                  · rw [z1] at z; exact absurd z.1 (by decide)
                  · rw [z1] at z; exact absurd z.1 (by decide)
                · refine Or.inr (Or.inl ⟨z2, ?_⟩)
                  rcases m0 with z | z | z
                  · rw [z1] at z; exact absurd z.1 (by decide)
                  · exact z.2
                  · rw [z1] at z; exact absurd z.1 (by decide)
                · refine Or.inr (Or.inr ⟨z2, ?_⟩)
                  rcases m0 with z | z | z
                  · rw [z1] at z; exact absurd z.1 (by decide)
                  · rw [z1] at z; exact absurd z.1 (by decide)
                  · exact z.2
            · rw [kb1] at w
              exact Or.inl (keep (by rw [w]; exact x1))
          · exact Or.inl (keep (by rw [hF.1 s s1 e, kb1]; exact x1)))
        exact LI_less x (fun n f _ _ => eH n f) (fun n t f _ ht => eA n t f ht) (oSw_m ePf (fun k _ w => by rw [f73]; exact w) f3) hup (fun _ _ w => w)
  · subst ea
    subst eb
    refine ⟨KpQ_same h.1 rfl (fun s _ => kb1 s) hg, fun ht => ?_⟩
    have hL := h.2 (f6.symm.trans ht)
    have ePf : oPf b' = oPf b := funext fun p => funext fun f => g87 _
    show LI (tZ a' 29 0) (oPf b') (oCt b') (oSe b') (hI b') (hA b') (oUp a' b') (oDn a' b') (oKp a' b') (oNt a') (tI b' 95 0 5 ≠ 0) (tI b' 95 0 1) (oSw b')
    rw [eCt, eSe, ePf, oKp_same h.1 rfl (fun s _ => kb1 s) hg, f5, f1]
    exact LI_less hL (fun n f _ _ => eH n f) (fun n t f _ ht => eA n t f ht) (oSw_m ePf (fun k _ w => by rw [f73]; exact w) f3) hup hdn
