/-! ===== when what is kept was put: a tick ===== -/
theorem o952_c {D : List Nat} {F : List (Nat × Nat)} {b b' : TS} (h : chF D F b b') (hd : dpk D F [] [(95, 5), (95, 1), (95, 2)] = true) : tI b' 95 0 5 = tI b 95 0 5 ∧ tI b' 95 0 1 = tI b 95 0 1 ∧ tI b' 95 0 2 = tI b 95 0 2 :=
  ⟨dI h hd (s := 95) (k := 5) (by simp) 0, dI h hd (s := 95) (k := 1) (by simp) 0, dI h hd (s := 95) (k := 2) (by simp) 0⟩
set_option maxHeartbeats 2000000 in
theorem TJ_H {a a' b b' : TS} {X T d : Nat} (hE : EvH a b a' b') (h : TJ a b X T d) : TJ a' b' X T d := by
  obtain ⟨sh, g, q, b1, pre, post, hsh, v1, v2, v3, c1, hu, ⟨b2, c2, hH⟩, ⟨hR, -, -⟩, ⟨hR1, hN1, -⟩, n, hHrd⟩ := hE
  obtain ⟨hR', hN', -, -, hPS, hln, -, -, ca, cb, hgQ, -⟩ := hHrd
  obtain ⟨hQ, hop, ⟨t1, t2, t3, t4, t5, t6⟩, has, hs⟩ := h
  have cc : chF DhB FhB b b' := chF_t (chF_m c1 (by decide) (by simp)) cb
  have hg : groQ b b' := groQ_t (groQ_c c1 (by decide)) hgQ
  have z27 : tZ a' 27 0 = tZ a 27 0 := shop_A ca
  have z29 : tZ a' 29 0 = tZ a 29 0 := dZ ca (S := [29]) (P := []) (s := 29) (by decide) (by simp) 0
  have hkl : ∀ s, s < tZ a 27 0 → kL a' b' s = kL a b s := fun s _ => kL_c ca cc (by decide) (by decide) s
  obtain ⟨f5, f1, f2⟩ := o952_c cc (by decide)
  obtain ⟨g5, g1, g2⟩ := o952_c c1 (by decide)
  have g48 : ∀ c, tI b1 48 c = tI b 48 c := fun c => funext fun k => dIS c1 (S := [48]) (P := []) (s := 48) (by decide) (by simp) c k
  have f87 : ∀ k, tI b' 87 0 k = tI b 87 0 k := dIS cc (S := [87]) (P := []) (s := 87) (by decide) (by simp) 0
  have hK := fun s hs => oK_same (s := s) hQ hkl hg hs
  refine ⟨KpQ_same hQ z27 hkl hg, by rw [f5]; exact hop, ⟨t1, t2, f1.trans t3, f2.trans t4, t5, t6⟩, fun p hp => by rw [f87]; exact has p (by omega), fun s hs' => ?_⟩
  rw [z27] at hs'
  have fin : ∀ r, (q 13 = 0 → q 0 ≠ 0 → r 13 = 0 ∧ r 0 = 5 ∧ r 8 = q 0 ∧ r 1 = q 1 ∧ r 7 = q 7) → vQ b' (2 * sh + 1) = vQ b1 (2 * sh + 1) ++ laid (fK (tI b1 48 (2 * sh + 1))) (tI b1 95 0 1 + tI b1 95 0 2) r → tI b' 48 (2 * sh + 1) = fR (tI b1 48 (2 * sh + 1)) → (∀ f, f ≠ 2 * sh + 1 → tI b' 48 f = tI b1 48 f) → TJs a' b' s X T d := by
    intro r hr d1 d2 d3
    by_cases e : s = sh
    · subst e
      rw [v3 (2 * s + 1) (by omega) (by omega), g48, g1, g2, t3, t4] at d1
      rw [t3] at v1
      refine TJs_hear (q := q) (r := r) (hs s hs') t1 t2 t6 t5 v1 ?_ d1 ?_ (d2.trans (by rw [g48])) (hK s hs') hr
      · rw [(hln (2 * s) (by omega) (by omega)).2.1]; exact v2
      · rw [d3 (2 * s) (by omega), g48]
    · refine TJs_o (hs s hs') ?_ ?_ ?_ ?_ (hK s hs')
      · rw [(hln (2 * s) (by omega) (by omega)).2.1, v3 (2 * s) (by omega) (by omega)]
      · rw [(hln (2 * s + 1) (by omega) (by omega)).2.1, v3 (2 * s + 1) (by omega) (by omega)]
      · rw [d3 (2 * s) (by omega), g48]
      · rw [d3 (2 * s + 1) (by omega), g48]
  obtain ⟨-, u13, u7, u1, hu⟩ := hu
  rcases hH with ⟨o5, -⟩ | ⟨o5, -⟩ | ⟨-, -, hH⟩
  · exact absurd (g5.symm.trans o5) hop
  · exact absurd (g5.symm.trans o5) hop
  · rcases hH with ⟨g0, p, cd, c, r, -, -, -, -, -, -, m, hm, vm, w1, w2⟩ | ⟨⟨m, hm, vm, w1, w2⟩, hH⟩
    · refine fin m (fun _ q0 => ?_) vm w1 w2
      rcases hu with ⟨-, x, -⟩ | ⟨x, -⟩ | ⟨x, -⟩ | ⟨x, -⟩
      · exact absurd x q0
      all_goals (rw [g0] at x; exact absurd x (by decide))
    · refine fin m (fun q13 q0 => ?_) vm w1 w2
      obtain ⟨-, m13, m7, m1, hm⟩ := hm
      have base : m 13 = 0 ∧ m 1 = q 1 ∧ m 7 = q 7 := ⟨m13.trans (u13.symm.trans q13), m1.trans u1.symm, m7.trans u7.symm⟩
      rcases hu with ⟨-, x, -⟩ | ⟨x, y, -⟩ | ⟨x, y, -⟩ | ⟨x, y, -⟩
      · exact absurd x q0
      all_goals
        rcases hm with ⟨z, -⟩ | ⟨z | z | z, z5⟩
        all_goals first
          | (rw [x] at z; exact absurd z (by decide))
          | (rw [x] at z; exact absurd z.1 (by decide))
          | exact ⟨base.1, z5, z.2.trans y.symm, base.2.1, base.2.2⟩
theorem TJ_D {a a' b b' : TS} {X T d : Nat} (hE : EvD a b a' b') (h : TJ a b X T d) : TJ a' b' X T d := by
  obtain ⟨e, ca, ⟨hR, hN, -⟩, hR', -, -⟩ := hE
  subst e
  obtain ⟨hQ, hop, ht, has, hs⟩ := h
  have z27 : tZ a' 27 0 = tZ a 27 0 := dZ ca (S := [27]) (P := []) (s := 27) (by decide) (by simp) 0
  have z29 : tZ a' 29 0 = tZ a 29 0 := dZ ca (S := [29]) (P := []) (s := 29) (by decide) (by simp) 0
  have hkl : ∀ s, s < tZ a 27 0 → kL a' b' s = kL a b' s := fun s _ => kL_c ca (chF_r [] [] b') (by decide) (by decide) s
  have hg : groQ b' b' := groQ_c (chF_r [] [] b') (by decide)
  refine ⟨KpQ_same hQ z27 hkl hg, hop, ht, fun p hp => has p (by omega), fun s hs' => ?_⟩
  rw [z27] at hs'
  exact TJs_o (hs s hs') rfl rfl rfl rfl (oK_same hQ hkl hg hs')
theorem er_at {α : Type} (g : α) : ∀ (l : List α) (j : Nat), g ∈ l.eraseIdx j → ∃ i, i ≠ j ∧ l[i]? = some g
  | [], _, h => absurd h List.not_mem_nil
  | x :: l, 0, h => by
    obtain ⟨i, hi⟩ := List.mem_iff_getElem?.mp h
    exact ⟨i + 1, by omega, hi⟩
  | x :: l, j + 1, h => by
    rcases List.mem_cons.mp h with q | q
    · exact ⟨0, by omega, by rw [q]; rfl⟩
    · obtain ⟨i, h1, h2⟩ := er_at g l j q
      exact ⟨i + 1, by omega, h2⟩
set_option maxHeartbeats 2000000 in
theorem TJ_T {a a' b b' : TS} {X T d : Nat} (hE : EvT a b a' b') (h : TJ a b X T d) : TJ a' b' X T d := by
  obtain ⟨sh, g, q, b1, pre, post, hsh, v1, v2, v3, c1, ⟨-, m13, m7, m1, hm⟩, hE, hv, ⟨hR, hN, -, -, hKp⟩, ⟨hR', -, -, hKp', hPS⟩, ca, cb, hgQ, -⟩ := hE
  obtain ⟨hQ, hop, ⟨t1, t2, t3, t4, t5, t6⟩, has, hs⟩ := h
  have cc : chF (DrB ++ [49, 50, 51, 52, 74, 75]) [] b b' := chF_t (chF_m c1 (by decide) (by simp)) (chF_m cb (by decide) (by simp))
  have hg : groQ b b' := groQ_t (groQ_c c1 (by decide)) hgQ
  have z27 : tZ a' 27 0 = tZ a 27 0 := dZ ca (S := [27]) (P := []) (s := 27) (by decide) (by simp) 0
  have z29 : tZ a' 29 0 = tZ a 29 0 := dZ ca (S := [29]) (P := []) (s := 29) (by decide) (by simp) 0
  obtain ⟨f5, f1, f2⟩ := o952_c cc (by decide)
  have g87 : ∀ k, tI b1 87 0 k = tI b 87 0 k := dIS c1 (S := [87]) (P := []) (s := 87) (by decide) (by simp) 0
  have f48 : ∀ c, tI b' 48 c = tI b 48 c := fun c => funext fun k => dIS cc (S := [48]) (P := []) (s := 48) (by decide) (by simp) c k
  have kb1 : ∀ s, kL a b1 s = kL a b s := fun s => kL_c (chF_r [] [] a) c1 (by decide) (by decide) s
  have hask : ∀ p, p < tZ a 29 0 → tI b' 87 0 (10 * p) = 1 → tI b 87 0 (10 * p) = 1 := by
    intro p hp w
    rcases hE with ⟨-, ⟨p', -, -, -, a1, a2, a3⟩, -⟩ | ⟨-, -, -, cF⟩ | ⟨-, -, -, eb⟩
    · by_cases e : p = p'
      · subst e
        by_cases e1 : tI b1 87 0 (10 * p) = 1
        · rw [← g87]; exact e1
        · rw [a2 e1] at w; exact absurd w e1
      · rw [a1 p e, g87] at w; exact w
    · rw [dIS cF (S := [87]) (P := []) (s := 87) (by decide) (by simp) 0, g87] at w; exact w
    · rw [eb, g87] at w; exact w
  have hqv : ∀ s, s < tZ a 27 0 → ∀ x ∈ kL a b s, qv b' x.2.1 = qv b x.2.1 := by
    intro s hs x hx
    obtain ⟨r, r1, r2, r3⟩ := hQ s hs x hx
    rw [r1]
    exact qv_gro hg r2 r3
  -- what stays kept was kept, and isn't what came
  have key : ∀ s, s < tZ a 27 0 → ∀ x ∈ kL a' b' s, x ∈ kL a b s ∧ (s = sh → ¬ (q 13 = 0 ∧ q 0 = 5 ∧ q 8 = qv b x.2.1 0 ∧ q 1 = qv b x.2.1 1 ∧ q 7 = qv b x.2.1 7)) := by
    intro s hs x hx
    rcases hE with ⟨g0, -, hkl⟩ | ⟨g0, g14, hF, -⟩ | ⟨g0, g14, ea, eb⟩
    · rw [hkl s, kb1] at hx
      refine ⟨hx, fun _ ⟨_, w, _⟩ => ?_⟩
      rcases hm with ⟨-, m0, -⟩ | ⟨m0, -⟩
      · rw [m0] at w; exact absurd w (by decide)
      · rcases m0 with y | y | y <;> (rw [g0] at y; exact absurd y.1 (by decide))
    · by_cases e : s = sh
      · subst e
        obtain ⟨-, -, -, k4, k5⟩ := hKp.1 s hs
        -- the class's key of the one at i
        have kk : ∀ i, (kL a b s)[i]? = some x → (q 13 = 0 ∧ q 0 = 5 ∧ q 8 = qv b x.2.1 0 ∧ q 1 = qv b x.2.1 1 ∧ q 7 = qv b x.2.1 7) → i < tZ a 19 s ∧ keyA a (tR a 19 s i) = (g 0, g 1, g 11) := by
          intro i hi ⟨_, w0, w8, w1, w7⟩
          have hi2 : i < tZ a 19 s := by
            by_cases z : i < tZ a 19 s
            · exact z
            · unfold kL at hi
              rw [List.getElem?_eq_none (by rw [List.length_map, List.length_range]; omega)] at hi
              exact absurd hi (by simp)
          have y3 : x = kR3 a b s i := by
            unfold kL at hi
            rw [List.getElem?_map, List.getElem?_range hi2, Option.map_some] at hi
            exact (Option.some.inj hi).symm
          obtain ⟨c, j, q', o1, o2, -, -, -, -, -, ⟨-, -, o7, o8, o9⟩, -, kc⟩ := k4 i hi2
          have hr : qv b x.2.1 = qv b (some q') := by rw [y3]; show qv b (tR b 66 0 (500 * s + i)) = _; rw [o2]
          rw [hr] at w8 w1 w7
          have n0 : mv a c j 0 = tI a c j 0 := mv_at (Or.inl ⟨by decide, by decide⟩)
          have n1 : mv a c j 1 = tI a c j 1 := mv_at (Or.inl ⟨by decide, by decide⟩)
          have n11 : mv a c j 11 = tI a c j 11 := mv_at (Or.inl ⟨by decide, by decide⟩)
          refine ⟨hi2, ?_⟩
          rw [o1]
          show (tI a c j 0, tI a c j 1, tI a c j 11) = (g 0, g 1, g 11)
          have x1 : tI a c j 1 = g 1 := by rw [← n1, ← o8, ← w1, m1]
          have x11 : tI a c j 11 = g 11 := by rw [← n11, ← o7, ← w7, m7]
          have x0 : tI a c j 0 = g 0 := by
            rw [← n0]
            rcases hm with ⟨z, -⟩ | ⟨z, -⟩
            · exact absurd z g0
            · rcases o9 with ⟨y0, y1, -⟩ | ⟨y0, y1, -⟩ | ⟨y0, y1, -⟩ | ⟨y0, y1, -⟩
              all_goals
                rw [y1] at w8
                rw [y0]
                rcases z with z | z | z
                all_goals first
                  | exact z.1.symm
                  | (rw [z.2] at w8; exact absurd w8 (by decide))
          rw [x0, x1, x11]
        rcases hF.2 with ⟨j, j1, j2, w⟩ | ⟨j2, w⟩
        · rw [w, kb1] at hx
          refine ⟨er_mem x _ j hx, fun _ y => ?_⟩
          obtain ⟨i, i1, i2⟩ := er_at x _ j hx
          obtain ⟨z1, z2⟩ := kk i i2 y
          rcases Nat.lt_or_gt_of_ne i1 with c | c
          · exact k5 i j c j1 (by rw [z2, j2])
          · exact k5 j i c z1 (by rw [z2, j2])
        · rw [w, kb1] at hx
          refine ⟨hx, fun _ y => ?_⟩
          obtain ⟨i, hi⟩ := List.mem_iff_getElem?.mp hx
          obtain ⟨z1, z2⟩ := kk i hi y
          exact j2 i z1 z2
      · rw [hF.1 s hs e, kb1] at hx
        exact ⟨hx, fun w => absurd w e⟩
    · rw [ea, eb, kb1] at hx
      exact ⟨hx, fun _ ⟨w, _⟩ => g14 (m13.symm.trans w)⟩
  refine ⟨fun s hs' x hx => ?_, by rw [f5]; exact hop, ⟨t1, t2, f1.trans t3, f2.trans t4, t5, t6⟩, fun p hp w => has p (by omega) (hask p (by omega) w), fun s hs' => ?_⟩
  · rw [z27] at hs'
    obtain ⟨r, r1, r2, r3⟩ := hQ s hs' x (key s hs' x hx).1
    exact ⟨r, r1, r2, Nat.lt_of_lt_of_le r3 (hg r.1 r2).1⟩
  · rw [z27] at hs'
    have hK : ∀ k l, oKw a' b' s k l → oKw a b s k l ∧ (s = sh → ¬ (q 13 = 0 ∧ q 0 = 5 ∧ q 8 = k 0 ∧ q 1 = k 1 ∧ q 7 = k 7)) := by
      intro k l ⟨x, x1, x2, x3⟩
      obtain ⟨y1, y2⟩ := key s hs' x x1
      have e : qv b x.2.1 = k := (hqv s hs' x y1).symm.trans x2
      refine ⟨⟨x, y1, e, x3⟩, fun w => ?_⟩
      rw [← e]
      exact y2 w
    by_cases e : s = sh
    · subst e
      obtain ⟨j1, j2, j3, j4, j5⟩ := hs s hs'
      have e48 : lostN b' s = lostN b s := by unfold lostN; rw [f48, f48]
      have eU : oUw b' s = oUw b s := by unfold oUw; rw [hv (2 * s) (by omega), v3 (2 * s) (by omega) (by omega)]
      have hD1 : ∀ t g, oDw b s t g → oDw b' s t g ∨ g = q := by
        intro t g w
        unfold oDw at *
        rw [v1] at w
        rw [hv (2 * s + 1) (by omega), v2]
        rcases List.mem_append.mp w with w | w
        · exact Or.inl (List.mem_append_left _ w)
        · rcases List.mem_cons.mp w with w | w
          · exact Or.inr (Prod.mk.inj w).2
          · exact Or.inl (List.mem_append_right _ w)
      have hD2 : ∀ t g, oDw b' s t g → oDw b s t g := by
        intro t g w
        unfold oDw at *
        rw [hv (2 * s + 1) (by omega), v2] at w
        rw [v1]
        rcases List.mem_append.mp w with w | w
        · exact List.mem_append_left _ w
        · exact List.mem_append_right _ (List.mem_cons_of_mem _ w)
      refine ⟨by rw [e48]; exact j1, ?_, ?_, fun t g w => j4 t g (hD2 t g w), fun k l w => j5 k l (hK k l w).1⟩
      · rw [e48]
        exact TI1_dn (r := q) j2 (fun t g w => by rw [eU]; exact w) hD1 (fun k l w => ⟨(hK k l w).1, (hK k l w).2 rfl⟩)
      · rw [eU]; exact j3
    · exact TJs_o (hs s hs') (by rw [hv (2 * s) (by omega), v3 (2 * s) (by omega) (by omega)]) (by rw [hv (2 * s + 1) (by omega), v3 (2 * s + 1) (by omega) (by omega)]) (f48 _) (f48 _) (fun k l w => (hK k l w).1)
