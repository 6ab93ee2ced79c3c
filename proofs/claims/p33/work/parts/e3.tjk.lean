/-! ===== when what is kept was put: repeats, giving up, a whole tick ===== -/
/-- when payments were made; nothing is old -/
def TkX (a b : TS) (X : Nat) : Prop := ∀ p, p < tZ a 29 0 → ∃ m, m ≤ X ∧ tI b 87 0 (10 * p + 6) = Int32.ofNat m
def TkY (a b : TS) (X T : Nat) : Prop := T + 1 ≤ X + 10 ∨ (∀ s, s < tZ a 27 0 → ∀ k l, oKw a b s k l → ∃ n, l = Int32.ofNat n ∧ n ≤ 3000 ∧ T < n + 10) ∧ ∀ p, p < tZ a 29 0 → tI b 87 0 (10 * p) = 1 → T + 1 ≤ X + 10
def TJb (a b : TS) (X T d : Nat) : Prop := TJ a b X T d ∧ TkX a b X ∧ TkY a b X T
set_option maxHeartbeats 2000000 in
theorem TJ_C {a a' b b' : TS} {X T d : Nat} (hE : EvC a b a' b') (hT : T < 3000) (hnd : NoDue a b T) (h : TJb a b X T d) : TJ a' b' X (T + 1) d := by
  obtain ⟨⟨hQ, hop, ⟨t1, t2, t3, t4, t5, t6⟩, has, hs⟩, -, hy⟩ := h
  obtain ⟨ca, cb⟩ := EvC_c hE
  obtain ⟨T', hT', ht', -, eb, hAl, hAl'⟩ := hE
  have e := o_inj (by omega) (by omega) (t3.symm.trans ht')
  subst e
  have n1 : tI b' 95 0 1 = Int32.ofNat (T + 1) := by rw [eb, tI_sI, if_pos ⟨rfl, rfl, rfl⟩]
  have z27 : tZ a' 27 0 = tZ a 27 0 := dZ ca (S := [27]) (P := []) (s := 27) (by decide) (by simp) 0
  have z29 : tZ a' 29 0 = tZ a 29 0 := dZ ca (S := [29]) (P := []) (s := 29) (by decide) (by simp) 0
  have hkl : ∀ s, s < tZ a 27 0 → kL a' b' s = kL a b s := fun s _ => kL_c ca cb (by decide) (by decide) s
  have hg : groQ b b' := groQ_c cb (by decide)
  have hv := (Ln0_o hAl.2.2.1.1 ca cb (by decide) (by decide) (by decide) hg).2
  have f5 := dI cb (S := []) (P := [(95, 5)]) (s := 95) (k := 5) (by decide) (by simp) 0
  have f2 := dI cb (S := []) (P := [(95, 2)]) (s := 95) (k := 2) (by decide) (by simp) 0
  have f87 : ∀ k, tI b' 87 0 k = tI b 87 0 k := dIS cb (S := [87]) (P := []) (s := 87) (by decide) (by simp) 0
  have f48 : ∀ c, tI b' 48 c = tI b 48 c := fun c => funext fun k => dIS cb (S := [48]) (P := []) (s := 48) (by decide) (by simp) c k
  refine ⟨KpQ_same hQ z27 hkl hg, by rw [f5]; exact hop, ⟨t1, by omega, n1, f2.trans t4, t5, t6⟩, fun p hp w => ?_, fun s hs' => ?_⟩
  · rw [f87] at w
    rcases hy with y | ⟨-, y⟩
    · exact y
    · exact y p (by omega) w
  · rw [z27] at hs'
    have hK := oK_same (s := s) hQ hkl hg hs'
    obtain ⟨j1, j2, j3, j4, j5⟩ := hs s hs'
    have e48 : lostN b' s = lostN b s := by unfold lostN; rw [f48, f48]
    have eU : oUw b' s = oUw b s := by unfold oUw; rw [(hv (2 * s) (by omega)).2]
    have eD : oDw b' s = oDw b s := by unfold oDw; rw [(hv (2 * s + 1) (by omega)).2]
    unfold TJs
    rw [e48, eU, eD]
    refine ⟨j1, TI1_m j2 (fun _ _ w => w) (fun _ _ w => w) hK (Nat.le_refl _), fun t g w => ?_, fun t g w => ?_, fun k l w => ?_⟩
    · obtain ⟨n, n1, n2, n3⟩ := j3 t g w
      obtain ⟨d', d1, d2, d3⟩ := hnd (2 * s) (by omega) _ w
      have d1 : t = Int32.ofNat d' := d1
      have := o_inj (by omega) (by omega) (n1.symm.trans d1)
      exact ⟨n, n1, by omega, n3⟩
    · obtain ⟨n, n1, n2, n3⟩ := j4 t g w
      obtain ⟨d', d1, d2, d3⟩ := hnd (2 * s + 1) (by omega) _ w
      have d1 : t = Int32.ofNat d' := d1
      have := o_inj (by omega) (by omega) (n1.symm.trans d1)
      exact ⟨n, n1, by omega, n3⟩
    · obtain ⟨⟨n, n1, n2, n3⟩, n4, n5⟩ := j5 k l (hK k l w)
      refine ⟨⟨n, n1, by omega, ?_⟩, n4, n5⟩
      rcases hy with y | ⟨y, -⟩
      · exact Or.inr y
      · obtain ⟨n', y1, y2, y3⟩ := y s hs' k l (hK k l w)
        have := o_inj (by omega) (by omega) (y1.symm.trans n1)
        exact Or.inl (by omega)
/-- one is kept: which are kept then -/
theorem oK_keep {a a' b b' : TS} {sh : Nat} {o q : Nat × Nat} (hQ : KpQ a b) (hE : KeepE a b a' b' sh (some o) (some q)) (hg : groQ b b') : (∀ s, s < tZ a 27 0 → s ≠ sh → ∀ k l, oKw a' b' s k l → oKw a b s k l) ∧ (sh < tZ a 27 0 → ∀ k l, oKw a' b' sh k l → oKw a b sh k l ∨ k = qv b' (some q) ∧ l = tI b 95 0 1) ∧ oKw a' b' sh (qv b' (some q)) (tI b 95 0 1) := by
  have hqv : ∀ s, s < tZ a 27 0 → ∀ x ∈ kL a b s, qv b' x.2.1 = qv b x.2.1 := by
    intro s hs x hx
    obtain ⟨r, r1, r2, r3⟩ := hQ s hs x hx
    rw [r1]
    exact qv_gro hg r2 r3
  refine ⟨fun s hs hne k l ⟨x, x1, x2, x3⟩ => ?_, fun hs k l ⟨x, x1, x2, x3⟩ => ?_, (some o, some q, tI b 95 0 1), ?_, rfl, rfl⟩
  · rw [hE.2 s hs hne] at x1
    exact ⟨x, x1, (hqv s hs x x1).symm.trans x2, x3⟩
  · rw [hE.1] at x1
    rcases List.mem_append.mp x1 with w | w
    · exact Or.inl ⟨x, w, (hqv sh hs x w).symm.trans x2, x3⟩
    · rw [List.mem_singleton.mp w] at x2 x3
      exact Or.inr ⟨x2.symm, x3.symm⟩
  · rw [hE.1]
    exact List.mem_append_right _ (List.mem_singleton.mpr rfl)
set_option maxHeartbeats 2000000 in
theorem TJ_G {a a' b b' : TS} {X T d : Nat} (hE : EvG a b a' b') (h : TJ a b X T d) : TJ a' b' X T d := by
  obtain ⟨sh, p, o, q, g, hsh, hp, p2, p0, -, p0', po, hKe, q1, q2, qg, g0, g1, g13, hv, e48, ⟨hPS, ca, cb, hg, -, -, -, -, -, hln, -⟩, hAl, hAl'⟩ := hE
  obtain ⟨hQ, hop, ⟨t1, t2, t3, t4, t5, t6⟩, has, hs⟩ := h
  have z27 : tZ a' 27 0 = tZ a 27 0 := dZ ca (S := [27]) (P := []) (s := 27) (by decide) (by simp) 0
  have z29 : tZ a' 29 0 = tZ a 29 0 := dZ ca (S := [29]) (P := []) (s := 29) (by decide) (by simp) 0
  obtain ⟨f5, f1, f2⟩ := o952_c cb (by decide)
  obtain ⟨k1, k2, k3⟩ := oK_keep hQ hKe hg
  have hT := has p hp p0
  refine ⟨(KM_keep hQ hKe q1 q2 hg z27 hsh).1, by rw [f5]; exact hop, ⟨t1, t2, f1.trans t3, f2.trans t4, t5, t6⟩, fun r hr w => hT, fun s hs' => ?_⟩
  rw [z27] at hs'
  by_cases e : s = sh
  · subst e
    rw [qg, t3] at k2 k3
    exact TJs_put (hs s hs') t1 t2 t6 t3 t4 hv (hln (2 * s + 1) (by omega) (by omega)).2.1 e48 (hln (2 * s + 1) (by omega) (by omega)).2.2.2 g13 (by rw [g0]; decide) k3 (fun k l w => (k2 hs' k l w).imp id (fun w => ⟨w.1, w.2, Or.inl hT⟩))
  · exact TJs_o (hs s hs') (hln (2 * s) (by omega) (by omega)).2.1 (hln (2 * s + 1) (by omega) (by omega)).2.1 (hln (2 * s) (by omega) (by omega)).2.2.2 (hln (2 * s + 1) (by omega) (by omega)).2.2.2 (k1 s hs' e)
set_option maxHeartbeats 2000000 in
theorem TJ_R {a a' b b' : TS} {X T d : Nat} (hE : EvR a b a' b') (h : TJ a b X T d) : TJ a' b' X T d := by
  obtain ⟨sh, k, c, i, q, l, T', hsh, hk, hk3, ht', hl, hT', hkl, hko, hv, e48, ⟨hPS, ca, cb, hg, -, -, -, -, hln, -⟩, hAl, hAl'⟩ := hE
  obtain ⟨hQ, hop, ⟨t1, t2, t3, t4, t5, t6⟩, has, hs⟩ := h
  have e := o_inj (by omega) (by omega) (t3.symm.trans ht')
  subst e
  have z27 : tZ a' 27 0 = tZ a 27 0 := dZ ca (S := [27]) (P := []) (s := 27) (by decide) (by simp) 0
  have z29 : tZ a' 29 0 = tZ a 29 0 := dZ ca (S := [29]) (P := []) (s := 29) (by decide) (by simp) 0
  obtain ⟨f5, f1, f2⟩ := o952_c cb (by decide)
  have f87 : ∀ k, tI b' 87 0 k = tI b 87 0 k := dIS cb (S := [87]) (P := []) (s := 87) (by decide) (by simp) 0
  have hat : (kL a b sh)[k]? = some (some (c, i), some q, Int32.ofNat l) := by
    unfold kL
    rw [List.getElem?_map, List.getElem?_range hk, Option.map_some, hk3]
  have hmem : (some (c, i), some q, Int32.ofNat l) ∈ kL a b sh := List.mem_of_getElem? hat
  have hklen : k < (kL a b sh).length := by unfold kL; rw [List.length_map, List.length_range]; exact hk
  obtain ⟨q', e1, e2, e3⟩ := hQ sh hsh _ hmem
  have e1 := Option.some.inj (show some q = some q' from e1)
  subst e1
  have hqv : ∀ s, s < tZ a 27 0 → ∀ x ∈ kL a b s, qv b' x.2.1 = qv b x.2.1 := by
    intro s hs x hx
    obtain ⟨r, r1, r2, r3⟩ := hQ s hs x hx
    rw [r1]
    exact qv_gro hg r2 r3
  refine ⟨fun s hs' x hx => ?_, by rw [f5]; exact hop, ⟨t1, t2, f1.trans t3, f2.trans t4, t5, t6⟩, fun p hp w => by rw [f87] at w; exact has p (by omega) w, fun s hs' => ?_⟩
  · rw [z27] at hs'
    by_cases e : s = sh
    · subst e
      rw [hkl] at hx
      rcases List.mem_or_eq_of_mem_set hx with w | w
      · obtain ⟨r, r1, r2, r3⟩ := hQ s hs' x w
        exact ⟨r, r1, r2, Nat.lt_of_lt_of_le r3 (hg r.1 r2).1⟩
      · rw [w]
        exact ⟨q, rfl, e2, Nat.lt_of_lt_of_le e3 (hg q.1 e2).1⟩
    · rw [hko s hs' e] at hx
      obtain ⟨r, r1, r2, r3⟩ := hQ s hs' x hx
      exact ⟨r, r1, r2, Nat.lt_of_lt_of_le r3 (hg r.1 r2).1⟩
  · rw [z27] at hs'
    by_cases e : s = sh
    · subst e
      have old : oKw a b s (qv b (some q)) (Int32.ofNat l) := ⟨_, hmem, rfl, rfl⟩
      obtain ⟨⟨n, n1, n2, n3⟩, g0, g13⟩ := (hs s hs').2.2.2.2 _ _ old
      have := o_inj (by omega) (by omega) n1
      subst this
      refine TJs_put (g := qv b (some q)) (hs s hs') t1 t2 t6 t3 t4 hv (hln (2 * s + 1) (by omega) (by omega)).2.1 e48 (hln (2 * s + 1) (by omega) (by omega)).2.2.2 g13 g0 ?_ (fun k' l' ⟨x, x1, x2, x3⟩ => ?_)
      · refine ⟨(some (c, i), some q, Int32.ofNat T), ?_, qv_gro hg e2 e3, rfl⟩
        rw [hkl]
        exact List.mem_iff_getElem?.mpr ⟨k, by rw [List.getElem?_set_self hklen]⟩
      · rw [hkl] at x1
        rcases List.mem_or_eq_of_mem_set x1 with w | w
        · exact Or.inl ⟨x, w, (hqv s hs' x w).symm.trans x2, x3⟩
        · rw [w] at x2 x3
          refine Or.inr ⟨x2.symm.trans (qv_gro hg e2 e3), x3.symm, ?_⟩
          rcases n3 with n3 | n3
          · exact Or.inr ⟨l, by omega, old, by omega⟩
          · exact Or.inl n3
    · exact TJs_o (hs s hs') (hln (2 * s) (by omega) (by omega)).2.1 (hln (2 * s + 1) (by omega) (by omega)).2.1 (hln (2 * s) (by omega) (by omega)).2.2.2 (hln (2 * s + 1) (by omega) (by omega)).2.2.2 (fun k l ⟨x, x1, x2, x3⟩ => by
        rw [hko s hs' e] at x1
        exact ⟨x, x1, (hqv s hs' x x1).symm.trans x2, x3⟩)
theorem TJ_L {a a' b b' : TS} {X T d : Nat} (hE : EvL a b a' b') (h : TJ a b X T d) : TJ a' b' X T d := by
  rcases hE with (h1 | h1) | (h1 | h1)
  · exact TJ_H h1 h
  · exact TJ_D h1 h
  · exact TJ_T h1 h
  · exact TJ_D h1 h
/-- when a payment was made stays -/
theorem tick6 {a a' b b' : TS} {D : List Nat} {F : List (Nat × Nat)} (hR : R0 a b) (hR' : R0 a' b') (ca : chF D F a a') (hd : dpk D F [29] [(38, 6)] = true) {p : Nat} (hp : p < tZ a 29 0) : tI b' 87 0 (10 * p + 6) = tI b 87 0 (10 * p + 6) := by
  have z29 : tZ a' 29 0 = tZ a 29 0 := dZ ca hd (s := 29) (by simp) 0
  obtain ⟨-, -, -, -, -, -, x, -⟩ := (r_P' hR).2.2.2.2.1 p hp
  obtain ⟨-, -, -, -, -, -, y, -⟩ := (r_P' hR').2.2.2.2.1 p (by omega)
  rw [← x, ← y]
  exact dI ca hd (s := 38) (k := 6) (by simp) p
theorem dpk_T : dpk TkA FtA [27, 29] [(38, 6)] = true := by decide
set_option maxHeartbeats 2000000 in
theorem TJ_tick {a a' b b' : TS} {X T d : Nat} (hE : TickE a b a' b') (h : TJb a b X T d) : TJb a' b' X (T + 1) d ∧ tZ a' 27 0 = tZ a 27 0 ∧ tZ a' 29 0 = tZ a 29 0 := by
  obtain ⟨T', a0, b0, a1, b1, hT', ht', hC, hnd, hL, -, hM, -, hgy, ⟨hAl, -, -, hAl'⟩, ⟨⟨c1, -⟩, ⟨c2, -⟩, ⟨c3, -⟩⟩, -, hcl⟩ := hE
  obtain ⟨hJ, hB, -⟩ := id h
  have e := o_inj (by omega) (by have := hJ.2.2.1.2.1; omega) (ht'.symm.trans hJ.2.2.1.2.2.1)
  subst e
  have ca : chF TkA FtA a a' := chF_t c1 (chF_t c2 c3)
  have z27 : tZ a' 27 0 = tZ a 27 0 := dZ ca dpk_T (s := 27) (by simp) 0
  have z29 : tZ a' 29 0 = tZ a 29 0 := dZ ca dpk_T (s := 29) (by simp) 0
  have hJ' : TJ a' b' X (T' + 1) d := by
    refine hM (fun x y => TJ x y X (T' + 1) d) (fun x y x' y' e h => ?_) (hL (fun x y => TJ x y X (T' + 1) d) (fun x y x' y' e h => TJ_L e h) (TJ_C hC hT' hnd h))
    rcases e with e | e
    · exact TJ_G e h
    · exact TJ_R e h
  have hB' : TkX a' b' X := by
    intro p hp
    obtain ⟨m, m1, m2⟩ := hB p (by omega)
    exact ⟨m, m1, (tick6 hAl.1 hAl'.1 ca (dpk_sub dpk_T (by simp) (by simp)) (by omega)).trans m2⟩
  refine ⟨⟨hJ', hB', Or.inr ⟨fun s hs k l hk => ?_, fun p hp hp1 => ?_⟩⟩, z27, z29⟩
  · obtain ⟨x, x1, x2, x3⟩ := hk
    obtain ⟨⟨n, n1, n2, -⟩, -⟩ := (hJ'.2.2.2.2 s hs).2.2.2.2 k l ⟨x, x1, x2, x3⟩
    refine ⟨n, n1, by have := hJ'.2.2.1.2.1; omega, ?_⟩
    obtain ⟨i, i1, i2⟩ := List.mem_map.mp x1
    have hmem : n ∈ KTs a' b' s := by
      unfold KTs
      refine List.mem_map.mpr ⟨i, i1, ?_⟩
      have : tI b' 67 0 (500 * s + i) = Int32.ofNat n := by rw [← n1, ← x3, ← i2]; rfl
      show (tI b' 67 0 (500 * s + i)).toNatClampNeg = n
      rw [this, o_ix (by have := hJ'.2.2.1.2.1; omega)]
    exact (hgy s hs).2 n hmem
  · obtain ⟨m, m1, m2⟩ := hB' p hp
    obtain ⟨-, -, -, ⟨s, s1, -, s3⟩, -⟩ := (r_P' hAl'.1).2.2.2.2.1 p hp
    have hg := (hgy s s1).1 p hp s3 hp1
    have hX := hJ'.2.2.1.1
    rw [hcl, m2] at hg
    have := i32_8 (T := T' + 1) (l := m) (by omega) (by omega)
    have hh : ¬ m + 8 ≤ T' + 1 := fun w => hg (this.mpr w)
    omega
