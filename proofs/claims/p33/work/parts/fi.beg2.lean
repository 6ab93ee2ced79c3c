/-! ===== the law begins: accounts, shops, cards ===== -/
theorem inR_n {v hi : Nat} (h : v ≤ hi) (hh : hi < 2 ^ 31) : inR (Int32.ofNat v) 0 (Int32.ofNat hi) := by
  refine ⟨o_lt0 (by omega), fun q => ?_⟩
  rw [Int32.lt_iff_toInt_lt, Int32.toInt_ofNat_of_lt hh, Int32.toInt_ofNat_of_lt (show v < 2 ^ 31 by omega)] at q
  omega
theorem acc_step {a0 a b : TS} {t : List Int32} {A S Q v : Nat} (h : Bl a0 a b) (hf : FeeI b) (hk : tZ a 26 0 < A) (hT : TP a b t A S Q) (hl : t.length = 60) (hv : v ≤ 90000) (z27 : tZ a 27 0 = 0) (z28 : tZ a 28 0 = 0) :
    ∃ a' b', (∀ w, Ex 321 [aR (some (96, 0)), aI 0, aI (Int32.ofNat v), aI 0, aI 0, aI 0] (enc 1 a w) = some (.inl (some (aI (Int32.ofNat (tZ a 26 0)))), enc 1 a' w)) ∧ Bl a0 a' b' ∧ FeeI b' ∧ tZ a' 26 0 = tZ a 26 0 + 1 ∧ tZ a' 27 0 = 0 ∧ tZ a' 28 0 = 0 ∧ TP a' b' (t.set (10 + tZ a 26 0) (Int32.ofNat v)) A S Q := by
  obtain ⟨⟨q0, q1, q2, q3, q4⟩, s2, s3, s4, s5, s6⟩ := id hT
  obtain ⟨a', b', hx, hC', hw', ca, cb, z26, v43, v91⟩ := oc_account h.1 (inR_n (v := v) (hi := 9000000) (by omega) (by omega)) (by omega)
  have hm := h.2.2.1.2.2.2.2
  have y27 : tZ a' 27 0 = tZ a 27 0 := dZ ca (S := [27]) (P := []) (s := 27) (by decide) (by simp) 0
  have y28 : tZ a' 28 0 = tZ a 28 0 := dZ ca (S := [28]) (P := []) (s := 28) (by decide) (by simp) 0
  have g : ∀ j, (t.set (10 + tZ a 26 0) (Int32.ofNat v)).getD j 0 = if j = 10 + tZ a 26 0 then Int32.ofNat v else t.getD j 0 := fun j => getD_set (by omega)
  refine ⟨a', b', fun w => dn_0 hx, Bl_c h hC' hw' ca cb (by decide) (by decide) (by decide) (groQ_c cb (by decide)) ?_, FeeI_c hf cb (by decide), z26, y27.trans z27, y28.trans z28, ?_⟩
  · rw [z26, v91, ← hm]
    show S64 (fun u => tL b' 43 0 u) (tZ a 26 0) + tL b' 43 0 (tZ a 26 0) = _
    rw [v43, if_pos rfl, S64_eq (f := fun u => tL b' 43 0 u) (g := fun u => tL b 43 0 u) (tZ a 26 0) (fun k hk => by show tL b' 43 0 k = _; rw [v43, if_neg (by omega)])]
  · refine ⟨⟨by rw [g, if_neg (by omega)]; exact q0, by rw [g, if_neg (by omega)]; exact q1, by rw [g, if_neg (by omega)]; exact q2, by rw [g, if_neg (by omega)]; exact q3, by rw [g, if_neg (by omega)]; exact q4⟩, s2, fun u hu => ?_, fun k hk => by omega, fun s hs => by omega, fun j hj => by rw [g, if_neg (by omega)]; exact s6 j hj⟩
    rw [z26] at hu
    rw [g, v43]
    by_cases e : u = tZ a 26 0
    · rw [if_pos e, if_pos (by omega)]
    · rw [if_neg e, if_neg (by omega)]
      exact s3 u (by omega)
theorem shp_step {a0 a b : TS} {t : List Int32} {A S Q p0 p1 : Nat} (h : Bl a0 a b) (hf : FeeI b) (hk : tZ a 27 0 < S) (hT : TP a b t A S Q) (hl : t.length = 60) (hp0 : p0 ≤ 50000) (hp1 : p1 ≤ 9) (z26 : tZ a 26 0 = A) (z28 : tZ a 28 0 = 0) :
    ∃ a' b', (∀ w, Ex 321 [aR (some (96, 0)), aI 1, aI (Int32.ofNat p0), aI (Int32.ofNat p1), aI 0, aI 0] (enc 1 a w) = some (.inl (some (aI (Int32.ofNat (tZ a 27 0)))), enc 1 a' w)) ∧ Bl a0 a' b' ∧ FeeI b' ∧ tZ a' 26 0 = A ∧ tZ a' 27 0 = tZ a 27 0 + 1 ∧ tZ a' 28 0 = 0 ∧ TP a' b' (t.set (40 + tZ a 27 0) (Int32.ofNat p0)) A S Q := by
  obtain ⟨⟨q0, q1, q2, q3, q4⟩, s2, s3, s4, s5, s6⟩ := id hT
  obtain ⟨a', b', hx, hC', hw', hS⟩ := oc_shop h.1 (inR_n (v := p0) (hi := 50000) (by omega) (by omega)) (inR_n (v := p1) (hi := 9) (by omega) (by omega)) (by omega)
  have hB := Bl_shop h hC' hw' hS
  obtain ⟨z27, -, -, -, v88, ca, cb⟩ := hS
  have y26 : tZ a' 26 0 = tZ a 26 0 := dZ ca (S := [26]) (P := []) (s := 26) (by decide) (by simp) 0
  have y28 : tZ a' 28 0 = tZ a 28 0 := dZ ca (S := [28]) (P := []) (s := 28) (by decide) (by simp) 0
  have e43 : ∀ k, tL b' 43 0 k = tL b 43 0 k := dLS cb (S := [43]) (P := []) (s := 43) (by decide) (by simp) 0
  have g : ∀ j, (t.set (40 + tZ a 27 0) (Int32.ofNat p0)).getD j 0 = if j = 40 + tZ a 27 0 then Int32.ofNat p0 else t.getD j 0 := fun j => getD_set (by omega)
  refine ⟨a', b', fun w => dn_1 hx, hB, FeeI_c hf cb (by decide), y26.trans z26, z27, y28.trans z28, ⟨by rw [g, if_neg (by omega)]; exact q0, by rw [g, if_neg (by omega)]; exact q1, by rw [g, if_neg (by omega)]; exact q2, by rw [g, if_neg (by omega)]; exact q3, by rw [g, if_neg (by omega)]; exact q4⟩, s2, fun u hu => ?_, fun k hk => by omega, fun s hs => ?_, fun j hj => by rw [g, if_neg (by omega)]; exact s6 j hj⟩
  · rw [g, if_neg (by omega), e43]
    exact s3 u (by omega)
  · rw [z27] at hs
    rw [g, v88]
    by_cases e : s = tZ a 27 0
    · rw [if_pos e, if_pos (by omega)]
    · rw [if_neg e, if_neg (by omega)]
      exact s5 s (by omega)
theorem crd_step {a0 a b : TS} {t : List Int32} {A S Q ac pin p2 p3 : Nat} (h : Bl a0 a b) (hf : FeeI b) (hk : tZ a 28 0 < Q) (hT : TP a b t A S Q) (hl : t.length = 60) (hac : ac < A) (hpin : pin ≤ 9999) (hp2 : p2 ≤ 9) (hp3 : p3 ≤ 100000) (z26 : tZ a 26 0 = A) (z27 : tZ a 27 0 = S) :
    ∃ a' b', (∀ w, Ex 321 [aR (some (96, 0)), aI 2, aI (Int32.ofNat ac), aI (Int32.ofNat pin), aI (Int32.ofNat p2), aI (Int32.ofNat p3)] (enc 1 a w) = some (.inl (some (aI (Int32.ofNat (tZ a 28 0)))), enc 1 a' w)) ∧ (∀ w, Ex 321 [aR (some (96, 0)), aI 15, aI (Int32.ofNat (tZ a 28 0)), aI 7, aI 0, aI 0] (enc 1 a' w) = some (.inl (some (aI (keyL (Int32.ofNat (tZ a 28 0))).toInt32)), enc 1 a' w)) ∧ Bl a0 a' b' ∧ FeeI b' ∧ tZ a' 26 0 = A ∧ tZ a' 27 0 = S ∧ tZ a' 28 0 = tZ a 28 0 + 1 ∧ TP a' b' ((t.set (20 + tZ a 28 0) (Int32.ofNat ac)).set (30 + tZ a 28 0) (Int32.ofNat pin)) A S Q := by
  obtain ⟨⟨q0, q1, q2, q3, q4⟩, s2, s3, s4, s5, s6⟩ := id hT
  obtain ⟨a', b', hx, hC', hw', ca, cb, z28, v86⟩ := oc_card (t := ac) h.1 (by omega) (inR_n (v := pin) (hi := 9999) (by omega) (by omega)) (inR_n (v := p2) (hi := 9) (by omega) (by omega)) (inR_n (v := p3) (hi := 100000) (by omega) (by omega)) (by omega)
  have hB := Bl_card h hC' hw' ca cb z28 v86
  have y26 : tZ a' 26 0 = tZ a 26 0 := dZ ca (S := [26]) (P := []) (s := 26) (by decide) (by simp) 0
  have y27 : tZ a' 27 0 = tZ a 27 0 := dZ ca (S := [27]) (P := []) (s := 27) (by decide) (by simp) 0
  have e43 : ∀ k, tL b' 43 0 k = tL b 43 0 k := dLS cb (S := [43]) (P := []) (s := 43) (by decide) (by simp) 0
  have e88 : ∀ k, tI b' 88 0 k = tI b 88 0 k := dIS cb (S := [88]) (P := []) (s := 88) (by decide) (by simp) 0
  have g : ∀ j, ((t.set (20 + tZ a 28 0) (Int32.ofNat ac)).set (30 + tZ a 28 0) (Int32.ofNat pin)).getD j 0 = if j = 30 + tZ a 28 0 then Int32.ofNat pin else if j = 20 + tZ a 28 0 then Int32.ofNat ac else t.getD j 0 := fun j => by
    rw [getD_set (by rw [List.length_set]; omega), getD_set (by omega)]
  have hkey : (tI a' 37 (tZ a 28 0) 3).toInt64 = keyL (Int32.ofNat (tZ a 28 0)) := by
    obtain ⟨-, -, -, -, e, -⟩ := (r_C hC'.1.1).2.2.2.2 (tZ a 28 0) (by omega)
    exact e
  refine ⟨a', b', fun w => dn_2 hx, fun w => dn_15 (fun z => ?_), hB, FeeI_c hf cb (by decide), y26.trans z26, y27.trans z27, z28, ⟨by rw [g, if_neg (by omega), if_neg (by omega)]; exact q0, by rw [g, if_neg (by omega), if_neg (by omega)]; exact q1, by rw [g, if_neg (by omega), if_neg (by omega)]; exact q2, by rw [g, if_neg (by omega), if_neg (by omega)]; exact q3, by rw [g, if_neg (by omega), if_neg (by omega)]; exact q4⟩, s2, fun u hu => ?_, fun k hk => ?_, fun s hs => ?_, fun j hj => by rw [g, if_neg (by omega), if_neg (by omega)]; exact s6 j hj⟩
  · have := x125 (z := z) (cd := tZ a 28 0) (m := 7) hC'.1.1 (by omega) (by omega)
    rw [← hkey, Int32.toInt32_toInt64]
    exact this
  · rw [g, if_neg (by omega), if_neg (by omega), e43]
    exact s3 u (by omega)
  · rw [z28] at hk
    rw [g, g, v86, v86]
    by_cases e : k = tZ a 28 0
    · subst e
      rw [if_neg (by omega), if_pos rfl, if_pos rfl, if_pos rfl, if_neg (by omega), if_neg (by omega), if_pos rfl]
      exact ⟨rfl, rfl, pin, hpin, rfl⟩
    · rw [if_neg (by omega), if_neg (by omega), if_neg (by omega), if_neg (by omega), if_neg (by omega), if_neg (by omega), if_neg (by omega), if_neg (by omega), if_neg (by omega), if_neg (by omega), if_neg (by omega), if_neg (by omega), if_neg (by omega), if_neg (by omega)]
      exact s4 k (by omega)
  · rw [g, if_neg (by omega), if_neg (by omega), e88]
    exact s5 s (by omega)

