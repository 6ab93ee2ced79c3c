/-! ===== the law's acts: the pieces ===== -/
theorem IL_x2 {a0 a b : TS} {u T L : Nat} {t : List Int32} (h : IL a0 a b u T L t) (hu : u + 1 ≤ 71) : IL a0 (aC (aC a 1 6) 1 6) b (u + 1) T L t := by
  obtain ⟨put, D, k, ⟨h1, h2, h3, h4⟩, hC, hT, hM, hL, hK, hf, hF, hTL, hN, hW⟩ := h
  exact ⟨put, D, k + 2, ⟨by omega, by omega, by show tZ a 29 0 ≤ _; omega, hu⟩, Core_C (Core_aC (Core_aC hC)) (by omega) (by omega), hT, hM, hL, hK, hf, FtI_F2 (show FtI (aC (aC a 1 6) 1 6) b L (3 * u) from hF) (by omega) (Nat.le_refl _), hTL, hN, WrX_e (WrX_e hW)⟩
theorem nov1 : noV 1 = (-1000000001 : Int32) := rfl
theorem nov2 : noV 2 = (-1000000002 : Int32) := rfl
theorem nov3 : noV 3 = (-1000000003 : Int32) := rfl
theorem o_ne {k : Nat} {c : Int32} (hk : k < 2 ^ 31) (hc : c < 0) : ¬ Int32.ofNat k = c := fun q => by
  rw [← q] at hc
  exact o_lt0 hk hc
/-- money back, by the law -/
theorem bk_513 {a0 a b : TS} {w : Hp} {u T L n sh p : Nat} {t : List Int32} (h : IL a0 a b u T L t) (hu : u + 1 ≤ 71) (hwt : WT w n t) (hsh : sh < tZ a 27 0) (hp : p < tZ a 29 0) :
    ∃ a' b' w', Ru 329 513 [(0, aR (some (96, 0))), (1, aR (some (100, 0))), (4, aI 20), (5, aI (Int32.ofNat sh)), (6, aI (Int32.ofNat p))] [] (enc 1 a w) = some (.inl (some (aI 1)), enc 1 a' w') ∧ IL a0 a' b' (u + 1) T L t ∧ WT w' (nS n) t ∧ w'.2 = w.2 ∧ tZ a' 29 0 = tZ a 29 0 ∧ tI b' 95 0 6 = tI b 95 0 6 := by
  have hI := h
  obtain ⟨put, D, k, ⟨h1, h2, h3, h4⟩, hC, hT, hM, hL, hK, hf, hF, hTL, hN, hW⟩ := hI
  obtain ⟨w1, f1, W1, r1⟩ := x320 (a := a) (l := 1) (k := 500) (lo := 1) (hi := 500) hwt rfl rfl (by omega) (by omega)
  have hmb := Nat.mod_lt (nS n / 512) (show 0 < 500 - 1 + 1 by omega)
  have e2 : inR (Int32.ofNat (1 + nS n / 512 % (500 - 1 + 1))) 1 100000 := by
    refine ⟨fun q => ?_, fun q => ?_⟩
    · rw [Int32.lt_iff_toInt_lt, Int32.toInt_ofNat_of_lt (by omega)] at q
      have : (1 : Int32).toInt = 1 := rfl
      omega
    · rw [Int32.lt_iff_toInt_lt, Int32.toInt_ofNat_of_lt (by omega)] at q
      have : (100000 : Int32).toInt = 100000 := rfl
      omega
  have hs4 := (r_S hC.1.1).1
  have hp2 := (r_P' hC.1.1).1
  rcases oc_back hC hsh hp e2 with ⟨hne, hx⟩ | ⟨he, hx⟩ | ⟨he, m, a', b', hm, hx, hC', hw', hE⟩
  · have q2 := qp (w := hX w1 (exN 2)) (k := 2) (x := 2) (Core_aC hC) hp (by omega) rfl rfl
    refine ⟨aC a 1 6, b, hX w1 (exN 2), ?_, IL_x h hu, WT_X W1 _, r1, rfl, rfl⟩
    rw [lf_329_513, if_pos rfl, f1, cI_v, dx_6 (by omega) (by omega) hx, cI_v, q2, cI_v, if_neg hne, if_pos nov2]
  · have q2 := qp (w := hX w1 (exN 3)) (k := 2) (x := 2) (Core_aC hC) hp (by omega) rfl rfl
    refine ⟨aC a 1 6, b, hX w1 (exN 3), ?_, IL_x h hu, WT_X W1 _, r1, rfl, rfl⟩
    rw [lf_329_513, if_pos rfl, f1, cI_v, dx_6 (by omega) (by omega) hx, cI_v, q2, cI_v, if_pos he, if_neg (by decide), if_pos nov3, lf_329_569]
  · have hE' := hE
    obtain ⟨sh', p', m', o, q, g, -, -, -, -, ca, cb, -, -⟩ := hE'
    have z29 : tZ a' 29 0 = tZ a 29 0 := dZ ca (S := [29]) (P := []) (s := 29) (by decide) (by simp) 0
    have e87 : tI b' 87 0 (10 * p + 2) = tI b 87 0 (10 * p + 2) := dIS cb (S := [87]) (P := []) (s := 87) (by decide) (by simp) 0 _
    have q2 := qp (w := w1) (k := 2) (x := 2) hC' (by rw [z29]; exact hp) (by omega) rfl rfl
    refine ⟨a', b', w1, ?_, IL_u (IL_back h hC' hw' hE) hu, W1, r1, z29, dI cb (S := []) (P := [(95, 6)]) (s := 95) (k := 6) (by decide) (by simp) 0⟩
    rw [lf_329_513, if_pos rfl, f1, cI_v, dn_6 hx, cI_v, q2, cI_v, if_pos (e87.trans he), if_pos (Int32.not_lt.mp (o_lt0 (by omega))), lf_329_569]
/-- a dispute, by the law -/
theorem ds_513 {a0 a b : TS} {w : Hp} {u T L n p : Nat} {v5 : Int32} {t : List Int32} (h : IL a0 a b u T L t) (hu : u + 1 ≤ 71) (hwt : WT w n t) (hp : p < tZ a 29 0) :
    ∃ a' b' w', Ru 329 513 [(0, aR (some (96, 0))), (1, aR (some (100, 0))), (4, aI 21), (5, aI v5), (6, aI (Int32.ofNat p))] [] (enc 1 a w) = some (.inl (some (aI 1)), enc 1 a' w') ∧ IL a0 a' b' (u + 1) T L t ∧ WT w' n t ∧ w'.2 = w.2 ∧ tZ a' 29 0 = tZ a 29 0 ∧ tI b' 95 0 6 = tI b 95 0 6 := by
  have hI := h
  obtain ⟨put, D, k, ⟨h1, h2, h3, h4⟩, hC, hT, hM, hL, hK, hf, hF, hTL, hN, hW⟩ := hI
  have hp2 := (r_P' hC.1.1).1
  have pk : p < 1000 := by omega
  have k6 : Ex 321 [aR (some (96, 0)), aI 17, aI (Int32.ofNat p), aI 6, aI 0, aI 0] (enc 1 a w) = some (.inl (some (aI (hI b p 16))), enc 1 a w) := qk (k := 6) hC pk (by omega) rfl rfl
  have k7 : Ex 321 [aR (some (96, 0)), aI 17, aI (Int32.ofNat p), aI 7, aI 0, aI 0] (enc 1 a w) = some (.inl (some (aI (hI b p 15))), enc 1 a w) := qk (k := 7) hC pk (by omega) rfl rfl
  rcases oc_dispute hC hp with ⟨hd, a', b', hx, hC', hw', ca, cb, hP⟩ | ⟨hd, hx⟩
  · have hI2 := IL_dispute h hC' hw' hp hd ca cb hP
    have z29 : tZ a' 29 0 = tZ a 29 0 := dZ ca (S := [29]) (P := []) (s := 29) (by decide) (by simp) 0
    obtain ⟨kk, tt, ss, -, -, -, -, -, -, vI, -⟩ := hP
    have e11 : hI b' p 11 = 1 := by rw [vI p 11 pk]; simp
    have e16 : hI b' p 16 = 0 := by rw [vI p 16 pk]; simp
    have hnn := left_nn hC.1.1 pk
    obtain ⟨⟨d, d1, d2⟩, -⟩ := (hM.2.1 p pk).2 hd.1
    have k6' : Ex 321 [aR (some (96, 0)), aI 17, aI (Int32.ofNat p), aI 6, aI 0, aI 0] (enc 1 a' w) = some (.inl (some (aI (hI b' p 16))), enc 1 a' w) := qk (k := 6) hC' pk (by omega) rfl rfl
    have n1 := qn (w := w) (m := 1) (x := 1) hC' (by simp) rfl
    have e97 : tI b' 97 0 6 = tI b 94 0 11 := by
      rw [dI cb (S := []) (P := [(97, 6)]) (s := 97) (k := 6) (by decide) (by simp) 0]
      exact ((hC.1.1.2.2.2.2.2.2.2.2.2.2.2.2.1 : RH a b).2.1.2).symm
    rcases oc_dispute hC' (show p < tZ a' 29 0 by omega) with ⟨hd2, -⟩ | ⟨-, hx2⟩
    · exact absurd (hd2.2.1.symm.trans e11) (by decide)
    · refine ⟨aC a' 1 6, b', hX w (exN 3), ?_, IL_x hI2 hu, WT_X hwt _, rfl, z29, dI cb (S := []) (P := [(95, 6)]) (s := 95) (k := 6) (by decide) (by simp) 0⟩
      have ne3 : ¬ hI b p 16 = (-1000000003 : Int32) := fun q => by
        rw [q] at hnn
        exact absurd hnn (by decide)
      rw [lf_329_513, if_neg (by decide), k6, cI_v, k7, cI_v, dn_14 hx, cI_v, if_neg ne3, if_pos rfl, if_neg (by rw [d1]; exact o_lt0 (by omega)), n1, cI_v, if_neg (by show ¬ (1 : Int32) < tI b' 97 0 6 - hI b p 15; rw [e97]; exact hd.2.2.2), k6', cI_v, if_pos e16, dx_14 (by omega) (by omega) hx2, cI_v, if_pos nov3]
  · have k6' : Ex 321 [aR (some (96, 0)), aI 17, aI (Int32.ofNat p), aI 6, aI 0, aI 0] (enc 1 (aC a 1 6) (hX w (exN 3))) = some (.inl (some (aI (hI b p 16))), enc 1 (aC a 1 6) (hX w (exN 3))) := qk (k := 6) (Core_aC hC) pk (by omega) rfl rfl
    refine ⟨aC a 1 6, b, hX w (exN 3), ?_, IL_x h hu, WT_X hwt _, rfl, rfl, rfl⟩
    rw [lf_329_513, if_neg (by decide), k6, cI_v, k7, cI_v, dx_14 (by omega) (by omega) hx, cI_v, if_pos nov3, k6', cI_v, if_pos rfl]
/-- a thief, by the law -/
theorem fg_468 {a0 a b : TS} {w : Hp} {u T L n p s : Nat} {t : List Int32} (h : IL a0 a b u T L t) (hu : u + 1 ≤ 71) (hwt : WT w n t) (hp : p < tZ a 29 0) (hs : s ≤ 999) :
    ∃ a' b' w', Ru 329 468 [(0, aR (some (96, 0))), (1, aR (some (100, 0))), (2, aR (some (101, 0))), (6, aI (Int32.ofNat p))] [aI (Int32.ofNat s)] (enc 1 a w) = some (.inl (some (aI 1)), enc 1 a' w') ∧ IL a0 a' b' (u + 1) T L (t.set 4 1) ∧ WT w' (nS n) (t.set 4 1) ∧ w'.2 = w.2 ∧ tZ a' 29 0 = tZ a 29 0 := by
  have hI := h
  obtain ⟨put, D, k, ⟨h1, h2, h3, h4⟩, hC, hT, hM, hL, hK, hf, hF, hTL, hN, hW⟩ := hI
  have q1 := hTL.1.2.1
  have sS := hTL.2.1.2.1
  have hlen := hwt.2.2.2
  have hp2 := (r_P' hC.1.1).1
  obtain ⟨p1, W1, r1⟩ := tb_set (a := a) (i := 4) (x := 4) (v := 1) hwt rfl (by omega)
  obtain ⟨w2, f2, W2, r2⟩ := x319 (a := a) W1
  have g1 := tb_get (a := a) (i := 1) (x := 1) W2 rfl (by omega)
  rw [getD_set (by omega), if_neg (by omega), q1] at g1
  have i1 : imod (Int32.ofNat (nS n / 512)) (Int32.ofNat (tZ a 27 0)) = Int32.ofNat (nS n / 512 % tZ a 27 0) := imod_n (by have := nx_lt n; omega) (by omega) (by omega)
  have hsh : nS n / 512 % tZ a 27 0 < tZ a 27 0 := Nat.mod_lt _ (by omega)
  have z1 : ¬ Int32.ofNat (tZ a 27 0) = 0 := fun q => by have := o_inj (n := tZ a 27 0) (k := 0) (by omega) (by omega) q; omega
  obtain ⟨a', b', hx, hC', hw', hE⟩ := oc_forge hC (by omega) hsh hp hs
  have hE' := hE
  obtain ⟨sh, g, -, -, -, e6, ca, cb, -, -⟩ := hE'
  have z29 : tZ a' 29 0 = tZ a 29 0 := dZ ca (S := [29]) (P := []) (s := 29) (by decide) (by simp) 0
  have e87 : tI b' 87 0 (10 * p + 5) = tI b 87 0 (10 * p + 5) := dIS cb (S := [87]) (P := []) (s := 87) (by decide) (by simp) 0 _
  have q5 := qp (w := w2) (k := 5) (x := 5) hC' (by rw [z29]; exact hp) (by omega) rfl rfl
  refine ⟨a', b', w2, ?_, IL_forge h hu hlen hC' hw' hE, W2, r2.trans r1, z29⟩
  rw [lf_329_468, p1, Option.bind_some, f2, cI_v, g1, Option.bind_some, if_neg z1, i1, dn_7 hx, cI_v, q5, cI_v, if_pos e87.symm]
