/-! ===== both sides in one heap ===== -/
def JH (a b : TS) (w : Hp) : Hp := enc 1 a (enc 2 b w)
theorem JH_c (a b : TS) (w : Hp) : JH a b w = enc 2 b (enc 1 a w) := by
  have e1 : (enc 1 a (enc 2 b w)).1 = (enc 2 b (enc 1 a w)).1 := by
    funext s
    by_cases h1 : ow s = 1
    · rw [enc_at _ _ h1, enc_ot _ _ (show ow s ≠ 2 by omega), enc_at _ _ h1]
    · rw [enc_ot _ _ h1]
      by_cases h2 : ow s = 2
      · rw [enc_at _ _ h2, enc_at _ _ h2]
      · rw [enc_ot _ _ h2, enc_ot _ _ h2, enc_ot _ _ h1]
  have e2 : (enc 1 a (enc 2 b w)).2 = (enc 2 b (enc 1 a w)).2 := by
    show (tc a + (tc b + w.2.1), tz a + (tz b + w.2.2)) = (tc b + (tc a + w.2.1), tz b + (tz a + w.2.2))
    rw [Nat.add_left_comm, Nat.add_left_comm (tz a)]
  exact Prod.ext e1 e2
theorem hS_ot {k s i : Nat} {m : TS} {z : Hp} {c : OC} (h : ow s ≠ k) : hS (enc k m z) (s, i) c = enc k m (hS z (s, i) c) := by
  have e1 : (hS (enc k m z) (s, i) c).1 = (enc k m (hS z (s, i) c)).1 := by
    funext s'
    show (match Nat.beq s' s with | true => ((enc k m z).1 s').set i c | false => (enc k m z).1 s') = _
    by_cases e : s' = s
    · subst e
      rw [beq_tt rfl, enc_ot _ _ h, enc_ot _ _ h]
      show _ = (match Nat.beq s' s' with | true => (z.1 s').set i c | false => z.1 s')
      rw [beq_tt rfl]
    · rw [beq_ff e]
      by_cases h1 : ow s' = k
      · rw [enc_at _ _ h1, enc_at _ _ h1]
      · rw [enc_ot _ _ h1, enc_ot _ _ h1]
        show _ = (match Nat.beq s' s with | true => (z.1 s').set i c | false => z.1 s')
        rw [beq_ff e]
  exact Prod.ext e1 rfl
theorem hX_ot {k : Nat} {m : TS} {z : Hp} {e : Nat} (h : ow 300 ≠ k) : hX (enc k m z) e = enc k m (hX z e) := by
  have e1 : (hX (enc k m z) e).1 = (enc k m (hX z e)).1 := by
    funext s'
    show (match Nat.beq s' 300 with | true => (enc k m z).1 s' ++ [(e, [])] | false => (enc k m z).1 s') = _
    by_cases q : s' = 300
    · subst q
      rw [beq_tt rfl, enc_ot _ _ h, enc_ot _ _ h]
      rfl
    · rw [beq_ff q]
      by_cases h1 : ow s' = k
      · rw [enc_at _ _ h1, enc_at _ _ h1]
      · rw [enc_ot _ _ h1, enc_ot _ _ h1]
        show _ = (match Nat.beq s' 300 with | true => z.1 s' ++ [(e, [])] | false => z.1 s')
        rw [beq_ff q]
  exact Prod.ext e1 rfl
theorem o_w1 : ow 0 = 0 ∧ ow 98 = 0 ∧ ow 99 = 0 ∧ ow 300 = 0 := by decide +kernel
theorem hG_J {a b : TS} {w : Hp} {s i : Nat} (h : ow s = 0) : hG (JH a b w) (some (s, i)) = hG w (some (s, i)) := by
  unfold JH
  rw [hG_ot (by omega), hG_ot (by omega)]
theorem hX_J (a b : TS) (w : Hp) (e : Nat) : hX (JH a b w) e = JH a b (hX w e) := by
  unfold JH
  rw [hX_ot (by rw [o_w1.2.2.2]; decide), hX_ot (by rw [o_w1.2.2.2]; decide)]
theorem hS_J {a b : TS} {w : Hp} {s i : Nat} {c : OC} (h : ow s = 0) : hS (JH a b w) (s, i) c = JH a b (hS w (s, i) c) := by
  unfold JH
  rw [hS_ot (by omega), hS_ot (by omega)]
/-- the rest of the heap: the constants, the script, what the law keeps -/
def WK (w : Hp) (sc : List Int32) : Prop := Zk w ∧ hG w (some (0, 0)) = some (1000, sc.map aI) ∧ (∃ o, hG w (some (98, 0)) = some (1001, [aL o])) ∧ ∃ d, hG w (some (99, 0)) = some (1005, [aD d])
theorem hG_X {w : Hp} {e s i : Nat} (h : s ≠ 300) : hG (hX w e) (some (s, i)) = hG w (some (s, i)) := by
  show (match Nat.beq s 300 with | true => w.1 s ++ [(e, [])] | false => w.1 s)[i]? = (w.1 s)[i]?
  rw [beq_ff h]
theorem hG_S {w : Hp} {s s' i i' : Nat} {c : OC} (h : s' ≠ s) : hG (hS w (s, i) c) (some (s', i')) = hG w (some (s', i')) := by
  show (match Nat.beq s' s with | true => (w.1 s').set i c | false => w.1 s')[i']? = (w.1 s')[i']?
  rw [beq_ff h]
theorem hG_SS {w : Hp} {s i : Nat} {c c' : OC} (h : hG w (some (s, i)) = some c') : hG (hS w (s, i) c) (some (s, i)) = some c := by
  show (match Nat.beq s s with | true => (w.1 s).set i c | false => w.1 s)[i]? = some c
  rw [beq_tt rfl]
  have h : (w.1 s)[i]? = some c' := h
  have hl : i < (w.1 s).length := by
    cases Nat.lt_or_ge i (w.1 s).length with
    | inl q => exact q
    | inr q => rw [List.getElem?_eq_none q] at h; cases h
  dsimp only
  rw [List.getElem?_set_self hl]
theorem WK_X {w : Hp} {sc : List Int32} (h : WK w sc) (e : Nat) : WK (hX w e) sc := by
  obtain ⟨⟨h1, h2⟩, h3, ⟨o, h4⟩, d, h5⟩ := h
  exact ⟨⟨fun j hj => (hG_X (by decide)).trans (h1 j hj), (hG_X (by decide)).trans h2⟩, (hG_X (by decide)).trans h3, ⟨o, (hG_X (by decide)).trans h4⟩, d, (hG_X (by decide)).trans h5⟩
theorem WK_L {w : Hp} {sc : List Int32} (h : WK w sc) (x : Int64) : WK (hS w (98, 0) (1001, [aL x])) sc ∧ hG (hS w (98, 0) (1001, [aL x])) (some (98, 0)) = some (1001, [aL x]) := by
  obtain ⟨⟨h1, h2⟩, h3, ⟨o, h4⟩, d, h5⟩ := h
  exact ⟨⟨⟨fun j hj => (hG_S (by decide)).trans (h1 j hj), (hG_S (by decide)).trans h2⟩, (hG_S (by decide)).trans h3, ⟨x, hG_SS h4⟩, d, (hG_S (by decide)).trans h5⟩, hG_SS h4⟩
theorem WK_D {w : Hp} {sc : List Int32} (h : WK w sc) (x : UInt64) : WK (hS w (99, 0) (1005, [aD x])) sc ∧ hG (hS w (99, 0) (1005, [aD x])) (some (99, 0)) = some (1005, [aD x]) := by
  obtain ⟨⟨h1, h2⟩, h3, ⟨o, h4⟩, d, h5⟩ := h
  exact ⟨⟨⟨fun j hj => (hG_S (by decide)).trans (h1 j hj), (hG_S (by decide)).trans h2⟩, (hG_S (by decide)).trans h3, ⟨o, (hG_S (by decide)).trans h4⟩, x, hG_SS h5⟩, hG_SS h5⟩
theorem pa_L {a b : TS} {w : Hp} {sc : List Int32} (h : WK w sc) (x : Int64) : pa (JH a b w) (some (98, 0)) 1001 0 (aL x) = some (JH a b (hS w (98, 0) (1001, [aL x]))) := by
  obtain ⟨-, -, ⟨o, h4⟩, -⟩ := h
  unfold pa
  dsimp only
  rw [hG_J o_w1.2.1, h4, ← hS_J o_w1.2.1]
  rfl
theorem pa_D {a b : TS} {w : Hp} {sc : List Int32} (h : WK w sc) (x : UInt64) : pa (JH a b w) (some (99, 0)) 1005 0 (aD x) = some (JH a b (hS w (99, 0) (1005, [aD x]))) := by
  obtain ⟨-, -, -, d, h5⟩ := h
  unfold pa
  dsimp only
  rw [hG_J o_w1.2.2.1, h5, ← hS_J o_w1.2.2.1]
  rfl
theorem ga_L {a b : TS} {w : Hp} {x : Int64} (h : hG w (some (98, 0)) = some (1001, [aL x])) : gaL (JH a b w) (some (98, 0)) 1001 0 = some x := by
  unfold gaL ga
  rw [hG_J o_w1.2.1, h]
  rfl
theorem ga_D {a b : TS} {w : Hp} {x : UInt64} (h : hG w (some (99, 0)) = some (1005, [aD x])) : gaD (JH a b w) (some (99, 0)) 1005 0 = some x := by
  unfold gaD ga
  rw [hG_J o_w1.2.2.1, h]
  rfl
theorem len_S {a b : TS} {w : Hp} {sc : List Int32} (h : WK w sc) : len (JH a b w) (some (0, 0)) = some (Int32.ofNat sc.length) := by
  unfold len
  rw [hG_J o_w1.1, h.2.1]
  dsimp only
  rw [List.length_map]
  rfl
theorem ga_S {a b : TS} {w : Hp} {sc : List Int32} (h : WK w sc) {i : Nat} (hi : i < sc.length) (hL : sc.length < 2 ^ 31) : gaI (JH a b w) (some (0, 0)) 1000 (Int32.ofNat i) = some (sc.getD i 0) := by
  have g1 : (Int32.ofNat i).toNatClampNeg = i := o_ix (by omega)
  have g2 : ¬ Int32.ofNat i < 0 := o_lt0 (by omega)
  unfold gaI ga
  rw [hG_J o_w1.1, h.2.1]
  dsimp only
  rw [if_neg g2, g1, List.getElem?_map, List.getElem?_eq_getElem hi, List.getD_eq_getElem?_getD, List.getElem?_eq_getElem hi]
  rfl
theorem Zk_J1 {b : TS} {w : Hp} {sc : List Int32} (h : WK w sc) : Zk (enc 2 b w) := Zk_enc (by decide) h.1
theorem Zk_J2 {a : TS} {w : Hp} {sc : List Int32} (h : WK w sc) : Zk (enc 1 a w) := Zk_enc (by decide) h.1
theorem y249 {a b : TS} {w : Hp} (hF : FxR b) : Ex 249 [aR (some (97, 0))] (JH a b w) = some (.inl (some (aI (tI b 97 0 8))), JH a b w) := by
  rw [JH_c]
  refine (X_in (by decide +kernel) (frN_97 hF) rfl).trans ((lf_249_0 ..).trans ?_)
  simp (config := {decide := true}) only [gfI_enc, gfL_enc, gfR_enc, pfI_enc, pfL_enc, pfR_enc, Option.bind_some, cI_v, cL_v, cF_v, cD_v, cR_v, cV_v, cI_x, cL_x, cR_x, cV_x, gz_0, gz_1, acc_enc, tI_sI, tL_sI, tR_sI, tN_sI, tZ_sI, tC_sI, tc_sI, tz_sI, tI_sL, tL_sL, tR_sL, tN_sL, tZ_sL, tC_sL, tc_sL, tz_sL, tI_sR, tL_sR, tR_sR, tN_sR, tZ_sR, tC_sR, tc_sR, tz_sR, tI_sZ, tL_sZ, tR_sZ, tN_sZ, tZ_sZ, tC_sZ, tc_sZ, tz_sZ, tI_sC, tL_sC, tR_sC, tN_sC, tZ_sC, tC_sC, tc_sC, tz_sC, tI_aC, tL_aC, tR_aC, tN_aC, tZ_aC, tC_aC, tc_aC, tz_aC, tI_rmL, tL_rmL, tR_rmL, tN_rmL, tZ_rmL, tC_rmL, tc_rmL, tz_rmL, tI_mk, tL_mk, tR_mk, tN_mk, tZ_mk, tC_mk, tc_mk, tz_mk, tI_pushL, tL_pushL, tR_pushL, tN_pushL, tZ_pushL, tC_pushL, tc_pushL, tz_pushL, tI_pushB, tL_pushB, tR_pushB, tN_pushB, tZ_pushB, tC_pushB, tc_pushB, tz_pushB, tI_cpL, tL_cpL, tR_cpL, tN_cpL, tZ_cpL, tC_cpL, tc_cpL, tz_cpL, eq_self, true_and, and_true, false_and, and_false, if_true, if_false, reduceIte, ite_true, ite_false, not_true_eq_false, not_false_eq_true, frN_97 hF]
