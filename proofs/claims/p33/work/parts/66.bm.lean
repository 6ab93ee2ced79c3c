/-! ===== money goes back ===== -/
theorem neg64 {m : Int32} (h : ¬ m < 0) : (-m).toInt64 = -(m.toInt64) := by
  rw [Int32.lt_iff_toInt_lt] at h
  have h : ¬ m.toInt < 0 := h
  apply Int64.toInt_inj.mp
  have h1 := Int32.toInt_lt m
  have h2 := Int32.le_toInt m
  rw [Int32.toInt_toInt64, Int64.toInt_neg, Int32.toInt_toInt64, Int32.toInt_neg]
  rw [Int.bmod_eq_of_le (by omega) (by omega), Int.bmod_eq_of_le (by omega) (by omega)]
theorem sub64 (x y : Int64) : x - -y = x + y := by rw [Int64.sub_eq_add_neg, Int64.neg_neg]
theorem add64 (x y : Int64) : x + -y = x - y := by rw [Int64.sub_eq_add_neg]
/-- the stores behind it -/
def gbA (a : TS) (j t s : Nat) (m : Int32) : TS := sL (sL (sI a 4 j 11 (tI a 4 j 11 - m)) 36 s 12 (tL a 36 s 12 - m.toInt64)) 35 t 0 (tL a 35 t 0 + m.toInt64)
def gbB (b : TS) (j t s : Nat) (m : Int32) : TS := sL (sL (sI b 61 j 16 (tI b 61 j 16 - m)) 43 0 t (tL b 43 0 t + m.toInt64)) 46 0 s (tL b 46 0 s - m.toInt64)
theorem sub_nn {x m : Int32} (h1 : ¬ x < m) (h2 : ¬ m < 0) : ¬ x - m < 0 := by
  rw [Int32.lt_iff_toInt_lt] at h1 h2 ⊢
  have h2 : ¬ m.toInt < 0 := h2
  have hb := Int32.toInt_lt x
  rw [Int32.toInt_sub, Int.bmod_eq_of_le (by omega) (by omega)]
  show ¬ x.toInt - m.toInt < 0
  omega
theorem gb_R {a b : TS} {p j j' t s : Nat} {m : Int32} (hle : ¬ hI b p 16 < m) (hm : ¬ m < 0) (hR : R0 a b) (hp : p < 1000) (h1 : tR a 3 0 p = some (4, j)) (h2 : tR b 53 0 p = some (61, j')) (ht : t < tZ a 26 0) (hs : s < tZ a 27 0) :
    R0 (gbA a j t s m) (gbB b j' t s m) ∧ chF [4] [(35, 0), (36, 12)] a (gbA a j t s m) ∧ chF [43, 46, 61] [] b (gbB b j' t s m) ∧ Wr a (gbA a j t s m) ∧ Wr b (gbB b j' t s m) := by
  have ha : chF [4] [(35, 0), (36, 12)] a (gbA a j t s m) := chF_L (by simp) (chF_L (by simp) (chF_I (by simp) (chF_r _ _ _)))
  have hb : chF [43, 46, 61] [] b (gbB b j' t s m) := chF_L (by simp) (chF_L (by simp) (chF_I (by simp) (chF_r _ _ _)))
  have wa : Wr a (gbA a j t s m) := (((Wr.rf a).cI _ _ _ _).cL _ _ _ _).cL _ _ _ _
  have wb : Wr b (gbB b j' t s m) := (((Wr.rf b).cI _ _ _ _).cL _ _ _ _).cL _ _ _ _
  refine ⟨?_, ha, hb, wa, wb⟩
  obtain ⟨hFC, hFR, hB, hS, hM, hW, hV, hC, hD, hE, hP, hQ, hH, hK, hG, hO, hZ⟩ := hR
  obtain ⟨KA, KB, KN⟩ := hK
  have vI : ∀ n f, n < 1000 → kI (gbA a j t s m) n f = if n = p ∧ f = 11 then tI a 4 j 11 - m else kI a n f := fun n f hn => kI_sI KA hp h1 _ _ hn _
  have vR : ∀ n f, n < 1000 → kR (gbA a j t s m) n f = kR a n f := fun n f hn => rfl
  have wI : ∀ n f, n < 1000 → hI (gbB b j' t s m) n f = if n = p ∧ f = 16 then tI b 61 j' 16 - m else hI b n f := fun n f hn => hI_sI KB hp h2 _ _ hn _
  have wA : ∀ n t' f, (t' = 62 ∨ t' = 63 ∨ t' = 64) → hA (gbB b j' t s m) n t' f = hA b n t' f := fun n t' f h => by
    show hA (sI b 61 j' 16 (tI b 61 j' 16 - m)) n t' f = _
    rw [hA_o _ (by omega)]
  have o : ∀ u, u ≠ 4 → gro a (gbA a j t s m) u := fun u hu => gro_o rfl (fun i k => by unfold gbA; simp (config := {decide := true}) only [gfI_enc, gfL_enc, gfR_enc, pfI_enc, pfL_enc, pfR_enc, Option.bind_some, cI_v, cL_v, cF_v, cD_v, cR_v, cV_v, cI_x, cL_x, cR_x, cV_x, gz_0, gz_1, acc_enc, tI_sI, tL_sI, tR_sI, tN_sI, tZ_sI, tC_sI, tc_sI, tz_sI, tI_sL, tL_sL, tR_sL, tN_sL, tZ_sL, tC_sL, tc_sL, tz_sL, tI_sR, tL_sR, tR_sR, tN_sR, tZ_sR, tC_sR, tc_sR, tz_sR, tI_sZ, tL_sZ, tR_sZ, tN_sZ, tZ_sZ, tC_sZ, tc_sZ, tz_sZ, tI_sC, tL_sC, tR_sC, tN_sC, tZ_sC, tC_sC, tc_sC, tz_sC, tI_aC, tL_aC, tR_aC, tN_aC, tZ_aC, tC_aC, tc_aC, tz_aC, tI_rmL, tL_rmL, tR_rmL, tN_rmL, tZ_rmL, tC_rmL, tc_rmL, tz_rmL, tI_mk, tL_mk, tR_mk, tN_mk, tZ_mk, tC_mk, tc_mk, tz_mk, tI_pushL, tL_pushL, tR_pushL, tN_pushL, tZ_pushL, tC_pushL, tc_pushL, tz_pushL, tI_pushB, tL_pushB, tR_pushB, tN_pushB, tZ_pushB, tC_pushB, tc_pushB, tz_pushB, tI_cpL, tL_cpL, tR_cpL, tN_cpL, tZ_cpL, tC_cpL, tc_cpL, tz_cpL, eq_self, true_and, and_true, false_and, and_false, if_true, if_false, reduceIte, ite_true, ite_false, not_true_eq_false, not_false_eq_true, hu])
  have hK' : RK (gbA a j t s m) (gbB b j' t s m) := by
    refine ⟨KA, KB, fun n hn => ?_⟩
    by_cases e : n = p
    · subst e
      obtain ⟨q1, ⟨r1, r2, r3, r4, r5, r6, r7, r8⟩, q3⟩ := KN n hn
      refine ⟨?_, ?_, ?_⟩
      · simp (config := {decide := true}) only [vI n _ hn, vR n _ hn, wI n _ hn, true_and, if_true, if_false, and_false]
        exact q1
      · simp (config := {decide := true}) only [vI n _ hn, vR n _ hn, wI n _ hn, true_and, if_true, if_false, and_false]
        rw [kI_at h1, hI_at h2] at r7
        rw [hI_at h2] at hle
        have hnn := sub_nn hle hm
        simp only [r1, r2, r3, r4, r5, r6, r7, r8.1, hnn, and_true, true_and, not_false_eq_true]
      · simp (config := {decide := true}) only [vI n _ hn, vR n _ hn, wI n _ hn, wA n 62 _ (Or.inl rfl), wA n 63 _ (Or.inr (Or.inl rfl)), wA n 64 _ (Or.inr (Or.inr rfl)), true_and, if_true, if_false, and_false]
        exact q3
    · refine KnR_v (KN n hn) (fun f => ?_) (fun f => rfl) (fun f => ?_) (fun t f => wA n t f) rfl rfl rfl (fun k => rfl) (o 5 (by decide)) (o 6 (by decide)) (o 7 (by decide)) (o 17 (by decide))
      · rw [vI n f hn, if_neg (fun q => e q.1)]
      · rw [wI n f hn, if_neg (fun q => e q.1)]
  have hB' : RB (gbA a j t s m) (gbB b j' t s m) := by
    obtain ⟨b1, b2, b3, b4, b5, b6, b7⟩ := hB
    refine ⟨b1, b2, b3, b4, fun k hk => ?_, fun k hk => ?_, b7⟩
    · obtain ⟨k1, k2, k3, k4, k5⟩ := b5 k hk
      unfold gbA gbB
      simp (config := {decide := true}) only [gfI_enc, gfL_enc, gfR_enc, pfI_enc, pfL_enc, pfR_enc, Option.bind_some, cI_v, cL_v, cF_v, cD_v, cR_v, cV_v, cI_x, cL_x, cR_x, cV_x, gz_0, gz_1, acc_enc, tI_sI, tL_sI, tR_sI, tN_sI, tZ_sI, tC_sI, tc_sI, tz_sI, tI_sL, tL_sL, tR_sL, tN_sL, tZ_sL, tC_sL, tc_sL, tz_sL, tI_sR, tL_sR, tR_sR, tN_sR, tZ_sR, tC_sR, tc_sR, tz_sR, tI_sZ, tL_sZ, tR_sZ, tN_sZ, tZ_sZ, tC_sZ, tc_sZ, tz_sZ, tI_sC, tL_sC, tR_sC, tN_sC, tZ_sC, tC_sC, tc_sC, tz_sC, tI_aC, tL_aC, tR_aC, tN_aC, tZ_aC, tC_aC, tc_aC, tz_aC, tI_rmL, tL_rmL, tR_rmL, tN_rmL, tZ_rmL, tC_rmL, tc_rmL, tz_rmL, tI_mk, tL_mk, tR_mk, tN_mk, tZ_mk, tC_mk, tc_mk, tz_mk, tI_pushL, tL_pushL, tR_pushL, tN_pushL, tZ_pushL, tC_pushL, tc_pushL, tz_pushL, tI_pushB, tL_pushB, tR_pushB, tN_pushB, tZ_pushB, tC_pushB, tc_pushB, tz_pushB, tI_cpL, tL_cpL, tR_cpL, tN_cpL, tZ_cpL, tC_cpL, tc_cpL, tz_cpL, eq_self, true_and, and_true, false_and, and_false, if_true, if_false, reduceIte, ite_true, ite_false, not_true_eq_false, not_false_eq_true]
      refine ⟨k1, ?_, k3, k4, k5⟩
      by_cases e : k = t
      · subst e
        rw [if_pos rfl, if_pos rfl, k2]
      · rw [if_neg e, if_neg e]
        exact k2
    · exact b6 k hk
  have hW' : RW (gbA a j t s m) (gbB b j' t s m) := by
    obtain ⟨w1, w2⟩ := hW
    refine ⟨fun k hk => ?_, fun k hk => ?_⟩
    · obtain ⟨k1, k2⟩ := w1 k hk
      unfold gbA gbB
      simp (config := {decide := true}) only [gfI_enc, gfL_enc, gfR_enc, pfI_enc, pfL_enc, pfR_enc, Option.bind_some, cI_v, cL_v, cF_v, cD_v, cR_v, cV_v, cI_x, cL_x, cR_x, cV_x, gz_0, gz_1, acc_enc, tI_sI, tL_sI, tR_sI, tN_sI, tZ_sI, tC_sI, tc_sI, tz_sI, tI_sL, tL_sL, tR_sL, tN_sL, tZ_sL, tC_sL, tc_sL, tz_sL, tI_sR, tL_sR, tR_sR, tN_sR, tZ_sR, tC_sR, tc_sR, tz_sR, tI_sZ, tL_sZ, tR_sZ, tN_sZ, tZ_sZ, tC_sZ, tc_sZ, tz_sZ, tI_sC, tL_sC, tR_sC, tN_sC, tZ_sC, tC_sC, tc_sC, tz_sC, tI_aC, tL_aC, tR_aC, tN_aC, tZ_aC, tC_aC, tc_aC, tz_aC, tI_rmL, tL_rmL, tR_rmL, tN_rmL, tZ_rmL, tC_rmL, tc_rmL, tz_rmL, tI_mk, tL_mk, tR_mk, tN_mk, tZ_mk, tC_mk, tc_mk, tz_mk, tI_pushL, tL_pushL, tR_pushL, tN_pushL, tZ_pushL, tC_pushL, tc_pushL, tz_pushL, tI_pushB, tL_pushB, tR_pushB, tN_pushB, tZ_pushB, tC_pushB, tc_pushB, tz_pushB, tI_cpL, tL_cpL, tR_cpL, tN_cpL, tZ_cpL, tC_cpL, tc_cpL, tz_cpL, eq_self, true_and, and_true, false_and, and_false, if_true, if_false, reduceIte, ite_true, ite_false, not_true_eq_false, not_false_eq_true]
      refine ⟨k1, ?_⟩
      by_cases e : k = s
      · subst e
        rw [if_pos rfl, if_pos rfl, k2]
      · rw [if_neg e, if_neg e]
        exact k2
    · obtain ⟨k1, k2⟩ := w2 k hk
      have hk' : tZ a 27 0 ≤ k := hk
      unfold gbB
      simp (config := {decide := true}) only [gfI_enc, gfL_enc, gfR_enc, pfI_enc, pfL_enc, pfR_enc, Option.bind_some, cI_v, cL_v, cF_v, cD_v, cR_v, cV_v, cI_x, cL_x, cR_x, cV_x, gz_0, gz_1, acc_enc, tI_sI, tL_sI, tR_sI, tN_sI, tZ_sI, tC_sI, tc_sI, tz_sI, tI_sL, tL_sL, tR_sL, tN_sL, tZ_sL, tC_sL, tc_sL, tz_sL, tI_sR, tL_sR, tR_sR, tN_sR, tZ_sR, tC_sR, tc_sR, tz_sR, tI_sZ, tL_sZ, tR_sZ, tN_sZ, tZ_sZ, tC_sZ, tc_sZ, tz_sZ, tI_sC, tL_sC, tR_sC, tN_sC, tZ_sC, tC_sC, tc_sC, tz_sC, tI_aC, tL_aC, tR_aC, tN_aC, tZ_aC, tC_aC, tc_aC, tz_aC, tI_rmL, tL_rmL, tR_rmL, tN_rmL, tZ_rmL, tC_rmL, tc_rmL, tz_rmL, tI_mk, tL_mk, tR_mk, tN_mk, tZ_mk, tC_mk, tc_mk, tz_mk, tI_pushL, tL_pushL, tR_pushL, tN_pushL, tZ_pushL, tC_pushL, tc_pushL, tz_pushL, tI_pushB, tL_pushB, tR_pushB, tN_pushB, tZ_pushB, tC_pushB, tc_pushB, tz_pushB, tI_cpL, tL_cpL, tR_cpL, tN_cpL, tZ_cpL, tC_cpL, tc_cpL, tz_cpL, eq_self, true_and, and_true, false_and, and_false, if_true, if_false, reduceIte, ite_true, ite_false, not_true_eq_false, not_false_eq_true]
      rw [if_neg (by omega)]
      exact ⟨k1, k2⟩
  have w64 : ∀ n f, n < 1000 → hA (gbB b j' t s m) n 64 f = hA b n 64 f := fun n f _ => wA n 64 f (Or.inr (Or.inr rfl))
  have w8 : ∀ n, n < 1000 → hI (gbB b j' t s m) n 8 = hI b n 8 := fun n hn => by rw [wI n 8 hn, if_neg (fun q => absurd q.2 (by decide))]
  have w14 : ∀ n, n < 1000 → hI (gbB b j' t s m) n 14 = hI b n 14 := fun n hn => by rw [wI n 14 hn, if_neg (fun q => absurd q.2 (by decide))]
  have hK := hK'
  have hO' : RO (gbA a j t s m) (gbB b j' t s m) := RO_v hO w8 w64 (dIS ha (S := [2]) (P := []) (by decide) (by simp)) (dZ ha (S := [28]) (P := []) (by decide) (by simp) 0) (dIS ha (S := [30]) (P := []) (by decide) (by simp) 0 3) (dIS ha (S := [30]) (P := []) (by decide) (by simp) 0 4) (dIS hb (S := [94]) (P := []) (by decide) (by simp) 0 12) (dIS hb (S := [94]) (P := []) (by decide) (by simp) 0 13)
  have hZ' : RZ (gbA a j t s m) (gbB b j' t s m) := RZ_v hZ w8 w64 w14 (fun n hn => rfl) (dIS ha (S := [7]) (P := []) (by decide) (by simp)) (dIS hb (S := [87]) (P := []) (by decide) (by simp)) (dZ ha (S := [29]) (P := []) (by decide) (by simp) 0) (dN ha (S := [7]) (P := []) (by decide) (by simp))
  exact ⟨FxC_s hFC wa ha (by decide), FxR_s hFR wb hb (by decide), hB', RS_c hS ha hb (by decide) (by decide), RM_c hM ha hb (by decide) (by decide), hW', RV_c hV ha hb (by decide) (by decide), RC_c hC ha hb (by decide) (by decide), RD_c hD ha hb (by decide) (by decide), RE_c hE ha hb (by decide) (by decide), RP_c hP ha hb (by decide) (by decide), RQ_c hQ ha hb (by decide) (by decide), RH_c hH ha hb (by decide) (by decide), hK', RG_c hG ha hb (by decide) (by decide), hO', hZ'⟩
theorem o_beq {n k : Nat} (hn : n < 2 ^ 31) (hk : k < 2 ^ 31) : Int32.ofNat n = Int32.ofNat k ↔ n = k := ⟨o_inj hn hk, fun e => by rw [e]⟩
/-- whether a BACK MONEY moves money -/
def BmA (b : TS) (p sh n : Nat) (m : Int32) : Bool := decide (tI b 60 sh n = 0 ∧ hI b p 8 ≠ 0 ∧ hI b p 14 = Int32.ofNat sh ∧ ¬ hI b p 16 < m)
theorem BmA_i {b : TS} {p sh n : Nat} {m : Int32} : BmA b p sh n m = true ↔ (tI b 60 sh n = 0 ∧ hI b p 8 ≠ 0 ∧ hI b p 14 = Int32.ofNat sh ∧ ¬ hI b p 16 < m) := decide_eq_true_iff
theorem bit01 {x : Int32} (h : bitOk x = true) : x = 0 ∨ x = 1 := by
  have h1 : x &&& 1 = x := of_decide_eq_true h
  have h2 : x.toBitVec &&& 1#32 = x.toBitVec := congrArg Int32.toBitVec h1
  have h3 : x.toBitVec.toNat &&& 1 = x.toBitVec.toNat := congrArg BitVec.toNat h2
  rw [Nat.and_one_is_mod] at h3
  have h4 : x.toBitVec.toNat = 0 ∨ x.toBitVec.toNat = 1 := by omega
  rcases h4 with e | e
  · exact Or.inl (Int32.toBitVec_inj.mp (BitVec.eq_of_toNat_eq e))
  · exact Or.inr (Int32.toBitVec_inj.mp (BitVec.eq_of_toNat_eq e))
/-- what a BACK MONEY changes -/
def BmP (b b' : TS) (p sh n : Nat) (m : Int32) : Prop := ∃ t,
  (BmA b p sh n m → ∃ k, hA b p 64 0 = Int32.ofNat k ∧ tI b 86 0 (10 * k + 9) = Int32.ofNat t ∧ k < 8 ∧ t < 8) ∧
  (∀ n' f, n' < 1000 → hI b' n' f = if BmA b p sh n m ∧ n' = p ∧ f = 16 then hI b p 16 - m else hI b n' f) ∧
  (∀ n' t' f, n' < 1000 → (t' = 62 ∨ t' = 63 ∨ t' = 64) → hA b' n' t' f = hA b n' t' f) ∧
  (∀ u, tL b' 43 0 u = if BmA b p sh n m ∧ u = t then tL b 43 0 u + m.toInt64 else tL b 43 0 u) ∧
  (∀ u, tL b' 46 0 u = if BmA b p sh n m ∧ u = sh then tL b 46 0 u - m.toInt64 else tL b 46 0 u) ∧
  (∀ s' n', tI b' 60 s' n' = if s' = sh ∧ n' = n then 1 else tI b 60 s' n')
theorem BmP_n {b b' : TS} {p sh n : Nat} {m : Int32} (h0 : ¬ (tI b 60 sh n = 0 ∧ hI b p 8 ≠ 0 ∧ hI b p 14 = Int32.ofNat sh ∧ ¬ hI b p 16 < m)) (wI : ∀ n' f, n' < 1000 → hI b' n' f = hI b n' f)
    (wA : ∀ n' t f, n' < 1000 → (t = 62 ∨ t = 63 ∨ t = 64) → hA b' n' t f = hA b n' t f) (c43 : ∀ u, tL b' 43 0 u = tL b 43 0 u) (c46 : ∀ u, tL b' 46 0 u = tL b 46 0 u)
    (c60 : ∀ s' n', tI b' 60 s' n' = if s' = sh ∧ n' = n then 1 else tI b 60 s' n') : BmP b b' p sh n m :=
  ⟨0, fun q => absurd (BmA_i.mp q) h0, fun n' f hn => by rw [if_neg (fun q => h0 (BmA_i.mp q.1))]; exact wI n' f hn, wA, fun u => by rw [if_neg (fun q => h0 (BmA_i.mp q.1))]; exact c43 u, fun u => by rw [if_neg (fun q => h0 (BmA_i.mp q.1))]; exact c46 u, c60⟩
/-- a BACK MONEY is heard -/
theorem sim_bm {a b : TS} {p s r sh n : Nat} {m : Int32} (hR : R0 a b) (hp : p < 1000) (hs : isM s) (hr : r < tN a s) (h34 : s ≠ 3 ∧ s ≠ 4 ∧ s ≠ 20) (m0 : tI a s r 0 = 4) (m1 : tI a s r 1 = Int32.ofNat p) (m5 : tI a s r 5 = m) (m11 : tI a s r 11 = Int32.ofNat n) (hn : n < 100) (hm : ¬ m < 0) (hsh : sh < tZ a 27 0) :
    ∃ a' b', (∀ z, Ex 18 [aR (some (30, 0)), aR (some (s, r)), aR (some (36, sh))] (enc 1 a z) = some (.inl none, enc 1 a' z)) ∧ (∀ z, Ex 174 [aR (some (94, 0)), aI (Int32.ofNat sh), aI (Int32.ofNat n), aI (Int32.ofNat p), aI m] (enc 2 b z) = some (.inl none, enc 2 b' z)) ∧
      R0 a' b' ∧ chF [3, 4, 20] [(35, 0), (36, 12)] a a' ∧ chF [43, 46, 53, 60, 61, 62, 63, 64] [] b b' ∧ Wr a a' ∧ Wr b b' ∧ BmP b b' p sh n m := by
  have hR00 := hR
  have hfc := hR.1
  have hfr := hR.2.1
  obtain ⟨s1, s2, ⟨s3, s4, s5, s6, s7, s8⟩, s9, s10⟩ := hR.2.2.2.1
  obtain ⟨u1, u2, u3, u4, u5, u6, u7, u8, u9, u10, u11⟩ := s10 sh hsh
  obtain ⟨v1, v2⟩ := hR.2.2.2.2.2.2.1
  obtain ⟨v3, v4⟩ := v1 sh hsh n hn
  obtain ⟨f1, f2⟩ := fr_rows hfr sh (by omega)
  have g1 : ¬ Int32.ofNat n < 0 := o_lt0 (by omega)
  have g2 : (Int32.ofNat n).toNatClampNeg = n := o_ix (by omega)
  have g3 : ¬ Int32.ofNat 100 ≤ Int32.ofNat n := by rw [o_le (by omega) (by omega)]; omega
  have g4 : ¬ Int32.ofNat sh < 0 := o_lt0 (by omega)
  have g5 : (Int32.ofNat sh).toNatClampNeg = sh := o_ix (by omega)
  have g6 : sh < 4 := by omega
  have hsh36 : sh < tN a 36 := by omega
  have hsh20 : sh < tN a 20 := by omega
  have hsh60 : sh < tN b 60 := Nat.lt_of_lt_of_le g6 (fr37 hfr)
  obtain ⟨a1, j, x, hR1, x1, x2, vI, vR, ca, wa⟩ := lookA hR hp
  have tr1 : ∀ t, t ≠ 3 → t ≠ 4 → (∀ i k, tI a1 t i k = tI a t i k) ∧ (∀ i k, tR a1 t i k = tR a t i k) ∧ tN a1 t = tN a t ∧ (∀ i, tZ a1 t i = tZ a t i) := fun t h1 h2 => by
    obtain ⟨c1, c2, c3, c4, c5, c6⟩ := ca t (by simp only [List.mem_cons, List.not_mem_nil, or_false]; omega)
    exact ⟨fun i k => c1 i k (by simp), c3, c4, c5⟩
  have e0 : tI a1 s r 0 = 4 := ((tr1 s h34.1 h34.2.1).1 r 0).trans m0
  have e11 : tI a1 s r 11 = Int32.ofNat n := ((tr1 s h34.1 h34.2.1).1 r 11).trans m11
  have e5 : tI a1 s r 5 = m := ((tr1 s h34.1 h34.2.1).1 r 5).trans m5
  have hr1 : r < tN a1 s := by rw [(tr1 s h34.1 h34.2.1).2.2.1]; exact hr
  have hr1s : r < tN (sI a1 20 sh n 1) s := hr1
  have k20 : sh < tN a1 20 := by rw [(tr1 20 (by decide) (by decide)).2.2.1]; exact hsh20
  have k36 : sh < tN a1 36 := by rw [(tr1 36 (by decide) (by decide)).2.2.1]; exact hsh36
  have k8 : tR a1 36 sh 8 = some (20, sh) := ((tr1 36 (by decide) (by decide)).2.1 sh 8).trans u10
  have kz : tZ a1 20 sh = 100 := ((tr1 20 (by decide) (by decide)).2.2.2 sh).trans u11
  have kv : tI a1 20 sh n = tI b 60 sh n := ((tr1 20 (by decide) (by decide)).1 sh n).trans v3
  have x67 : ∀ z, Ex 67 [aR (some (36, sh)), aI (Int32.ofNat n)] (enc 1 a1 z) = if tI b 60 sh n = 0 then some (.inl (some (aI 1)), enc 1 (sI a1 20 sh n 1) z) else some (.inl (some (aI 0)), enc 1 a1 z) := fun z => by
    refine (X_in (by decide +kernel) (k36) rfl).trans ((lf_67_0 ..).trans ?_)
    simp (config := {decide := true}) only [gfI_enc, gfL_enc, gfR_enc, pfI_enc, pfL_enc, pfR_enc, Option.bind_some, cI_v, cL_v, cF_v, cD_v, cR_v, cV_v, cI_x, cL_x, cR_x, cV_x, gz_0, gz_1, acc_enc, tI_sI, tL_sI, tR_sI, tN_sI, tZ_sI, tC_sI, tc_sI, tz_sI, tI_sL, tL_sL, tR_sL, tN_sL, tZ_sL, tC_sL, tc_sL, tz_sL, tI_sR, tL_sR, tR_sR, tN_sR, tZ_sR, tC_sR, tc_sR, tz_sR, tI_sZ, tL_sZ, tR_sZ, tN_sZ, tZ_sZ, tC_sZ, tc_sZ, tz_sZ, tI_sC, tL_sC, tR_sC, tN_sC, tZ_sC, tC_sC, tc_sC, tz_sC, tI_aC, tL_aC, tR_aC, tN_aC, tZ_aC, tC_aC, tc_aC, tz_aC, tI_rmL, tL_rmL, tR_rmL, tN_rmL, tZ_rmL, tC_rmL, tc_rmL, tz_rmL, tI_mk, tL_mk, tR_mk, tN_mk, tZ_mk, tC_mk, tc_mk, tz_mk, tI_pushL, tL_pushL, tR_pushL, tN_pushL, tZ_pushL, tC_pushL, tc_pushL, tz_pushL, tI_pushB, tL_pushB, tR_pushB, tN_pushB, tZ_pushB, tC_pushB, tc_pushB, tz_pushB, tI_cpL, tL_cpL, tR_cpL, tN_cpL, tZ_cpL, tC_cpL, tc_cpL, tz_cpL, eq_self, true_and, and_true, false_and, and_false, if_true, if_false, reduceIte, ite_true, ite_false, not_true_eq_false, not_false_eq_true, k36, k20, k8, kz, len_enc, gaI_enc, paI_enc, g1, g2, g3, hn, kv]
  by_cases hd : tI b 60 sh n = 0
  · -- for the first time
    have ha0 : chF [20] [] a1 (sI a1 20 sh n 1) := chF_I (by simp) (chF_r _ _ _)
    have hb0 : chF [60] [] b (sI b 60 sh n 1) := chF_I (by simp) (chF_r _ _ _)
    have wa0 : Wr a1 (sI a1 20 sh n 1) := (Wr.rf a1).cI _ _ _ _
    have wb0 : Wr b (sI b 60 sh n 1) := (Wr.rf b).cI _ _ _ _
    have hR0' : R0 (sI a1 20 sh n 1) (sI b 60 sh n 1) := by
      have hV' : RV (sI a1 20 sh n 1) (sI b 60 sh n 1) := by
        obtain ⟨v1, v2⟩ := hR1.2.2.2.2.2.2.1
        refine ⟨fun s' hs' n' hn' => ?_, fun s' hs' n' => ?_⟩
        · obtain ⟨k1, k2⟩ := v1 s' hs' n' hn'
          simp (config := {decide := true}) only [gfI_enc, gfL_enc, gfR_enc, pfI_enc, pfL_enc, pfR_enc, Option.bind_some, cI_v, cL_v, cF_v, cD_v, cR_v, cV_v, cI_x, cL_x, cR_x, cV_x, gz_0, gz_1, acc_enc, tI_sI, tL_sI, tR_sI, tN_sI, tZ_sI, tC_sI, tc_sI, tz_sI, tI_sL, tL_sL, tR_sL, tN_sL, tZ_sL, tC_sL, tc_sL, tz_sL, tI_sR, tL_sR, tR_sR, tN_sR, tZ_sR, tC_sR, tc_sR, tz_sR, tI_sZ, tL_sZ, tR_sZ, tN_sZ, tZ_sZ, tC_sZ, tc_sZ, tz_sZ, tI_sC, tL_sC, tR_sC, tN_sC, tZ_sC, tC_sC, tc_sC, tz_sC, tI_aC, tL_aC, tR_aC, tN_aC, tZ_aC, tC_aC, tc_aC, tz_aC, tI_rmL, tL_rmL, tR_rmL, tN_rmL, tZ_rmL, tC_rmL, tc_rmL, tz_rmL, tI_mk, tL_mk, tR_mk, tN_mk, tZ_mk, tC_mk, tc_mk, tz_mk, tI_pushL, tL_pushL, tR_pushL, tN_pushL, tZ_pushL, tC_pushL, tc_pushL, tz_pushL, tI_pushB, tL_pushB, tR_pushB, tN_pushB, tZ_pushB, tC_pushB, tc_pushB, tz_pushB, tI_cpL, tL_cpL, tR_cpL, tN_cpL, tZ_cpL, tC_cpL, tc_cpL, tz_cpL, eq_self, true_and, and_true, false_and, and_false, if_true, if_false, reduceIte, ite_true, ite_false, not_true_eq_false, not_false_eq_true]
          by_cases e : s' = sh ∧ n' = n
          · rw [if_pos e, if_pos e]
            exact ⟨rfl, rfl⟩
          · rw [if_neg e, if_neg e]
            exact ⟨k1, k2⟩
        · have hs'' : tZ a1 27 0 ≤ s' := hs'
          have : tZ a1 27 0 = tZ a 27 0 := (tr1 27 (by decide) (by decide)).2.2.2 0
          simp (config := {decide := true}) only [gfI_enc, gfL_enc, gfR_enc, pfI_enc, pfL_enc, pfR_enc, Option.bind_some, cI_v, cL_v, cF_v, cD_v, cR_v, cV_v, cI_x, cL_x, cR_x, cV_x, gz_0, gz_1, acc_enc, tI_sI, tL_sI, tR_sI, tN_sI, tZ_sI, tC_sI, tc_sI, tz_sI, tI_sL, tL_sL, tR_sL, tN_sL, tZ_sL, tC_sL, tc_sL, tz_sL, tI_sR, tL_sR, tR_sR, tN_sR, tZ_sR, tC_sR, tc_sR, tz_sR, tI_sZ, tL_sZ, tR_sZ, tN_sZ, tZ_sZ, tC_sZ, tc_sZ, tz_sZ, tI_sC, tL_sC, tR_sC, tN_sC, tZ_sC, tC_sC, tc_sC, tz_sC, tI_aC, tL_aC, tR_aC, tN_aC, tZ_aC, tC_aC, tc_aC, tz_aC, tI_rmL, tL_rmL, tR_rmL, tN_rmL, tZ_rmL, tC_rmL, tc_rmL, tz_rmL, tI_mk, tL_mk, tR_mk, tN_mk, tZ_mk, tC_mk, tc_mk, tz_mk, tI_pushL, tL_pushL, tR_pushL, tN_pushL, tZ_pushL, tC_pushL, tc_pushL, tz_pushL, tI_pushB, tL_pushB, tR_pushB, tN_pushB, tZ_pushB, tC_pushB, tc_pushB, tz_pushB, tI_cpL, tL_cpL, tR_cpL, tN_cpL, tZ_cpL, tC_cpL, tc_cpL, tz_cpL, eq_self, true_and, and_true, false_and, and_false, if_true, if_false, reduceIte, ite_true, ite_false, not_true_eq_false, not_false_eq_true]
          rw [if_neg (by omega)]
          exact v2 s' hs'' n'
      have hS' : RS (sI a1 20 sh n 1) (sI b 60 sh n 1) := hR1.2.2.2.1
      have ha := ha0
      have hb := hb0
      have wa := wa0
      have wb := wb0
      obtain ⟨hFC, hFR, hB, hS, hM, hW, hV, hC, hD, hE, hP, hQ, hH, hK, hG, hO, hZ⟩ := hR1
      exact ⟨FxC_s hFC wa ha (by decide), FxR_s hFR wb hb (by decide), RB_c hB ha hb (by decide) (by decide), hS', RM_c hM ha hb (by decide) (by decide), RW_c hW ha hb (by decide) (by decide), hV', RC_c hC ha hb (by decide) (by decide), RD_c hD ha hb (by decide) (by decide), RE_c hE ha hb (by decide) (by decide), RP_c hP ha hb (by decide) (by decide), RQ_c hQ ha hb (by decide) (by decide), RH_c hH ha hb (by decide) (by decide), RK_c hK ha hb (by decide) (by decide) (gro_c ha (by decide)) (gro_c ha (by decide)) (gro_c ha (by decide)) (gro_c ha (by decide)), RG_c hG ha hb (by decide) (by decide), RO_c hO ha hb (by decide) (by decide), RZ_c hZ ha hb (by decide) (by decide)⟩
    obtain ⟨b1, j', y, hR2, y1, y2, wI, wA, cb, wb⟩ := lookB hR0' hp
    have fr1 := hR2.2.1
    have vI0 : ∀ n' f, n' < 1000 → hI b1 n' f = hI b n' f := fun n' f hn' => (wI n' f hn').trans (hI_o (by decide) _ _)
    have vA0 : ∀ n' t f, n' < 1000 → (t = 62 ∨ t = 63 ∨ t = 64) → hA b1 n' t f = hA b n' t f := fun n' t f hn' ht' => (wA n' t f hn' ht').trans (by rw [hA_o _ (by omega)])
    have v43 : ∀ u, tL b1 43 0 u = tL b 43 0 u := fun u => dLS cb (S := [43]) (P := []) (by decide) (by simp) 0 u
    have v46 : ∀ u, tL b1 46 0 u = tL b 46 0 u := fun u => dLS cb (S := [46]) (P := []) (by decide) (by simp) 0 u
    have v60 : ∀ s' n', tI b1 60 s' n' = if s' = sh ∧ n' = n then 1 else tI b 60 s' n' := fun s' n' => (dIS cb (S := [60]) (P := []) (by decide) (by simp) s' n').trans (by simp (config := {decide := true}) only [gfI_enc, gfL_enc, gfR_enc, pfI_enc, pfL_enc, pfR_enc, Option.bind_some, cI_v, cL_v, cF_v, cD_v, cR_v, cV_v, cI_x, cL_x, cR_x, cV_x, gz_0, gz_1, acc_enc, tI_sI, tL_sI, tR_sI, tN_sI, tZ_sI, tC_sI, tc_sI, tz_sI, tI_sL, tL_sL, tR_sL, tN_sL, tZ_sL, tC_sL, tc_sL, tz_sL, tI_sR, tL_sR, tR_sR, tN_sR, tZ_sR, tC_sR, tc_sR, tz_sR, tI_sZ, tL_sZ, tR_sZ, tN_sZ, tZ_sZ, tC_sZ, tc_sZ, tz_sZ, tI_sC, tL_sC, tR_sC, tN_sC, tZ_sC, tC_sC, tc_sC, tz_sC, tI_aC, tL_aC, tR_aC, tN_aC, tZ_aC, tC_aC, tc_aC, tz_aC, tI_rmL, tL_rmL, tR_rmL, tN_rmL, tZ_rmL, tC_rmL, tc_rmL, tz_rmL, tI_mk, tL_mk, tR_mk, tN_mk, tZ_mk, tC_mk, tc_mk, tz_mk, tI_pushL, tL_pushL, tR_pushL, tN_pushL, tZ_pushL, tC_pushL, tc_pushL, tz_pushL, tI_pushB, tL_pushB, tR_pushB, tN_pushB, tZ_pushB, tC_pushB, tc_pushB, tz_pushB, tI_cpL, tL_cpL, tR_cpL, tN_cpL, tZ_cpL, tC_cpL, tc_cpL, tz_cpL, eq_self, true_and, and_true, false_and, and_false, if_true, if_false, reduceIte, ite_true, ite_false, not_true_eq_false, not_false_eq_true])
    have KN := hR2.2.2.2.2.2.2.2.2.2.2.2.2.2.1.2.2 p hp
    obtain ⟨-, ⟨-, -, -, -, -, -, qL, -⟩, -, -, ⟨-, q9, q10⟩⟩ := KN
    have x1' : tR (sI a1 20 sh n 1) 3 0 p = some (4, j) := x1
    have x2' : j < tN (sI a1 20 sh n 1) 4 := x2
    have x29' := fun z => x29 (a := sI a1 20 sh n 1) (z := z) x2'
    have s20 : ¬ s = 20 := h34.2.2
    have o36 : ow 36 = 1 := by decide +kernel
    have k36d : kd 36 < 24 := by decide +kernel
    have go34 : ∀ z, Ex 34 [aR (some (4, j)), aI m, aR (some (36, sh))] (enc 1 (sI a1 20 sh n 1) z) = _ := fun z => (X_in (by decide +kernel) x2' rfl).trans (lf_34_0 ..)
    by_cases hpo : hI b1 p 8 = 0
    · have e8 : tR a1 4 j 8 = none := by rw [← kR_at x1]; exact q9 hpo
      have e8' : tI b1 61 j' 8 = 0 := by rw [← hI_at y1]; exact hpo
      refine ⟨_, _, fun z => ?_, fun z => ?_, hR2, chF_t (chF_m ca (by simp) (by simp)) (chF_m ha0 (by simp) (by simp)), chF_t (chF_m hb0 (by simp) (by simp)) (chF_m cb (by simp) (by simp)), wa.t wa0, wb0.t wb, BmP_n (fun q => q.2.1 ((vI0 p 8 hp).symm.trans hpo)) vI0 vA0 v43 v46 v60⟩
      · refine (X_in (by decide +kernel) (fcN_30 hfc) rfl).trans ((lf_18_0 ..).trans ?_)
        simp (config := {decide := true}) only [gfI_enc, gfL_enc, gfR_enc, pfI_enc, pfL_enc, pfR_enc, Option.bind_some, cI_v, cL_v, cF_v, cD_v, cR_v, cV_v, cI_x, cL_x, cR_x, cV_x, gz_0, gz_1, acc_enc, tI_sI, tL_sI, tR_sI, tN_sI, tZ_sI, tC_sI, tc_sI, tz_sI, tI_sL, tL_sL, tR_sL, tN_sL, tZ_sL, tC_sL, tc_sL, tz_sL, tI_sR, tL_sR, tR_sR, tN_sR, tZ_sR, tC_sR, tc_sR, tz_sR, tI_sZ, tL_sZ, tR_sZ, tN_sZ, tZ_sZ, tC_sZ, tc_sZ, tz_sZ, tI_sC, tL_sC, tR_sC, tN_sC, tZ_sC, tC_sC, tc_sC, tz_sC, tI_aC, tL_aC, tR_aC, tN_aC, tZ_aC, tC_aC, tc_aC, tz_aC, tI_rmL, tL_rmL, tR_rmL, tN_rmL, tZ_rmL, tC_rmL, tc_rmL, tz_rmL, tI_mk, tL_mk, tR_mk, tN_mk, tZ_mk, tC_mk, tc_mk, tz_mk, tI_pushL, tL_pushL, tR_pushL, tN_pushL, tZ_pushL, tC_pushL, tc_pushL, tz_pushL, tI_pushB, tL_pushB, tR_pushB, tN_pushB, tZ_pushB, tC_pushB, tc_pushB, tz_pushB, tI_cpL, tL_cpL, tR_cpL, tN_cpL, tZ_cpL, tC_cpL, tc_cpL, tz_cpL, eq_self, true_and, and_true, false_and, and_false, if_true, if_false, reduceIte, ite_true, ite_false, not_true_eq_false, not_false_eq_true, gm hs hr, m1, x, gm hs hr1, gm hs hr1s, s20, e0, e5, e11, x67, hd, reduceCtorEq]
        rw [go34]
        simp (config := {decide := true}) only [gfI_enc, gfL_enc, gfR_enc, pfI_enc, pfL_enc, pfR_enc, Option.bind_some, cI_v, cL_v, cF_v, cD_v, cR_v, cV_v, cI_x, cL_x, cR_x, cV_x, gz_0, gz_1, acc_enc, tI_sI, tL_sI, tR_sI, tN_sI, tZ_sI, tC_sI, tc_sI, tz_sI, tI_sL, tL_sL, tR_sL, tN_sL, tZ_sL, tC_sL, tc_sL, tz_sL, tI_sR, tL_sR, tR_sR, tN_sR, tZ_sR, tC_sR, tc_sR, tz_sR, tI_sZ, tL_sZ, tR_sZ, tN_sZ, tZ_sZ, tC_sZ, tc_sZ, tz_sZ, tI_sC, tL_sC, tR_sC, tN_sC, tZ_sC, tC_sC, tc_sC, tz_sC, tI_aC, tL_aC, tR_aC, tN_aC, tZ_aC, tC_aC, tc_aC, tz_aC, tI_rmL, tL_rmL, tR_rmL, tN_rmL, tZ_rmL, tC_rmL, tc_rmL, tz_rmL, tI_mk, tL_mk, tR_mk, tN_mk, tZ_mk, tC_mk, tc_mk, tz_mk, tI_pushL, tL_pushL, tR_pushL, tN_pushL, tZ_pushL, tC_pushL, tc_pushL, tz_pushL, tI_pushB, tL_pushB, tR_pushB, tN_pushB, tZ_pushB, tC_pushB, tc_pushB, tz_pushB, tI_cpL, tL_cpL, tR_cpL, tN_cpL, tZ_cpL, tC_cpL, tc_cpL, tz_cpL, eq_self, true_and, and_true, false_and, and_false, if_true, if_false, reduceIte, ite_true, ite_false, not_true_eq_false, not_false_eq_true, x29', e8]
      · refine (X_in (by decide +kernel) (frN_94 hfr) rfl).trans ((lf_174_0 ..).trans ?_)
        simp (config := {decide := true}) only [gfI_enc, gfL_enc, gfR_enc, pfI_enc, pfL_enc, pfR_enc, Option.bind_some, cI_v, cL_v, cF_v, cD_v, cR_v, cV_v, cI_x, cL_x, cR_x, cV_x, gz_0, gz_1, acc_enc, tI_sI, tL_sI, tR_sI, tN_sI, tZ_sI, tC_sI, tc_sI, tz_sI, tI_sL, tL_sL, tR_sL, tN_sL, tZ_sL, tC_sL, tc_sL, tz_sL, tI_sR, tL_sR, tR_sR, tN_sR, tZ_sR, tC_sR, tc_sR, tz_sR, tI_sZ, tL_sZ, tR_sZ, tN_sZ, tZ_sZ, tC_sZ, tc_sZ, tz_sZ, tI_sC, tL_sC, tR_sC, tN_sC, tZ_sC, tC_sC, tc_sC, tz_sC, tI_aC, tL_aC, tR_aC, tN_aC, tZ_aC, tC_aC, tc_aC, tz_aC, tI_rmL, tL_rmL, tR_rmL, tN_rmL, tZ_rmL, tC_rmL, tc_rmL, tz_rmL, tI_mk, tL_mk, tR_mk, tN_mk, tZ_mk, tC_mk, tc_mk, tz_mk, tI_pushL, tL_pushL, tR_pushL, tN_pushL, tZ_pushL, tC_pushL, tc_pushL, tz_pushL, tI_pushB, tL_pushB, tR_pushB, tN_pushB, tZ_pushB, tC_pushB, tc_pushB, tz_pushB, tI_cpL, tL_cpL, tR_cpL, tN_cpL, tZ_cpL, tC_cpL, tc_cpL, tz_cpL, eq_self, true_and, and_true, false_and, and_false, if_true, if_false, reduceIte, ite_true, ite_false, not_true_eq_false, not_false_eq_true, frN_94 hfr, frN_59 hfr, frR_94_9 hfr, frZ_59 hfr, gaR_enc, g4, g5, g6, f1, f2, hsh60, gaI_enc, paI_enc, g1, g2, hn, hd, y, y2, e8']
    · obtain ⟨i, k, t, s0, i1, i2, i3, i4, i5, -, -, -, i9, i10, i11, i12, i13⟩ := q10 hpo
      have e8 : ¬ tR a1 4 j 8 = none := by rw [← kR_at x1, show kR a1 p 8 = some (7, i) from i5]; exact fun q => nomatch q
      have e8' : ¬ tI b1 61 j' 8 = 0 := by rw [← hI_at y1]; exact hpo
      have e10 : tR a1 4 j 10 = some (36, s0) := by rw [← kR_at x1]; exact i12
      have e9 : tR a1 4 j 9 = some (35, t) := by rw [← kR_at x1]; exact i11
      have e14 : tI b1 61 j' 14 = Int32.ofNat s0 := by rw [← hI_at y1]; exact i13
      rw [kI_o (by decide)] at qL
      have eL : tI a1 4 j 11 = tI b1 61 j' 16 := by rw [← kI_at x1, ← hI_at y1]; exact qL
      have hS2 := hR2.2.2.2.1
      have z27 : tZ (sI a1 20 sh n 1) 27 0 = tZ a 27 0 := (tr1 27 (by decide) (by decide)).2.2.2 0
      have ks0 : s0 < tN (sI a1 20 sh n 1) 36 := by rw [hS2.2.2.1.1]; exact i4
      have ksh : sh < tN (sI a1 20 sh n 1) 36 := k36
      by_cases es : s0 = sh
      · subst es
        by_cases el : tI b1 61 j' 16 < m
        · refine ⟨_, _, fun z => ?_, fun z => ?_, hR2, chF_t (chF_m ca (by simp) (by simp)) (chF_m ha0 (by simp) (by simp)), chF_t (chF_m hb0 (by simp) (by simp)) (chF_m cb (by simp) (by simp)), wa.t wa0, wb0.t wb, BmP_n (fun q => q.2.2.2 (by rw [← vI0 p 16 hp, hI_at y1]; exact el)) vI0 vA0 v43 v46 v60⟩
          · refine (X_in (by decide +kernel) (fcN_30 hfc) rfl).trans ((lf_18_0 ..).trans ?_)
            simp (config := {decide := true}) only [gfI_enc, gfL_enc, gfR_enc, pfI_enc, pfL_enc, pfR_enc, Option.bind_some, cI_v, cL_v, cF_v, cD_v, cR_v, cV_v, cI_x, cL_x, cR_x, cV_x, gz_0, gz_1, acc_enc, tI_sI, tL_sI, tR_sI, tN_sI, tZ_sI, tC_sI, tc_sI, tz_sI, tI_sL, tL_sL, tR_sL, tN_sL, tZ_sL, tC_sL, tc_sL, tz_sL, tI_sR, tL_sR, tR_sR, tN_sR, tZ_sR, tC_sR, tc_sR, tz_sR, tI_sZ, tL_sZ, tR_sZ, tN_sZ, tZ_sZ, tC_sZ, tc_sZ, tz_sZ, tI_sC, tL_sC, tR_sC, tN_sC, tZ_sC, tC_sC, tc_sC, tz_sC, tI_aC, tL_aC, tR_aC, tN_aC, tZ_aC, tC_aC, tc_aC, tz_aC, tI_rmL, tL_rmL, tR_rmL, tN_rmL, tZ_rmL, tC_rmL, tc_rmL, tz_rmL, tI_mk, tL_mk, tR_mk, tN_mk, tZ_mk, tC_mk, tc_mk, tz_mk, tI_pushL, tL_pushL, tR_pushL, tN_pushL, tZ_pushL, tC_pushL, tc_pushL, tz_pushL, tI_pushB, tL_pushB, tR_pushB, tN_pushB, tZ_pushB, tC_pushB, tc_pushB, tz_pushB, tI_cpL, tL_cpL, tR_cpL, tN_cpL, tZ_cpL, tC_cpL, tc_cpL, tz_cpL, eq_self, true_and, and_true, false_and, and_false, if_true, if_false, reduceIte, ite_true, ite_false, not_true_eq_false, not_false_eq_true, gm hs hr, m1, x, gm hs hr1, gm hs hr1s, s20, e0, e5, e11, x67, hd, reduceCtorEq]
            rw [go34]
            have aqq : ∀ z r, aq (enc 1 (sI a1 20 s0 n 1) z) (some (36, s0)) (some (36, s0)) r = r := fun z r => aq_enc (fun q hq => by cases hq; exact ⟨o36, k36d, ks0⟩) (fun q hq => by cases hq; exact ⟨o36, k36d, ks0⟩)
            simp (config := {decide := true}) only [gfI_enc, gfL_enc, gfR_enc, pfI_enc, pfL_enc, pfR_enc, Option.bind_some, cI_v, cL_v, cF_v, cD_v, cR_v, cV_v, cI_x, cL_x, cR_x, cV_x, gz_0, gz_1, acc_enc, tI_sI, tL_sI, tR_sI, tN_sI, tZ_sI, tC_sI, tc_sI, tz_sI, tI_sL, tL_sL, tR_sL, tN_sL, tZ_sL, tC_sL, tc_sL, tz_sL, tI_sR, tL_sR, tR_sR, tN_sR, tZ_sR, tC_sR, tc_sR, tz_sR, tI_sZ, tL_sZ, tR_sZ, tN_sZ, tZ_sZ, tC_sZ, tc_sZ, tz_sZ, tI_sC, tL_sC, tR_sC, tN_sC, tZ_sC, tC_sC, tc_sC, tz_sC, tI_aC, tL_aC, tR_aC, tN_aC, tZ_aC, tC_aC, tc_aC, tz_aC, tI_rmL, tL_rmL, tR_rmL, tN_rmL, tZ_rmL, tC_rmL, tc_rmL, tz_rmL, tI_mk, tL_mk, tR_mk, tN_mk, tZ_mk, tC_mk, tc_mk, tz_mk, tI_pushL, tL_pushL, tR_pushL, tN_pushL, tZ_pushL, tC_pushL, tc_pushL, tz_pushL, tI_pushB, tL_pushB, tR_pushB, tN_pushB, tZ_pushB, tC_pushB, tc_pushB, tz_pushB, tI_cpL, tL_cpL, tR_cpL, tN_cpL, tZ_cpL, tC_cpL, tc_cpL, tz_cpL, eq_self, true_and, and_true, false_and, and_false, if_true, if_false, reduceIte, ite_true, ite_false, not_true_eq_false, not_false_eq_true, x29', e8, x2, e10, aqq, eL, el]
          · refine (X_in (by decide +kernel) (frN_94 hfr) rfl).trans ((lf_174_0 ..).trans ?_)
            simp (config := {decide := true}) only [gfI_enc, gfL_enc, gfR_enc, pfI_enc, pfL_enc, pfR_enc, Option.bind_some, cI_v, cL_v, cF_v, cD_v, cR_v, cV_v, cI_x, cL_x, cR_x, cV_x, gz_0, gz_1, acc_enc, tI_sI, tL_sI, tR_sI, tN_sI, tZ_sI, tC_sI, tc_sI, tz_sI, tI_sL, tL_sL, tR_sL, tN_sL, tZ_sL, tC_sL, tc_sL, tz_sL, tI_sR, tL_sR, tR_sR, tN_sR, tZ_sR, tC_sR, tc_sR, tz_sR, tI_sZ, tL_sZ, tR_sZ, tN_sZ, tZ_sZ, tC_sZ, tc_sZ, tz_sZ, tI_sC, tL_sC, tR_sC, tN_sC, tZ_sC, tC_sC, tc_sC, tz_sC, tI_aC, tL_aC, tR_aC, tN_aC, tZ_aC, tC_aC, tc_aC, tz_aC, tI_rmL, tL_rmL, tR_rmL, tN_rmL, tZ_rmL, tC_rmL, tc_rmL, tz_rmL, tI_mk, tL_mk, tR_mk, tN_mk, tZ_mk, tC_mk, tc_mk, tz_mk, tI_pushL, tL_pushL, tR_pushL, tN_pushL, tZ_pushL, tC_pushL, tc_pushL, tz_pushL, tI_pushB, tL_pushB, tR_pushB, tN_pushB, tZ_pushB, tC_pushB, tc_pushB, tz_pushB, tI_cpL, tL_cpL, tR_cpL, tN_cpL, tZ_cpL, tC_cpL, tc_cpL, tz_cpL, eq_self, true_and, and_true, false_and, and_false, if_true, if_false, reduceIte, ite_true, ite_false, not_true_eq_false, not_false_eq_true, frN_94 hfr, frN_59 hfr, frR_94_9 hfr, frZ_59 hfr, gaR_enc, g4, g5, g6, f1, f2, hsh60, gaI_enc, paI_enc, g1, g2, hn, hd, y, y2, e8', e14, el]
        · have hA0 : BmA b p s0 n m = true := BmA_i.mpr ⟨hd, fun q => hpo ((vI0 p 8 hp).trans q), by rw [← vI0 p 14 hp]; exact i13, by rw [← vI0 p 16 hp, hI_at y1]; exact el⟩
          have hBm : BmP b (gbB b1 j' t s0 m) p s0 n m := by
            have k8 : k < 8 := by have := hR2.2.2.2.2.2.2.2.1.1; omega
            have t8 : t < 8 := by have := hR2.2.2.1.1; omega
            refine ⟨t, fun _ => ⟨k, by rw [← vA0 p 64 0 hp (Or.inr (Or.inr rfl))]; exact i9, (dIS cb (S := [86]) (P := []) (by decide) (by simp) 0 (10 * k + 9)).symm.trans i10, k8, t8⟩, fun n' f hn' => ?_, fun n' t' f hn' ht' => ?_, fun u => ?_, fun u => ?_, fun s' n' => ?_⟩
            · refine (hI_sI hR2.2.2.2.2.2.2.2.2.2.2.2.2.2.1.2.1 hp y1 _ _ hn' _).trans ?_
              rw [vI0 n' f hn', ← hI_at y1, vI0 p 16 hp]
              simp only [hA0, true_and]
            · show hA (sI b1 61 j' 16 (tI b1 61 j' 16 - m)) n' t' f = _
              rw [hA_o _ (by omega)]
              exact vA0 n' t' f hn' ht'
            · unfold gbB
              simp (config := {decide := true}) only [gfI_enc, gfL_enc, gfR_enc, pfI_enc, pfL_enc, pfR_enc, Option.bind_some, cI_v, cL_v, cF_v, cD_v, cR_v, cV_v, cI_x, cL_x, cR_x, cV_x, gz_0, gz_1, acc_enc, tI_sI, tL_sI, tR_sI, tN_sI, tZ_sI, tC_sI, tc_sI, tz_sI, tI_sL, tL_sL, tR_sL, tN_sL, tZ_sL, tC_sL, tc_sL, tz_sL, tI_sR, tL_sR, tR_sR, tN_sR, tZ_sR, tC_sR, tc_sR, tz_sR, tI_sZ, tL_sZ, tR_sZ, tN_sZ, tZ_sZ, tC_sZ, tc_sZ, tz_sZ, tI_sC, tL_sC, tR_sC, tN_sC, tZ_sC, tC_sC, tc_sC, tz_sC, tI_aC, tL_aC, tR_aC, tN_aC, tZ_aC, tC_aC, tc_aC, tz_aC, tI_rmL, tL_rmL, tR_rmL, tN_rmL, tZ_rmL, tC_rmL, tc_rmL, tz_rmL, tI_mk, tL_mk, tR_mk, tN_mk, tZ_mk, tC_mk, tc_mk, tz_mk, tI_pushL, tL_pushL, tR_pushL, tN_pushL, tZ_pushL, tC_pushL, tc_pushL, tz_pushL, tI_pushB, tL_pushB, tR_pushB, tN_pushB, tZ_pushB, tC_pushB, tc_pushB, tz_pushB, tI_cpL, tL_cpL, tR_cpL, tN_cpL, tZ_cpL, tC_cpL, tc_cpL, tz_cpL, eq_self, true_and, and_true, false_and, and_false, if_true, if_false, reduceIte, ite_true, ite_false, not_true_eq_false, not_false_eq_true, hA0, v43]
              by_cases e : u = t
              · rw [if_pos e, if_pos e, e]
              · rw [if_neg e, if_neg e]
            · unfold gbB
              simp (config := {decide := true}) only [gfI_enc, gfL_enc, gfR_enc, pfI_enc, pfL_enc, pfR_enc, Option.bind_some, cI_v, cL_v, cF_v, cD_v, cR_v, cV_v, cI_x, cL_x, cR_x, cV_x, gz_0, gz_1, acc_enc, tI_sI, tL_sI, tR_sI, tN_sI, tZ_sI, tC_sI, tc_sI, tz_sI, tI_sL, tL_sL, tR_sL, tN_sL, tZ_sL, tC_sL, tc_sL, tz_sL, tI_sR, tL_sR, tR_sR, tN_sR, tZ_sR, tC_sR, tc_sR, tz_sR, tI_sZ, tL_sZ, tR_sZ, tN_sZ, tZ_sZ, tC_sZ, tc_sZ, tz_sZ, tI_sC, tL_sC, tR_sC, tN_sC, tZ_sC, tC_sC, tc_sC, tz_sC, tI_aC, tL_aC, tR_aC, tN_aC, tZ_aC, tC_aC, tc_aC, tz_aC, tI_rmL, tL_rmL, tR_rmL, tN_rmL, tZ_rmL, tC_rmL, tc_rmL, tz_rmL, tI_mk, tL_mk, tR_mk, tN_mk, tZ_mk, tC_mk, tc_mk, tz_mk, tI_pushL, tL_pushL, tR_pushL, tN_pushL, tZ_pushL, tC_pushL, tc_pushL, tz_pushL, tI_pushB, tL_pushB, tR_pushB, tN_pushB, tZ_pushB, tC_pushB, tc_pushB, tz_pushB, tI_cpL, tL_cpL, tR_cpL, tN_cpL, tZ_cpL, tC_cpL, tc_cpL, tz_cpL, eq_self, true_and, and_true, false_and, and_false, if_true, if_false, reduceIte, ite_true, ite_false, not_true_eq_false, not_false_eq_true, hA0, v46]
              by_cases e : u = s0
              · rw [if_pos e, if_pos e, e]
              · rw [if_neg e, if_neg e]
            · unfold gbB
              simp (config := {decide := true}) only [gfI_enc, gfL_enc, gfR_enc, pfI_enc, pfL_enc, pfR_enc, Option.bind_some, cI_v, cL_v, cF_v, cD_v, cR_v, cV_v, cI_x, cL_x, cR_x, cV_x, gz_0, gz_1, acc_enc, tI_sI, tL_sI, tR_sI, tN_sI, tZ_sI, tC_sI, tc_sI, tz_sI, tI_sL, tL_sL, tR_sL, tN_sL, tZ_sL, tC_sL, tc_sL, tz_sL, tI_sR, tL_sR, tR_sR, tN_sR, tZ_sR, tC_sR, tc_sR, tz_sR, tI_sZ, tL_sZ, tR_sZ, tN_sZ, tZ_sZ, tC_sZ, tc_sZ, tz_sZ, tI_sC, tL_sC, tR_sC, tN_sC, tZ_sC, tC_sC, tc_sC, tz_sC, tI_aC, tL_aC, tR_aC, tN_aC, tZ_aC, tC_aC, tc_aC, tz_aC, tI_rmL, tL_rmL, tR_rmL, tN_rmL, tZ_rmL, tC_rmL, tc_rmL, tz_rmL, tI_mk, tL_mk, tR_mk, tN_mk, tZ_mk, tC_mk, tc_mk, tz_mk, tI_pushL, tL_pushL, tR_pushL, tN_pushL, tZ_pushL, tC_pushL, tc_pushL, tz_pushL, tI_pushB, tL_pushB, tR_pushB, tN_pushB, tZ_pushB, tC_pushB, tc_pushB, tz_pushB, tI_cpL, tL_cpL, tR_cpL, tN_cpL, tZ_cpL, tC_cpL, tc_cpL, tz_cpL, eq_self, true_and, and_true, false_and, and_false, if_true, if_false, reduceIte, ite_true, ite_false, not_true_eq_false, not_false_eq_true, v60]
          obtain ⟨r1, r2, r3, r4, r5⟩ := gb_R (m := m) (by rw [hI_at y1]; exact el) hm hR2 hp x1' y1 i3 i4
          refine ⟨_, _, fun z => ?_, fun z => ?_, r1, chF_t (chF_m ca (by simp) (by simp)) (chF_t (chF_m ha0 (by simp) (by simp)) (chF_m r2 (by simp) (by simp))), chF_t (chF_m hb0 (by simp) (by simp)) (chF_t (chF_m cb (by simp) (by simp)) (chF_m r3 (by simp) (by simp))), (wa.t wa0).t r4, (wb0.t wb).t r5, hBm⟩
          · refine (X_in (by decide +kernel) (fcN_30 hfc) rfl).trans ((lf_18_0 ..).trans ?_)
            simp (config := {decide := true}) only [gfI_enc, gfL_enc, gfR_enc, pfI_enc, pfL_enc, pfR_enc, Option.bind_some, cI_v, cL_v, cF_v, cD_v, cR_v, cV_v, cI_x, cL_x, cR_x, cV_x, gz_0, gz_1, acc_enc, tI_sI, tL_sI, tR_sI, tN_sI, tZ_sI, tC_sI, tc_sI, tz_sI, tI_sL, tL_sL, tR_sL, tN_sL, tZ_sL, tC_sL, tc_sL, tz_sL, tI_sR, tL_sR, tR_sR, tN_sR, tZ_sR, tC_sR, tc_sR, tz_sR, tI_sZ, tL_sZ, tR_sZ, tN_sZ, tZ_sZ, tC_sZ, tc_sZ, tz_sZ, tI_sC, tL_sC, tR_sC, tN_sC, tZ_sC, tC_sC, tc_sC, tz_sC, tI_aC, tL_aC, tR_aC, tN_aC, tZ_aC, tC_aC, tc_aC, tz_aC, tI_rmL, tL_rmL, tR_rmL, tN_rmL, tZ_rmL, tC_rmL, tc_rmL, tz_rmL, tI_mk, tL_mk, tR_mk, tN_mk, tZ_mk, tC_mk, tc_mk, tz_mk, tI_pushL, tL_pushL, tR_pushL, tN_pushL, tZ_pushL, tC_pushL, tc_pushL, tz_pushL, tI_pushB, tL_pushB, tR_pushB, tN_pushB, tZ_pushB, tC_pushB, tc_pushB, tz_pushB, tI_cpL, tL_cpL, tR_cpL, tN_cpL, tZ_cpL, tC_cpL, tc_cpL, tz_cpL, eq_self, true_and, and_true, false_and, and_false, if_true, if_false, reduceIte, ite_true, ite_false, not_true_eq_false, not_false_eq_true, gm hs hr, m1, x, gm hs hr1, gm hs hr1s, s20, e0, e5, e11, x67, hd, reduceCtorEq]
            rw [go34]
            have aqq : ∀ z r, aq (enc 1 (sI a1 20 s0 n 1) z) (some (36, s0)) (some (36, s0)) r = r := fun z r => aq_enc (fun q hq => by cases hq; exact ⟨o36, k36d, ks0⟩) (fun q hq => by cases hq; exact ⟨o36, k36d, ks0⟩)
            have kt : t < tN (sI a1 20 s0 n 1) 35 := by rw [hR2.2.2.1.2.2.1]; exact i3
            simp (config := {decide := true}) only [gfI_enc, gfL_enc, gfR_enc, pfI_enc, pfL_enc, pfR_enc, Option.bind_some, cI_v, cL_v, cF_v, cD_v, cR_v, cV_v, cI_x, cL_x, cR_x, cV_x, gz_0, gz_1, acc_enc, tI_sI, tL_sI, tR_sI, tN_sI, tZ_sI, tC_sI, tc_sI, tz_sI, tI_sL, tL_sL, tR_sL, tN_sL, tZ_sL, tC_sL, tc_sL, tz_sL, tI_sR, tL_sR, tR_sR, tN_sR, tZ_sR, tC_sR, tc_sR, tz_sR, tI_sZ, tL_sZ, tR_sZ, tN_sZ, tZ_sZ, tC_sZ, tc_sZ, tz_sZ, tI_sC, tL_sC, tR_sC, tN_sC, tZ_sC, tC_sC, tc_sC, tz_sC, tI_aC, tL_aC, tR_aC, tN_aC, tZ_aC, tC_aC, tc_aC, tz_aC, tI_rmL, tL_rmL, tR_rmL, tN_rmL, tZ_rmL, tC_rmL, tc_rmL, tz_rmL, tI_mk, tL_mk, tR_mk, tN_mk, tZ_mk, tC_mk, tc_mk, tz_mk, tI_pushL, tL_pushL, tR_pushL, tN_pushL, tZ_pushL, tC_pushL, tc_pushL, tz_pushL, tI_pushB, tL_pushB, tR_pushB, tN_pushB, tZ_pushB, tC_pushB, tc_pushB, tz_pushB, tI_cpL, tL_cpL, tR_cpL, tN_cpL, tZ_cpL, tC_cpL, tc_cpL, tz_cpL, eq_self, true_and, and_true, false_and, and_false, if_true, if_false, reduceIte, ite_true, ite_false, not_true_eq_false, not_false_eq_true, x29', e8, x2, e10, aqq, eL, el, x35 m x2' e9 e10 kt ks0]
            unfold gbA
            simp (config := {decide := true}) only [gfI_enc, gfL_enc, gfR_enc, pfI_enc, pfL_enc, pfR_enc, Option.bind_some, cI_v, cL_v, cF_v, cD_v, cR_v, cV_v, cI_x, cL_x, cR_x, cV_x, gz_0, gz_1, acc_enc, tI_sI, tL_sI, tR_sI, tN_sI, tZ_sI, tC_sI, tc_sI, tz_sI, tI_sL, tL_sL, tR_sL, tN_sL, tZ_sL, tC_sL, tc_sL, tz_sL, tI_sR, tL_sR, tR_sR, tN_sR, tZ_sR, tC_sR, tc_sR, tz_sR, tI_sZ, tL_sZ, tR_sZ, tN_sZ, tZ_sZ, tC_sZ, tc_sZ, tz_sZ, tI_sC, tL_sC, tR_sC, tN_sC, tZ_sC, tC_sC, tc_sC, tz_sC, tI_aC, tL_aC, tR_aC, tN_aC, tZ_aC, tC_aC, tc_aC, tz_aC, tI_rmL, tL_rmL, tR_rmL, tN_rmL, tZ_rmL, tC_rmL, tc_rmL, tz_rmL, tI_mk, tL_mk, tR_mk, tN_mk, tZ_mk, tC_mk, tc_mk, tz_mk, tI_pushL, tL_pushL, tR_pushL, tN_pushL, tZ_pushL, tC_pushL, tc_pushL, tz_pushL, tI_pushB, tL_pushB, tR_pushB, tN_pushB, tZ_pushB, tC_pushB, tc_pushB, tz_pushB, tI_cpL, tL_cpL, tR_cpL, tN_cpL, tZ_cpL, tC_cpL, tc_cpL, tz_cpL, eq_self, true_and, and_true, false_and, and_false, if_true, if_false, reduceIte, ite_true, ite_false, not_true_eq_false, not_false_eq_true, eL]
          · have KB2 := hR2.2.2.2.2.2.2.2.2.2.2.2.2.2.1.2.1
            obtain ⟨B1, B2, B3, B4, -⟩ := KB2
            obtain ⟨B5, B6, B7, B8, B9, B10⟩ := B4 j' y2
            have c0 : tI b1 64 j' 0 = Int32.ofNat k := by rw [← hA_at y1]; exact i9
            have hk8 : k < 8 := by have := hR2.2.2.2.2.2.2.2.1.1; omega
            have ht8 : t < 8 := by have := hR2.2.2.1.1; omega
            have i0 : (0 : Int32).toNatClampNeg = 0 := rfl
            have i1' : ¬ (0 : Int32) < 0 := by decide
            have n64 : j' < tN b1 64 := by rw [B3.2.2]; exact y2
            refine (X_in (by decide +kernel) (frN_94 hfr) rfl).trans ((lf_174_0 ..).trans ?_)
            simp (config := {decide := true}) only [gfI_enc, gfL_enc, gfR_enc, pfI_enc, pfL_enc, pfR_enc, Option.bind_some, cI_v, cL_v, cF_v, cD_v, cR_v, cV_v, cI_x, cL_x, cR_x, cV_x, gz_0, gz_1, acc_enc, tI_sI, tL_sI, tR_sI, tN_sI, tZ_sI, tC_sI, tc_sI, tz_sI, tI_sL, tL_sL, tR_sL, tN_sL, tZ_sL, tC_sL, tc_sL, tz_sL, tI_sR, tL_sR, tR_sR, tN_sR, tZ_sR, tC_sR, tc_sR, tz_sR, tI_sZ, tL_sZ, tR_sZ, tN_sZ, tZ_sZ, tC_sZ, tc_sZ, tz_sZ, tI_sC, tL_sC, tR_sC, tN_sC, tZ_sC, tC_sC, tc_sC, tz_sC, tI_aC, tL_aC, tR_aC, tN_aC, tZ_aC, tC_aC, tc_aC, tz_aC, tI_rmL, tL_rmL, tR_rmL, tN_rmL, tZ_rmL, tC_rmL, tc_rmL, tz_rmL, tI_mk, tL_mk, tR_mk, tN_mk, tZ_mk, tC_mk, tc_mk, tz_mk, tI_pushL, tL_pushL, tR_pushL, tN_pushL, tZ_pushL, tC_pushL, tc_pushL, tz_pushL, tI_pushB, tL_pushB, tR_pushB, tN_pushB, tZ_pushB, tC_pushB, tc_pushB, tz_pushB, tI_cpL, tL_cpL, tR_cpL, tN_cpL, tZ_cpL, tC_cpL, tc_cpL, tz_cpL, eq_self, true_and, and_true, false_and, and_false, if_true, if_false, reduceIte, ite_true, ite_false, not_true_eq_false, not_false_eq_true, frN_94 hfr, frN_59 hfr, frR_94_9 hfr, frZ_59 hfr, gaR_enc, g4, g5, g6, f1, f2, hsh60, gaI_enc, paI_enc, g1, g2, hn, hd, y, y2, e8', e14, el, frN_94 fr1, frR_94_0 fr1, frR_94_1 fr1, B7, B10, n64, i0, i1', c0]
            have fr2 : FxR (sI b1 61 j' 16 (tI b1 61 j' 16 - m)) := fr1
            rw [y233 fr2 hk8, cI_v]
            have c1 : tI (sI b1 61 j' 16 (tI b1 61 j' 16 - m)) 86 0 (10 * k + 9) = Int32.ofNat t := by simp (config := {decide := true}) only [gfI_enc, gfL_enc, gfR_enc, pfI_enc, pfL_enc, pfR_enc, Option.bind_some, cI_v, cL_v, cF_v, cD_v, cR_v, cV_v, cI_x, cL_x, cR_x, cV_x, gz_0, gz_1, acc_enc, tI_sI, tL_sI, tR_sI, tN_sI, tZ_sI, tC_sI, tc_sI, tz_sI, tI_sL, tL_sL, tR_sL, tN_sL, tZ_sL, tC_sL, tc_sL, tz_sL, tI_sR, tL_sR, tR_sR, tN_sR, tZ_sR, tC_sR, tc_sR, tz_sR, tI_sZ, tL_sZ, tR_sZ, tN_sZ, tZ_sZ, tC_sZ, tc_sZ, tz_sZ, tI_sC, tL_sC, tR_sC, tN_sC, tZ_sC, tC_sC, tc_sC, tz_sC, tI_aC, tL_aC, tR_aC, tN_aC, tZ_aC, tC_aC, tc_aC, tz_aC, tI_rmL, tL_rmL, tR_rmL, tN_rmL, tZ_rmL, tC_rmL, tc_rmL, tz_rmL, tI_mk, tL_mk, tR_mk, tN_mk, tZ_mk, tC_mk, tc_mk, tz_mk, tI_pushL, tL_pushL, tR_pushL, tN_pushL, tZ_pushL, tC_pushL, tc_pushL, tz_pushL, tI_pushB, tL_pushB, tR_pushB, tN_pushB, tZ_pushB, tC_pushB, tc_pushB, tz_pushB, tI_cpL, tL_cpL, tR_cpL, tN_cpL, tZ_cpL, tC_cpL, tc_cpL, tz_cpL, eq_self, true_and, and_true, false_and, and_false, if_true, if_false, reduceIte, ite_true, ite_false, not_true_eq_false, not_false_eq_true]; exact i10
            rw [c1, y150 m fr2 ht8 g6, cV_v]
            unfold gbB
            rw [neg64 hm, sub64, add64]
            rfl
      · have es' : ¬ Int32.ofNat s0 = Int32.ofNat sh := fun q => es (o_inj (by have := hS2.1; omega) (by omega) q)
        have es2 : ¬ (some ((36 : Nat), s0) = some ((36 : Nat), sh)) := fun q => es (Prod.mk.inj (Option.some.inj q)).2
        refine ⟨_, _, fun z => ?_, fun z => ?_, hR2, chF_t (chF_m ca (by simp) (by simp)) (chF_m ha0 (by simp) (by simp)), chF_t (chF_m hb0 (by simp) (by simp)) (chF_m cb (by simp) (by simp)), wa.t wa0, wb0.t wb, BmP_n (fun q => es' (by rw [← e14, ← hI_at y1, vI0 p 14 hp]; exact q.2.2.1)) vI0 vA0 v43 v46 v60⟩
        · refine (X_in (by decide +kernel) (fcN_30 hfc) rfl).trans ((lf_18_0 ..).trans ?_)
          simp (config := {decide := true}) only [gfI_enc, gfL_enc, gfR_enc, pfI_enc, pfL_enc, pfR_enc, Option.bind_some, cI_v, cL_v, cF_v, cD_v, cR_v, cV_v, cI_x, cL_x, cR_x, cV_x, gz_0, gz_1, acc_enc, tI_sI, tL_sI, tR_sI, tN_sI, tZ_sI, tC_sI, tc_sI, tz_sI, tI_sL, tL_sL, tR_sL, tN_sL, tZ_sL, tC_sL, tc_sL, tz_sL, tI_sR, tL_sR, tR_sR, tN_sR, tZ_sR, tC_sR, tc_sR, tz_sR, tI_sZ, tL_sZ, tR_sZ, tN_sZ, tZ_sZ, tC_sZ, tc_sZ, tz_sZ, tI_sC, tL_sC, tR_sC, tN_sC, tZ_sC, tC_sC, tc_sC, tz_sC, tI_aC, tL_aC, tR_aC, tN_aC, tZ_aC, tC_aC, tc_aC, tz_aC, tI_rmL, tL_rmL, tR_rmL, tN_rmL, tZ_rmL, tC_rmL, tc_rmL, tz_rmL, tI_mk, tL_mk, tR_mk, tN_mk, tZ_mk, tC_mk, tc_mk, tz_mk, tI_pushL, tL_pushL, tR_pushL, tN_pushL, tZ_pushL, tC_pushL, tc_pushL, tz_pushL, tI_pushB, tL_pushB, tR_pushB, tN_pushB, tZ_pushB, tC_pushB, tc_pushB, tz_pushB, tI_cpL, tL_cpL, tR_cpL, tN_cpL, tZ_cpL, tC_cpL, tc_cpL, tz_cpL, eq_self, true_and, and_true, false_and, and_false, if_true, if_false, reduceIte, ite_true, ite_false, not_true_eq_false, not_false_eq_true, gm hs hr, m1, x, gm hs hr1, gm hs hr1s, s20, e0, e5, e11, x67, hd, reduceCtorEq]
          rw [go34]
          have aqq : ∀ z r, aq (enc 1 (sI a1 20 sh n 1) z) (some (36, s0)) (some (36, sh)) r = r := fun z r => aq_enc (fun q hq => by cases hq; exact ⟨o36, k36d, ks0⟩) (fun q hq => by cases hq; exact ⟨o36, k36d, ksh⟩)
          simp (config := {decide := true}) only [gfI_enc, gfL_enc, gfR_enc, pfI_enc, pfL_enc, pfR_enc, Option.bind_some, cI_v, cL_v, cF_v, cD_v, cR_v, cV_v, cI_x, cL_x, cR_x, cV_x, gz_0, gz_1, acc_enc, tI_sI, tL_sI, tR_sI, tN_sI, tZ_sI, tC_sI, tc_sI, tz_sI, tI_sL, tL_sL, tR_sL, tN_sL, tZ_sL, tC_sL, tc_sL, tz_sL, tI_sR, tL_sR, tR_sR, tN_sR, tZ_sR, tC_sR, tc_sR, tz_sR, tI_sZ, tL_sZ, tR_sZ, tN_sZ, tZ_sZ, tC_sZ, tc_sZ, tz_sZ, tI_sC, tL_sC, tR_sC, tN_sC, tZ_sC, tC_sC, tc_sC, tz_sC, tI_aC, tL_aC, tR_aC, tN_aC, tZ_aC, tC_aC, tc_aC, tz_aC, tI_rmL, tL_rmL, tR_rmL, tN_rmL, tZ_rmL, tC_rmL, tc_rmL, tz_rmL, tI_mk, tL_mk, tR_mk, tN_mk, tZ_mk, tC_mk, tc_mk, tz_mk, tI_pushL, tL_pushL, tR_pushL, tN_pushL, tZ_pushL, tC_pushL, tc_pushL, tz_pushL, tI_pushB, tL_pushB, tR_pushB, tN_pushB, tZ_pushB, tC_pushB, tc_pushB, tz_pushB, tI_cpL, tL_cpL, tR_cpL, tN_cpL, tZ_cpL, tC_cpL, tc_cpL, tz_cpL, eq_self, true_and, and_true, false_and, and_false, if_true, if_false, reduceIte, ite_true, ite_false, not_true_eq_false, not_false_eq_true, x29', e8, x2, e10, aqq, es2]
        · refine (X_in (by decide +kernel) (frN_94 hfr) rfl).trans ((lf_174_0 ..).trans ?_)
          simp (config := {decide := true}) only [gfI_enc, gfL_enc, gfR_enc, pfI_enc, pfL_enc, pfR_enc, Option.bind_some, cI_v, cL_v, cF_v, cD_v, cR_v, cV_v, cI_x, cL_x, cR_x, cV_x, gz_0, gz_1, acc_enc, tI_sI, tL_sI, tR_sI, tN_sI, tZ_sI, tC_sI, tc_sI, tz_sI, tI_sL, tL_sL, tR_sL, tN_sL, tZ_sL, tC_sL, tc_sL, tz_sL, tI_sR, tL_sR, tR_sR, tN_sR, tZ_sR, tC_sR, tc_sR, tz_sR, tI_sZ, tL_sZ, tR_sZ, tN_sZ, tZ_sZ, tC_sZ, tc_sZ, tz_sZ, tI_sC, tL_sC, tR_sC, tN_sC, tZ_sC, tC_sC, tc_sC, tz_sC, tI_aC, tL_aC, tR_aC, tN_aC, tZ_aC, tC_aC, tc_aC, tz_aC, tI_rmL, tL_rmL, tR_rmL, tN_rmL, tZ_rmL, tC_rmL, tc_rmL, tz_rmL, tI_mk, tL_mk, tR_mk, tN_mk, tZ_mk, tC_mk, tc_mk, tz_mk, tI_pushL, tL_pushL, tR_pushL, tN_pushL, tZ_pushL, tC_pushL, tc_pushL, tz_pushL, tI_pushB, tL_pushB, tR_pushB, tN_pushB, tZ_pushB, tC_pushB, tc_pushB, tz_pushB, tI_cpL, tL_cpL, tR_cpL, tN_cpL, tZ_cpL, tC_cpL, tc_cpL, tz_cpL, eq_self, true_and, and_true, false_and, and_false, if_true, if_false, reduceIte, ite_true, ite_false, not_true_eq_false, not_false_eq_true, frN_94 hfr, frN_59 hfr, frR_94_9 hfr, frZ_59 hfr, gaR_enc, g4, g5, g6, f1, f2, hsh60, gaI_enc, paI_enc, g1, g2, hn, hd, y, y2, e8', e14, es']
  · refine ⟨a1, b, fun z => ?_, fun z => ?_, hR1, chF_m ca (by simp) (by simp), chF_r _ _ _, wa, Wr.rf b, BmP_n (fun q => hd q.1) (fun _ _ _ => rfl) (fun _ _ _ _ _ => rfl) (fun _ => rfl) (fun _ => rfl) (fun s' n' => by
      by_cases q : s' = sh ∧ n' = n
      · rw [if_pos q, q.1, q.2]
        exact (bit01 v4).resolve_left hd
      · rw [if_neg q])⟩
    · refine (X_in (by decide +kernel) (fcN_30 hfc) rfl).trans ((lf_18_0 ..).trans ?_)
      simp (config := {decide := true}) only [gfI_enc, gfL_enc, gfR_enc, pfI_enc, pfL_enc, pfR_enc, Option.bind_some, cI_v, cL_v, cF_v, cD_v, cR_v, cV_v, cI_x, cL_x, cR_x, cV_x, gz_0, gz_1, acc_enc, tI_sI, tL_sI, tR_sI, tN_sI, tZ_sI, tC_sI, tc_sI, tz_sI, tI_sL, tL_sL, tR_sL, tN_sL, tZ_sL, tC_sL, tc_sL, tz_sL, tI_sR, tL_sR, tR_sR, tN_sR, tZ_sR, tC_sR, tc_sR, tz_sR, tI_sZ, tL_sZ, tR_sZ, tN_sZ, tZ_sZ, tC_sZ, tc_sZ, tz_sZ, tI_sC, tL_sC, tR_sC, tN_sC, tZ_sC, tC_sC, tc_sC, tz_sC, tI_aC, tL_aC, tR_aC, tN_aC, tZ_aC, tC_aC, tc_aC, tz_aC, tI_rmL, tL_rmL, tR_rmL, tN_rmL, tZ_rmL, tC_rmL, tc_rmL, tz_rmL, tI_mk, tL_mk, tR_mk, tN_mk, tZ_mk, tC_mk, tc_mk, tz_mk, tI_pushL, tL_pushL, tR_pushL, tN_pushL, tZ_pushL, tC_pushL, tc_pushL, tz_pushL, tI_pushB, tL_pushB, tR_pushB, tN_pushB, tZ_pushB, tC_pushB, tc_pushB, tz_pushB, tI_cpL, tL_cpL, tR_cpL, tN_cpL, tZ_cpL, tC_cpL, tc_cpL, tz_cpL, eq_self, true_and, and_true, false_and, and_false, if_true, if_false, reduceIte, ite_true, ite_false, not_true_eq_false, not_false_eq_true, gm hs hr, m1, x, gm hs hr1, e0, e5, e11, x67, hd, reduceCtorEq]
    · refine (X_in (by decide +kernel) (frN_94 hfr) rfl).trans ((lf_174_0 ..).trans ?_)
      simp (config := {decide := true}) only [gfI_enc, gfL_enc, gfR_enc, pfI_enc, pfL_enc, pfR_enc, Option.bind_some, cI_v, cL_v, cF_v, cD_v, cR_v, cV_v, cI_x, cL_x, cR_x, cV_x, gz_0, gz_1, acc_enc, tI_sI, tL_sI, tR_sI, tN_sI, tZ_sI, tC_sI, tc_sI, tz_sI, tI_sL, tL_sL, tR_sL, tN_sL, tZ_sL, tC_sL, tc_sL, tz_sL, tI_sR, tL_sR, tR_sR, tN_sR, tZ_sR, tC_sR, tc_sR, tz_sR, tI_sZ, tL_sZ, tR_sZ, tN_sZ, tZ_sZ, tC_sZ, tc_sZ, tz_sZ, tI_sC, tL_sC, tR_sC, tN_sC, tZ_sC, tC_sC, tc_sC, tz_sC, tI_aC, tL_aC, tR_aC, tN_aC, tZ_aC, tC_aC, tc_aC, tz_aC, tI_rmL, tL_rmL, tR_rmL, tN_rmL, tZ_rmL, tC_rmL, tc_rmL, tz_rmL, tI_mk, tL_mk, tR_mk, tN_mk, tZ_mk, tC_mk, tc_mk, tz_mk, tI_pushL, tL_pushL, tR_pushL, tN_pushL, tZ_pushL, tC_pushL, tc_pushL, tz_pushL, tI_pushB, tL_pushB, tR_pushB, tN_pushB, tZ_pushB, tC_pushB, tc_pushB, tz_pushB, tI_cpL, tL_cpL, tR_cpL, tN_cpL, tZ_cpL, tC_cpL, tc_cpL, tz_cpL, eq_self, true_and, and_true, false_and, and_false, if_true, if_false, reduceIte, ite_true, ite_false, not_true_eq_false, not_false_eq_true, frN_94 hfr, frN_59 hfr, frR_94_9 hfr, frZ_59 hfr, gaR_enc, g4, g5, g6, f1, f2, hsh60, gaI_enc, paI_enc, g1, g2, hn, hd]
