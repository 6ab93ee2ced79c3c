/-! ===== small steps of the house's numbers ===== -/
theorem o_p (m : Nat) : Int32.ofNat (m + 1) - 1 = Int32.ofNat m := by
  rw [← o_s, Int32.sub_eq_add_neg, Int32.add_assoc]
  have : (1 : Int32) + -1 = 0 := rfl
  rw [this, Int32.add_zero]
theorem inR_ex {p : Int32} {n : Nat} (h : inR p 0 (Int32.ofNat n - 1)) (hn : n < 2 ^ 31) : ∃ k, k < n ∧ p = Int32.ofNat k := by
  cases n with
  | zero =>
    obtain ⟨h1, h2⟩ := h
    have h1 := Int32.not_lt.mp h1
    have h2 := Int32.not_lt.mp h2
    have := Int32.le_trans h1 h2
    exact absurd this (by decide)
  | succ n =>
    rw [o_p] at h
    obtain ⟨m, m1, m2, m3⟩ := inR_nat (lo := 0) h (by omega) (by omega)
    exact ⟨m, by omega, m3⟩
theorem inR_mk {k n : Nat} (hk : k < n) (hn : n < 2 ^ 31) : inR (Int32.ofNat k) 0 (Int32.ofNat n - 1) := by
  cases n with
  | zero => omega
  | succ n =>
    rw [o_p]
    exact inR_of (lo := 0) (Nat.zero_le _) (by omega) (by omega)
/-- the issuer of the reference: is it a card -/
theorem y159_1 {a b : TS} {z : Hp} {k : Nat} (hR : R0 a b) (hk : k < tZ a 28 0) : Ex 159 [aR (some (94, 0)), aI (Int32.ofNat k)] (enc 2 b z) = some (.inl (some (aI 1)), enc 2 b z) := by
  have hF := r_FR hR
  obtain ⟨C1, C2, ⟨C3, C4, C5⟩, C6, C7⟩ := r_C hR
  have g1 : ¬ Int32.ofNat k < 0 := o_lt0 (by omega)
  have g2 : ¬ Int32.ofNat (tZ a 28 0) ≤ Int32.ofNat k := by rw [o_le (by omega) (by omega)]; omega
  refine (X_in (by decide +kernel) (frN_94 hF) rfl).trans ((lf_159_0 ..).trans ?_)
  simp (config := {decide := true}) only [gfI_enc, gfL_enc, gfR_enc, pfI_enc, pfL_enc, pfR_enc, Option.bind_some, cI_v, cL_v, cF_v, cD_v, cR_v, cV_v, cI_x, cL_x, cR_x, cV_x, gz_0, gz_1, acc_enc, tI_sI, tL_sI, tR_sI, tN_sI, tZ_sI, tC_sI, tc_sI, tz_sI, tI_sL, tL_sL, tR_sL, tN_sL, tZ_sL, tC_sL, tc_sL, tz_sL, tI_sR, tL_sR, tR_sR, tN_sR, tZ_sR, tC_sR, tc_sR, tz_sR, tI_sZ, tL_sZ, tR_sZ, tN_sZ, tZ_sZ, tC_sZ, tc_sZ, tz_sZ, tI_sC, tL_sC, tR_sC, tN_sC, tZ_sC, tC_sC, tc_sC, tz_sC, tI_aC, tL_aC, tR_aC, tN_aC, tZ_aC, tC_aC, tc_aC, tz_aC, tI_rmL, tL_rmL, tR_rmL, tN_rmL, tZ_rmL, tC_rmL, tc_rmL, tz_rmL, tI_mk, tL_mk, tR_mk, tN_mk, tZ_mk, tC_mk, tc_mk, tz_mk, tI_pushL, tL_pushL, tR_pushL, tN_pushL, tZ_pushL, tC_pushL, tc_pushL, tz_pushL, tI_pushB, tL_pushB, tR_pushB, tN_pushB, tZ_pushB, tC_pushB, tc_pushB, tz_pushB, tI_cpL, tL_cpL, tR_cpL, tN_cpL, tZ_cpL, tC_cpL, tc_cpL, tz_cpL, eq_self, true_and, and_true, false_and, and_false, if_true, if_false, reduceIte, ite_true, ite_false, not_true_eq_false, not_false_eq_true, g1, frN_94 hF, frR_94_0 hF, frN_93 hF, C6, g2]
theorem y159_0 {a b : TS} {z : Hp} {p : Int32} (hR : R0 a b) (hp : ¬ inR p 0 (Int32.ofNat (tZ a 28 0) - 1)) : Ex 159 [aR (some (94, 0)), aI p] (enc 2 b z) = some (.inl (some (aI 0)), enc 2 b z) := by
  have hF := r_FR hR
  obtain ⟨C1, C2, ⟨C3, C4, C5⟩, C6, C7⟩ := r_C hR
  refine (X_in (by decide +kernel) (frN_94 hF) rfl).trans ((lf_159_0 ..).trans ?_)
  by_cases g1 : p < 0
  · simp (config := {decide := true}) only [gfI_enc, gfL_enc, gfR_enc, pfI_enc, pfL_enc, pfR_enc, Option.bind_some, cI_v, cL_v, cF_v, cD_v, cR_v, cV_v, cI_x, cL_x, cR_x, cV_x, gz_0, gz_1, acc_enc, tI_sI, tL_sI, tR_sI, tN_sI, tZ_sI, tC_sI, tc_sI, tz_sI, tI_sL, tL_sL, tR_sL, tN_sL, tZ_sL, tC_sL, tc_sL, tz_sL, tI_sR, tL_sR, tR_sR, tN_sR, tZ_sR, tC_sR, tc_sR, tz_sR, tI_sZ, tL_sZ, tR_sZ, tN_sZ, tZ_sZ, tC_sZ, tc_sZ, tz_sZ, tI_sC, tL_sC, tR_sC, tN_sC, tZ_sC, tC_sC, tc_sC, tz_sC, tI_aC, tL_aC, tR_aC, tN_aC, tZ_aC, tC_aC, tc_aC, tz_aC, tI_rmL, tL_rmL, tR_rmL, tN_rmL, tZ_rmL, tC_rmL, tc_rmL, tz_rmL, tI_mk, tL_mk, tR_mk, tN_mk, tZ_mk, tC_mk, tc_mk, tz_mk, tI_pushL, tL_pushL, tR_pushL, tN_pushL, tZ_pushL, tC_pushL, tc_pushL, tz_pushL, tI_pushB, tL_pushB, tR_pushB, tN_pushB, tZ_pushB, tC_pushB, tc_pushB, tz_pushB, tI_cpL, tL_cpL, tR_cpL, tN_cpL, tZ_cpL, tC_cpL, tc_cpL, tz_cpL, eq_self, true_and, and_true, false_and, and_false, if_true, if_false, reduceIte, ite_true, ite_false, not_true_eq_false, not_false_eq_true, g1]
  · by_cases g2 : Int32.ofNat (tZ a 28 0) ≤ p
    · simp (config := {decide := true}) only [gfI_enc, gfL_enc, gfR_enc, pfI_enc, pfL_enc, pfR_enc, Option.bind_some, cI_v, cL_v, cF_v, cD_v, cR_v, cV_v, cI_x, cL_x, cR_x, cV_x, gz_0, gz_1, acc_enc, tI_sI, tL_sI, tR_sI, tN_sI, tZ_sI, tC_sI, tc_sI, tz_sI, tI_sL, tL_sL, tR_sL, tN_sL, tZ_sL, tC_sL, tc_sL, tz_sL, tI_sR, tL_sR, tR_sR, tN_sR, tZ_sR, tC_sR, tc_sR, tz_sR, tI_sZ, tL_sZ, tR_sZ, tN_sZ, tZ_sZ, tC_sZ, tc_sZ, tz_sZ, tI_sC, tL_sC, tR_sC, tN_sC, tZ_sC, tC_sC, tc_sC, tz_sC, tI_aC, tL_aC, tR_aC, tN_aC, tZ_aC, tC_aC, tc_aC, tz_aC, tI_rmL, tL_rmL, tR_rmL, tN_rmL, tZ_rmL, tC_rmL, tc_rmL, tz_rmL, tI_mk, tL_mk, tR_mk, tN_mk, tZ_mk, tC_mk, tc_mk, tz_mk, tI_pushL, tL_pushL, tR_pushL, tN_pushL, tZ_pushL, tC_pushL, tc_pushL, tz_pushL, tI_pushB, tL_pushB, tR_pushB, tN_pushB, tZ_pushB, tC_pushB, tc_pushB, tz_pushB, tI_cpL, tL_cpL, tR_cpL, tN_cpL, tZ_cpL, tC_cpL, tc_cpL, tz_cpL, eq_self, true_and, and_true, false_and, and_false, if_true, if_false, reduceIte, ite_true, ite_false, not_true_eq_false, not_false_eq_true, g1, frN_94 hF, frR_94_0 hF, frN_93 hF, C6, g2]
    · exfalso
      have : p.toNatClampNeg < tZ a 28 0 := by
        refine Nat.not_le.mp (fun q => g2 ?_)
        exact (x_le g1 (by omega)).mpr q
      exact hp (by rw [← x_of g1]; exact inR_mk this (by omega))
/-! what is told -/
def bcF (v : Int32) : Int32 :=
  let a := v - ((v.toUInt32 >>> ((1 : Int32).toUInt32 &&& Int32.toUInt32 31)).toInt32 &&& (1431655765 : Int32))
  let b := (a &&& (858993459 : Int32)) + ((a.toUInt32 >>> ((2 : Int32).toUInt32 &&& Int32.toUInt32 31)).toInt32 &&& (858993459 : Int32))
  let c := (b + (b.toUInt32 >>> ((4 : Int32).toUInt32 &&& Int32.toUInt32 31)).toInt32) &&& (252645135 : Int32)
  let d := c + (c.toUInt32 >>> ((8 : Int32).toUInt32 &&& Int32.toUInt32 31)).toInt32
  let e := d + (d.toUInt32 >>> ((16 : Int32).toUInt32 &&& Int32.toUInt32 31)).toInt32
  e &&& (63 : Int32)
theorem x317 (v : Int32) (h : Hp) : Ex 317 [aI v] h = some (.inl (some (aI (bcF v))), h) := by
  refine (X_st (by decide +kernel) rfl).trans ((lf_317_0 ..).trans ?_)
  rw [lf_317_10, lf_317_24, lf_317_34, lf_317_41, lf_317_48]
  rfl
def tb1 (v s k : Int32) : Int32 := if ((v >>> (k &&& 31)) &&& (1 : Int32)) = (1 : Int32) then s + 1 else s
def tbF (v : Int32) : Int32 := tb1 v (tb1 v (tb1 v 0 1) 2) 3
theorem and14 {v : Int32} (h : v &&& 14 = v) : v ∈ [0, 2, 4, 6, 8, 10, 12, (14 : Int32)] := by
  have h1 : v.toBitVec.toNat ≤ 14 := by
    have e : (v &&& 14).toBitVec.toNat = v.toBitVec.toNat := congrArg (fun x : Int32 => x.toBitVec.toNat) h
    rw [Int32.toBitVec_and, BitVec.toNat_and] at e
    rw [← e]
    exact Nat.and_le_right
  have hv : v = Int32.ofBitVec (BitVec.ofNat 32 v.toBitVec.toNat) := by
    rw [BitVec.ofNat_toNat, BitVec.setWidth_eq]
    rfl
  generalize v.toBitVec.toNat = n at h1 hv
  subst hv
  have : n = 0 ∨ n = 1 ∨ n = 2 ∨ n = 3 ∨ n = 4 ∨ n = 5 ∨ n = 6 ∨ n = 7 ∨ n = 8 ∨ n = 9 ∨ n = 10 ∨ n = 11 ∨ n = 12 ∨ n = 13 ∨ n = 14 := by omega
  rcases this with e | e | e | e | e | e | e | e | e | e | e | e | e | e | e <;> subst e <;> first | decide | exact absurd h (by decide)
theorem tell_all : ∀ v ∈ [0, 2, 4, 6, 8, 10, 12, (14 : Int32)], bcF v = tbF v ∧ (v ||| 2) &&& 14 = v ||| 2 ∧ (v ||| 4) &&& 14 = v ||| 4 ∧ (v ||| 8) &&& 14 = v ||| 8 := by decide
theorem y175_57 {b : TS} {z : Hp} {cd : Nat} (hF : FxR b) (hcd : cd < 8) (s k : Int32) (hk : k = 1 ∨ k = 2 ∨ k = 3) : Ru 175 57 [(0, aR (some (94, 0))), (1, aI (Int32.ofNat cd)), (3, aI s), (4, aI k)] [] (enc 2 b z) = Ru 175 57 [(0, aR (some (94, 0))), (1, aI (Int32.ofNat cd)), (3, aI (tb1 (tI b 57 0 cd) s k)), (4, aI (k + 1))] [] (enc 2 b z) := by
  have g1 : (Int32.ofNat cd).toNatClampNeg = cd := o_ix (by omega)
  have g2 : ¬ Int32.ofNat cd < 0 := o_lt0 (by omega)
  have g3 : ¬ (3 : Int32) < k := by rcases hk with e | e | e <;> rw [e] <;> decide
  rw [lf_175_57]
  unfold tb1
  by_cases e : ((tI b 57 0 cd >>> (k &&& 31)) &&& (1 : Int32)) = (1 : Int32)
  · simp (config := {decide := true}) only [gfI_enc, gfL_enc, gfR_enc, pfI_enc, pfL_enc, pfR_enc, Option.bind_some, cI_v, cL_v, cF_v, cD_v, cR_v, cV_v, cI_x, cL_x, cR_x, cV_x, gz_0, gz_1, acc_enc, tI_sI, tL_sI, tR_sI, tN_sI, tZ_sI, tC_sI, tc_sI, tz_sI, tI_sL, tL_sL, tR_sL, tN_sL, tZ_sL, tC_sL, tc_sL, tz_sL, tI_sR, tL_sR, tR_sR, tN_sR, tZ_sR, tC_sR, tc_sR, tz_sR, tI_sZ, tL_sZ, tR_sZ, tN_sZ, tZ_sZ, tC_sZ, tc_sZ, tz_sZ, tI_sC, tL_sC, tR_sC, tN_sC, tZ_sC, tC_sC, tc_sC, tz_sC, tI_aC, tL_aC, tR_aC, tN_aC, tZ_aC, tC_aC, tc_aC, tz_aC, tI_rmL, tL_rmL, tR_rmL, tN_rmL, tZ_rmL, tC_rmL, tc_rmL, tz_rmL, tI_mk, tL_mk, tR_mk, tN_mk, tZ_mk, tC_mk, tc_mk, tz_mk, tI_pushL, tL_pushL, tR_pushL, tN_pushL, tZ_pushL, tC_pushL, tc_pushL, tz_pushL, tI_pushB, tL_pushB, tR_pushB, tN_pushB, tZ_pushB, tC_pushB, tc_pushB, tz_pushB, tI_cpL, tL_cpL, tR_cpL, tN_cpL, tZ_cpL, tC_cpL, tc_cpL, tz_cpL, eq_self, true_and, and_true, false_and, and_false, if_true, if_false, reduceIte, ite_true, ite_false, not_true_eq_false, not_false_eq_true, g3, frN_94 hF, frR_94_7 hF, frN_57 hF, frZ_57 hF, gaI_enc, g1, g2, hcd, e]
  · simp (config := {decide := true}) only [gfI_enc, gfL_enc, gfR_enc, pfI_enc, pfL_enc, pfR_enc, Option.bind_some, cI_v, cL_v, cF_v, cD_v, cR_v, cV_v, cI_x, cL_x, cR_x, cV_x, gz_0, gz_1, acc_enc, tI_sI, tL_sI, tR_sI, tN_sI, tZ_sI, tC_sI, tc_sI, tz_sI, tI_sL, tL_sL, tR_sL, tN_sL, tZ_sL, tC_sL, tc_sL, tz_sL, tI_sR, tL_sR, tR_sR, tN_sR, tZ_sR, tC_sR, tc_sR, tz_sR, tI_sZ, tL_sZ, tR_sZ, tN_sZ, tZ_sZ, tC_sZ, tc_sZ, tz_sZ, tI_sC, tL_sC, tR_sC, tN_sC, tZ_sC, tC_sC, tc_sC, tz_sC, tI_aC, tL_aC, tR_aC, tN_aC, tZ_aC, tC_aC, tc_aC, tz_aC, tI_rmL, tL_rmL, tR_rmL, tN_rmL, tZ_rmL, tC_rmL, tc_rmL, tz_rmL, tI_mk, tL_mk, tR_mk, tN_mk, tZ_mk, tC_mk, tc_mk, tz_mk, tI_pushL, tL_pushL, tR_pushL, tN_pushL, tZ_pushL, tC_pushL, tc_pushL, tz_pushL, tI_pushB, tL_pushB, tR_pushB, tN_pushB, tZ_pushB, tC_pushB, tc_pushB, tz_pushB, tI_cpL, tL_cpL, tR_cpL, tN_cpL, tZ_cpL, tC_cpL, tc_cpL, tz_cpL, eq_self, true_and, and_true, false_and, and_false, if_true, if_false, reduceIte, ite_true, ite_false, not_true_eq_false, not_false_eq_true, g3, frN_94 hF, frR_94_7 hF, frN_57 hF, frZ_57 hF, gaI_enc, g1, g2, hcd, e]
theorem y175_all {b : TS} {z : Hp} {cd : Nat} (hF : FxR b) (hcd : cd < 8) : Ru 175 57 [(0, aR (some (94, 0))), (1, aI (Int32.ofNat cd)), (3, aI 0), (4, aI 1)] [] (enc 2 b z) = some (.inl (some (aI (tbF (tI b 57 0 cd)))), enc 2 b z) := by
  rw [y175_57 hF hcd 0 1 (Or.inl rfl)]
  have e2 : (1 : Int32) + 1 = 2 := rfl
  have e3 : (2 : Int32) + 1 = 3 := rfl
  rw [e2, y175_57 hF hcd _ 2 (Or.inr (Or.inl rfl)), e3, y175_57 hF hcd _ 3 (Or.inr (Or.inr rfl)), lf_175_57, if_pos (by decide)]
  rfl
theorem core_tell {a b : TS} {C cd : Nat} {v : Int32} (h : Core a b C) (hcd : cd < tZ a 28 0) (hv : v &&& 14 = v) : Core (sI a 37 cd 13 v) (sI b 57 0 cd v) C := by
  have hR := h.1.1
  have ca : chF [] [(37, 13)] a (sI a 37 cd 13 v) := chF_I (by simp) (chF_r _ _ _)
  have cb : chF [57] [] b (sI b 57 0 cd v) := chF_I (by simp) (chF_r _ _ _)
  refine Core_k h ?_ ca cb (by decide) (by simp) (by decide) (groQ_c cb (by decide +kernel))
  have ha := ca
  have hb := cb
  have wa : Wr a (sI a 37 cd 13 v) := (Wr.rf _).cI _ _ _ _
  have wb : Wr b (sI b 57 0 cd v) := (Wr.rf _).cI _ _ _ _
  obtain ⟨hFC, hFR, hB, hS, hM, hW, hV, hC, hD, hE, hP, hQ, hH, hK, hG, hO, hZ⟩ := hR
  have hE' : RE (sI a 37 cd 13 v) (sI b 57 0 cd v) := by
    obtain ⟨e1, e2⟩ := hE
    refine ⟨fun k hk => ?_, fun k hk => ?_⟩
    · obtain ⟨f1, f2, f3, f4⟩ := e1 k hk
      rw [tI_sI, if_neg (fun q => absurd q.2.2 (by decide)), tI_sI, if_neg (fun q => absurd q.1 (by decide)), tI_sI, tI_sI]
      by_cases e : k = cd
      · rw [if_pos ⟨rfl, e, rfl⟩, if_pos ⟨rfl, rfl, e⟩]
        exact ⟨f1, f2, rfl, hv⟩
      · rw [if_neg (fun q => e q.2.1), if_neg (fun q => e q.2.2)]
        exact ⟨f1, f2, f3, f4⟩
    · have hk : tZ a 28 0 ≤ k := hk
      rw [tI_sI, if_neg (fun q => absurd q.1 (by decide)), tI_sI, if_neg (fun q => by omega)]
      exact e2 k hk
  exact ⟨FxC_s hFC wa ha (by decide), FxR_s hFR wb hb (by decide), RB_c hB ha hb (by decide) (by decide), RS_c hS ha hb (by decide) (by decide), RM_c hM ha hb (by decide) (by decide), RW_c hW ha hb (by decide) (by decide), RV_c hV ha hb (by decide) (by decide), RC_c hC ha hb (by decide) (by decide), RD_c hD ha hb (by decide) (by decide), hE', RP_c hP ha hb (by decide) (by decide), RQ_c hQ ha hb (by decide) (by decide), RH_c hH ha hb (by decide) (by decide), RK_c hK ha hb (by decide) (by decide) (gro_c ha (by decide)) (gro_c ha (by decide)) (gro_c ha (by decide)) (gro_c ha (by decide)), RG_c hG ha hb (by decide) (by decide), RO_c hO ha hb (by decide) (by decide), RZ_c hZ ha hb (by decide) (by decide)⟩
theorem core_stolen {a b : TS} {C cd : Nat} (h : Core a b C) (hcd : cd < tZ a 28 0) : Core (sI a 37 cd 12 1) (sI b 58 0 cd 1) C := by
  have hR := h.1.1
  have ca : chF [] [(37, 12)] a (sI a 37 cd 12 1) := chF_I (by simp) (chF_r _ _ _)
  have cb : chF [58] [] b (sI b 58 0 cd 1) := chF_I (by simp) (chF_r _ _ _)
  refine Core_k h ?_ ca cb (by decide) (by simp) (by decide) (groQ_c cb (by decide +kernel))
  have ha := ca
  have hb := cb
  have wa : Wr a (sI a 37 cd 12 1) := (Wr.rf _).cI _ _ _ _
  have wb : Wr b (sI b 58 0 cd 1) := (Wr.rf _).cI _ _ _ _
  obtain ⟨hFC, hFR, hB, hS, hM, hW, hV, hC, hD, hE, hP, hQ, hH, hK, hG, hO, hZ⟩ := hR
  have hE' : RE (sI a 37 cd 12 1) (sI b 58 0 cd 1) := by
    obtain ⟨e1, e2⟩ := hE
    refine ⟨fun k hk => ?_, fun k hk => ?_⟩
    · obtain ⟨f1, f2, f3, f4⟩ := e1 k hk
      rw [tI_sI, tI_sI, tI_sI, if_neg (fun q => absurd q.2.2 (by decide) : ¬ ((37 : Nat) = 37 ∧ k = cd ∧ (13 : Nat) = 12)), tI_sI, if_neg (fun q => absurd q.1 (by decide) : ¬ ((57 : Nat) = 58 ∧ (0 : Nat) = 0 ∧ k = cd))]
      by_cases e : k = cd
      · rw [if_pos ⟨rfl, e, rfl⟩, if_pos ⟨rfl, rfl, e⟩]
        exact ⟨rfl, by decide, f3, f4⟩
      · rw [if_neg (fun q => e q.2.1), if_neg (fun q => e q.2.2)]
        exact ⟨f1, f2, f3, f4⟩
    · have hk : tZ a 28 0 ≤ k := hk
      rw [tI_sI, if_neg (fun q => by omega), tI_sI, if_neg (fun q => absurd q.1 (by decide))]
      exact e2 k hk
  exact ⟨FxC_s hFC wa ha (by decide), FxR_s hFR wb hb (by decide), RB_c hB ha hb (by decide) (by decide), RS_c hS ha hb (by decide) (by decide), RM_c hM ha hb (by decide) (by decide), RW_c hW ha hb (by decide) (by decide), RV_c hV ha hb (by decide) (by decide), RC_c hC ha hb (by decide) (by decide), RD_c hD ha hb (by decide) (by decide), hE', RP_c hP ha hb (by decide) (by decide), RQ_c hQ ha hb (by decide) (by decide), RH_c hH ha hb (by decide) (by decide), RK_c hK ha hb (by decide) (by decide) (gro_c ha (by decide)) (gro_c ha (by decide)) (gro_c ha (by decide)) (gro_c ha (by decide)), RG_c hG ha hb (by decide) (by decide), RO_c hO ha hb (by decide) (by decide), RZ_c hZ ha hb (by decide) (by decide)⟩
theorem core_frozen {a b : TS} {C t : Nat} {v : Int32} (h : Core a b C) (ht : t < tZ a 26 0) (hv : bitOk v = true) : Core (sI a 35 t 2 v) (sI b 47 0 t v) C := by
  have hR := h.1.1
  have ca : chF [] [(35, 2)] a (sI a 35 t 2 v) := chF_I (by simp) (chF_r _ _ _)
  have cb : chF [47] [] b (sI b 47 0 t v) := chF_I (by simp) (chF_r _ _ _)
  refine Core_k h ?_ ca cb (by decide) (by simp) (by decide) (groQ_c cb (by decide +kernel))
  have ha := ca
  have hb := cb
  have wa : Wr a (sI a 35 t 2 v) := (Wr.rf _).cI _ _ _ _
  have wb : Wr b (sI b 47 0 t v) := (Wr.rf _).cI _ _ _ _
  obtain ⟨hFC, hFR, hB, hS, hM, hW, hV, hC, hD, hE, hP, hQ, hH, hK, hG, hO, hZ⟩ := hR
  have hB' : RB (sI a 35 t 2 v) (sI b 47 0 t v) := by
    obtain ⟨e1, e2, e3, e4, e5, e6, e7⟩ := hB
    refine ⟨e1, e2, e3, e4, fun k hk => ?_, fun k hk => ?_, e7⟩
    · obtain ⟨f1, f2, f3, f4, f5⟩ := e5 k hk
      refine ⟨f1, f2, f3, ?_⟩
      rw [tI_sI, tI_sI]
      by_cases e : k = t
      · rw [if_pos ⟨rfl, e, rfl⟩, if_pos ⟨rfl, rfl, e⟩]
        exact ⟨rfl, hv⟩
      · rw [if_neg (fun q => e q.2.1), if_neg (fun q => e q.2.2)]
        exact ⟨f4, f5⟩
    · have hk : tZ a 26 0 ≤ k := hk
      refine ⟨(e6 k hk).1, ?_⟩
      rw [tI_sI, if_neg (fun q => by omega)]
      exact (e6 k hk).2
  exact ⟨FxC_s hFC wa ha (by decide), FxR_s hFR wb hb (by decide), hB', RS_c hS ha hb (by decide) (by decide), RM_c hM ha hb (by decide) (by decide), RW_c hW ha hb (by decide) (by decide), RV_c hV ha hb (by decide) (by decide), RC_c hC ha hb (by decide) (by decide), RD_c hD ha hb (by decide) (by decide), RE_c hE ha hb (by decide) (by decide), RP_c hP ha hb (by decide) (by decide), RQ_c hQ ha hb (by decide) (by decide), RH_c hH ha hb (by decide) (by decide), RK_c hK ha hb (by decide) (by decide) (gro_c ha (by decide)) (gro_c ha (by decide)) (gro_c ha (by decide)) (gro_c ha (by decide)), RG_c hG ha hb (by decide) (by decide), RO_c hO ha hb (by decide) (by decide), RZ_c hZ ha hb (by decide) (by decide)⟩
theorem core_house {a b : TS} {C n : Nat} {p0 p1 : Int32} (h : Core a b C) (h1 : 1 ≤ n) (h5 : n ≤ 5) : Core (sI (sI (sI a 31 0 1 p0) 96 0 8 p1) 25 0 2 (Int32.ofNat n)) (sI (sI (sI b 97 0 7 p1) 95 0 3 p0) 95 0 2 (Int32.ofNat n)) C := by
  have hR := h.1.1
  have ca : chF [] [(31, 1), (96, 8), (25, 2)] a (sI (sI (sI a 31 0 1 p0) 96 0 8 p1) 25 0 2 (Int32.ofNat n)) := chF_I (by simp) (chF_I (by simp) (chF_I (by simp) (chF_r _ _ _)))
  have cb : chF [] [(97, 7), (95, 3), (95, 2)] b (sI (sI (sI b 97 0 7 p1) 95 0 3 p0) 95 0 2 (Int32.ofNat n)) := chF_I (by simp) (chF_I (by simp) (chF_I (by simp) (chF_r _ _ _)))
  refine Core_k h ?_ ca cb (by decide) (by simp) (by decide) (groQ_c cb (by decide +kernel))
  have ha := ca
  have hb := cb
  have wa : Wr a (sI (sI (sI a 31 0 1 p0) 96 0 8 p1) 25 0 2 (Int32.ofNat n)) := (((Wr.rf _).cI _ _ _ _).cI _ _ _ _).cI _ _ _ _
  have wb : Wr b (sI (sI (sI b 97 0 7 p1) 95 0 3 p0) 95 0 2 (Int32.ofNat n)) := (((Wr.rf _).cI _ _ _ _).cI _ _ _ _).cI _ _ _ _
  obtain ⟨hFC, hFR, hB, hS, hM, hW, hV, hC, hD, hE, hP, hQ, hH, hK, hG, hO, hZ⟩ := hR
  have hH' : RH (sI (sI (sI a 31 0 1 p0) 96 0 8 p1) 25 0 2 (Int32.ofNat n)) (sI (sI (sI b 97 0 7 p1) 95 0 3 p0) 95 0 2 (Int32.ofNat n)) := by
    unfold RH at *
    simp (config := {decide := true}) only [tI_sI, if_true, if_false]
    exact ⟨hH.1, hH.2.1, ⟨trivial, n, h1, h5, rfl⟩, trivial, trivial, hH.2.2.2.2.2⟩
  exact ⟨FxC_s hFC wa ha (by decide), FxR_s hFR wb hb (by decide), RB_c hB ha hb (by decide) (by decide), RS_c hS ha hb (by decide) (by decide), RM_c hM ha hb (by decide) (by decide), RW_c hW ha hb (by decide) (by decide), RV_c hV ha hb (by decide) (by decide), RC_c hC ha hb (by decide) (by decide), RD_c hD ha hb (by decide) (by decide), RE_c hE ha hb (by decide) (by decide), RP_c hP ha hb (by decide) (by decide), RQ_c hQ ha hb (by decide) (by decide), hH', RK_c hK ha hb (by decide) (by decide) (gro_c ha (by decide)) (gro_c ha (by decide)) (gro_c ha (by decide)) (gro_c ha (by decide)), RG_c hG ha hb (by decide) (by decide), RO_c hO ha hb (by decide) (by decide), RZ_c hZ ha hb (by decide) (by decide)⟩
theorem core_day {a b : TS} {C : Nat} {d : Int32} (h : Core a b C) : Core (sI a 25 0 1 d) (sI (sI b 97 0 6 d) 94 0 11 d) C := by
  have hR := h.1.1
  have ca : chF [] [(25, 1)] a (sI a 25 0 1 d) := chF_I (by simp) (chF_r _ _ _)
  have cb : chF [] [(97, 6), (94, 11)] b (sI (sI b 97 0 6 d) 94 0 11 d) := chF_I (by simp) (chF_I (by simp) (chF_r _ _ _))
  refine Core_k h ?_ ca cb (by decide) (by simp) (by decide) (groQ_c cb (by decide +kernel))
  have ha := ca
  have hb := cb
  have wa : Wr a (sI a 25 0 1 d) := (Wr.rf _).cI _ _ _ _
  have wb : Wr b (sI (sI b 97 0 6 d) 94 0 11 d) := ((Wr.rf _).cI _ _ _ _).cI _ _ _ _
  obtain ⟨hFC, hFR, hB, hS, hM, hW, hV, hC, hD, hE, hP, hQ, hH, hK, hG, hO, hZ⟩ := hR
  have hH' : RH (sI a 25 0 1 d) (sI (sI b 97 0 6 d) 94 0 11 d) := by
    unfold RH at *
    simp (config := {decide := true}) only [tI_sI, if_true, if_false]
    exact ⟨hH.1, trivial, hH.2.2⟩
  exact ⟨FxC_s hFC wa ha (by decide), FxR_s hFR wb hb (by decide), RB_c hB ha hb (by decide) (by decide), RS_c hS ha hb (by decide) (by decide), RM_c hM ha hb (by decide) (by decide), RW_c hW ha hb (by decide) (by decide), RV_c hV ha hb (by decide) (by decide), RC_c hC ha hb (by decide) (by decide), RD_c hD ha hb (by decide) (by decide), RE_c hE ha hb (by decide) (by decide), RP_c hP ha hb (by decide) (by decide), RQ_c hQ ha hb (by decide) (by decide), hH', RK_c hK ha hb (by decide) (by decide) (gro_c ha (by decide)) (gro_c ha (by decide)) (gro_c ha (by decide)) (gro_c ha (by decide)), RG_c hG ha hb (by decide) (by decide), RO_c hO ha hb (by decide) (by decide), RZ_c hZ ha hb (by decide) (by decide)⟩
/-- a shop's money and what stands in between -/
theorem core_money {a b : TS} {C s : Nat} {x y : Int64} (h : Core a b C) (hs : s < tZ a 27 0) : Core (sL (sL a 36 s 11 x) 36 s 12 y) (sL (sL b 45 0 s x) 46 0 s y) C := by
  have hR := h.1.1
  have ca : chF [] [(36, 11), (36, 12)] a (sL (sL a 36 s 11 x) 36 s 12 y) := chF_L (by simp) (chF_L (by simp) (chF_r _ _ _))
  have cb : chF [45, 46] [] b (sL (sL b 45 0 s x) 46 0 s y) := chF_L (by simp) (chF_L (by simp) (chF_r _ _ _))
  refine Core_k h ?_ ca cb (by decide) (by simp) (by decide) (groQ_c cb (by decide +kernel))
  have ha := ca
  have hb := cb
  have wa : Wr a (sL (sL a 36 s 11 x) 36 s 12 y) := ((Wr.rf _).cL _ _ _ _).cL _ _ _ _
  have wb : Wr b (sL (sL b 45 0 s x) 46 0 s y) := ((Wr.rf _).cL _ _ _ _).cL _ _ _ _
  obtain ⟨hFC, hFR, hB, hS, hM, hW, hV, hC, hD, hE, hP, hQ, hH, hK, hG, hO, hZ⟩ := hR
  have hW' : RW (sL (sL a 36 s 11 x) 36 s 12 y) (sL (sL b 45 0 s x) 46 0 s y) := by
    obtain ⟨e1, e2⟩ := hW
    refine ⟨fun k hk => ?_, fun k hk => ?_⟩
    · obtain ⟨f1, f2⟩ := e1 k hk
      by_cases e : k = s
      · subst e
        simp (config := {decide := true}) only [tL_sL, true_and, and_true, if_true, if_false]
      · simp (config := {decide := true}) only [tL_sL, e, false_and, and_false, if_false]
        exact ⟨f1, f2⟩
    · have hk : tZ a 27 0 ≤ k := hk
      have e : ¬ k = s := by omega
      simp (config := {decide := true}) only [tL_sL, e, and_false, if_false]
      exact e2 k hk
  exact ⟨FxC_s hFC wa ha (by decide), FxR_s hFR wb hb (by decide), RB_c hB ha hb (by decide) (by decide), RS_c hS ha hb (by decide) (by decide), RM_c hM ha hb (by decide) (by decide), hW', RV_c hV ha hb (by decide) (by decide), RC_c hC ha hb (by decide) (by decide), RD_c hD ha hb (by decide) (by decide), RE_c hE ha hb (by decide) (by decide), RP_c hP ha hb (by decide) (by decide), RQ_c hQ ha hb (by decide) (by decide), RH_c hH ha hb (by decide) (by decide), RK_c hK ha hb (by decide) (by decide) (gro_c ha (by decide)) (gro_c ha (by decide)) (gro_c ha (by decide)) (gro_c ha (by decide)), RG_c hG ha hb (by decide) (by decide), RO_c hO ha hb (by decide) (by decide), RZ_c hZ ha hb (by decide) (by decide)⟩
theorem core_fees {a b : TS} {C : Nat} {x : Int64} (h : Core a b C) : Core (sL a 96 0 9 x) (sL b 91 0 7 x) C := by
  have hR := h.1.1
  have ca : chF [] [(96, 9)] a (sL a 96 0 9 x) := chF_L (by simp) (chF_r _ _ _)
  have cb : chF [] [(91, 7)] b (sL b 91 0 7 x) := chF_L (by simp) (chF_r _ _ _)
  refine Core_k h ?_ ca cb (by decide) (by simp) (by decide) (groQ_c cb (by decide +kernel))
  have ha := ca
  have hb := cb
  have wa : Wr a (sL a 96 0 9 x) := (Wr.rf _).cL _ _ _ _
  have wb : Wr b (sL b 91 0 7 x) := (Wr.rf _).cL _ _ _ _
  obtain ⟨hFC, hFR, hB, hS, hM, hW, hV, hC, hD, hE, hP, hQ, hH, hK, hG, hO, hZ⟩ := hR
  have hB' : RB (sL a 96 0 9 x) (sL b 91 0 7 x) := by
    obtain ⟨e1, e2, e3, e4, e5, e6, e7, e8⟩ := hB
    refine ⟨e1, e2, e3, e4, fun k hk => ?_, fun k hk => ?_, ?_, ?_⟩
    · simp (config := {decide := true}) only [tL_sL, false_and, if_false]
      exact e5 k hk
    · simp (config := {decide := true}) only [tL_sL, false_and, if_false]
      exact e6 k hk
    · rw [tL_sL, if_pos ⟨rfl, rfl, rfl⟩, tL_sL, if_pos ⟨rfl, rfl, rfl⟩]
    · rw [tL_sL, if_neg (fun q => absurd q.2.2 (by decide)), tL_sL, if_neg (fun q => absurd q.2.2 (by decide))]
      exact e8
  exact ⟨FxC_s hFC wa ha (by decide), FxR_s hFR wb hb (by decide), hB', RS_c hS ha hb (by decide) (by decide), RM_c hM ha hb (by decide) (by decide), RW_c hW ha hb (by decide) (by decide), RV_c hV ha hb (by decide) (by decide), RC_c hC ha hb (by decide) (by decide), RD_c hD ha hb (by decide) (by decide), RE_c hE ha hb (by decide) (by decide), RP_c hP ha hb (by decide) (by decide), RQ_c hQ ha hb (by decide) (by decide), RH_c hH ha hb (by decide) (by decide), RK_c hK ha hb (by decide) (by decide) (gro_c ha (by decide)) (gro_c ha (by decide)) (gro_c ha (by decide)) (gro_c ha (by decide)), RG_c hG ha hb (by decide) (by decide), RO_c hO ha hb (by decide) (by decide), RZ_c hZ ha hb (by decide) (by decide)⟩
