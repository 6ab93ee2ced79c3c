/-! ===== a shop comes (class alone) ===== -/
/-- what is new with a shop -/
def ShpP (a b a' b' : TS) (p0 : Int32) : Prop := tZ a' 27 0 = tZ a 27 0 + 1 ∧ (∀ c, c < 2 * tZ a 27 0 → vQ b' c = vQ b c ∧ ∀ k, tI b' 48 c k = tI b 48 c k) ∧ (∀ s, s < tZ a 27 0 → tZ a' 19 s = tZ a 19 s) ∧
  (vQ b' (2 * tZ a 27 0) = [] ∧ vQ b' (2 * tZ a 27 0 + 1) = [] ∧ tZ a' 19 (tZ a 27 0) = 0 ∧ ∀ k, tI b' 48 (2 * tZ a 27 0) k = 0 ∧ tI b' 48 (2 * tZ a 27 0 + 1) k = 0) ∧ (∀ k, tI b' 88 0 k = if k = tZ a 27 0 then p0 else tI b 88 0 k) ∧
  chF [8, 9, 18, 19, 20, 21, 22, 27, 36] [] a a' ∧ chF [48, 49, 50, 65, 74, 75, 88, 89] [(93, 10), (93, 7), (95, 9), (91, 6)] b b'
theorem oc_shop {a b : TS} {C : Nat} {p0 p1 : Int32} (h : Core a b C) (e0 : inR p0 0 50000) (e1 : inR p1 0 9) (h4 : tZ a 27 0 < 4) :
    ∃ a' b', (∀ z, Ex 85 [aR (some (96, 0)), aI p0, aI p1] (enc 1 a z) = some (.inl (some (aI (Int32.ofNat (tZ a 27 0)))), enc 1 a' z)) ∧ Core a' b' C ∧ Wr a a' ∧ ShpP a b a' b' p0 := by
  have hR := h.1.1
  have hF := r_FC hR
  obtain ⟨S1, ⟨S2, S2', -⟩, ⟨n36, n21, n22, n18, n19, n20⟩, ⟨S3, S4, S9⟩, S5⟩ := r_S hR
  have n10 : ¬ (1 : Int32) = 0 := by decide
  have x0 := x139_1 e0
  have x1 := x139_1 e1
  have l4 : Int32.ofNat (tZ a 27 0) < 4 := (o_lt (n := tZ a 27 0) (k := 4) (by omega) (by omega)).mpr h4
  have hL := h.1.2.2.1.1
  have hN : ShN a (tZ a 27 0) := ⟨n36, n18, n19, n20, n21, n22, hL.2.2.2.2.2.2.2.1, hL.1.2.1⟩
  have hM : CbN b (tZ a 27 0) (tN b 49) (tN b 50) := ⟨hL.2.2.2.2.2.2.2.2.2.1, hL.2.2.2.2.2.2.2.2.2.2, hL.2.2.2.2.2.2.2.2.1.1, rfl, rfl⟩
  have hA := shA_all p0 p1 (fcN_27 hF) S2 hN
  have hB := shB_all p0 p1 hM
  obtain ⟨hc, -, -⟩ := core_shop h h4 hA hB rfl rfl
  have hP : ShpP a b (shA a (tZ a 27 0) p0 p1) (shB b (tZ a 27 0) p0 p1) p0 := by
    obtain ⟨-, hv, ⟨vn0, vq0⟩, vn1, vq1⟩ := Ln0_g hL hA hB rfl rfl (fcN_25 hF) n21 n22 (groQ_c hB.1 (by decide +kernel))
    obtain ⟨ca, wa, aN, ao, ⟨z27, a27, c27⟩, -, -, -, ⟨-, -, z19, -, -, -⟩, -⟩ := hA
    obtain ⟨cb, wb, bN, bo, ⟨b88, -⟩, -, -, -, ⟨b48, -⟩⟩ := hB
    refine ⟨z27, fun c hc => ⟨(hv c hc).2, fun k => (bo 48 c (fun q => by unfold cbNew at q; omega)).1 k (by decide) (by decide) (by decide) (by decide) (by decide)⟩, fun s hs => (ao 19 s (fun q => by unfold shNew at q; omega) (by decide)).2.2.1, ⟨vq0, vq1, z19, b48⟩, b88, ca, cb⟩
  have hx86 : ∀ z, Ex 86 [aR (some (96, 0)), aI p0, aI p1] (enc 1 a z) = some (.inl (some (aI 0)), enc 1 a z) := fun z => by
    refine (X_in (by decide +kernel) (fcN_96 hF) rfl).trans ((lf_86_0 ..).trans ?_)
    simp (config := {decide := true}) only [gfI_enc, gfL_enc, gfR_enc, pfI_enc, pfL_enc, pfR_enc, Option.bind_some, cI_v, cL_v, cF_v, cD_v, cR_v, cV_v, cI_x, cL_x, cR_x, cV_x, gz_0, gz_1, acc_enc, tI_sI, tL_sI, tR_sI, tN_sI, tZ_sI, tC_sI, tc_sI, tz_sI, tI_sL, tL_sL, tR_sL, tN_sL, tZ_sL, tC_sL, tc_sL, tz_sL, tI_sR, tL_sR, tR_sR, tN_sR, tZ_sR, tC_sR, tc_sR, tz_sR, tI_sZ, tL_sZ, tR_sZ, tN_sZ, tZ_sZ, tC_sZ, tc_sZ, tz_sZ, tI_sC, tL_sC, tR_sC, tN_sC, tZ_sC, tC_sC, tc_sC, tz_sC, tI_aC, tL_aC, tR_aC, tN_aC, tZ_aC, tC_aC, tc_aC, tz_aC, tI_rmL, tL_rmL, tR_rmL, tN_rmL, tZ_rmL, tC_rmL, tc_rmL, tz_rmL, tI_mk, tL_mk, tR_mk, tN_mk, tZ_mk, tC_mk, tc_mk, tz_mk, tI_pushL, tL_pushL, tR_pushL, tN_pushL, tZ_pushL, tC_pushL, tc_pushL, tz_pushL, tI_pushB, tL_pushB, tR_pushB, tN_pushB, tZ_pushB, tC_pushB, tc_pushB, tz_pushB, tI_cpL, tL_cpL, tR_cpL, tN_cpL, tZ_cpL, tC_cpL, tc_cpL, tz_cpL, eq_self, true_and, and_true, false_and, and_false, if_true, if_false, reduceIte, ite_true, ite_false, not_true_eq_false, not_false_eq_true, x0, x1, n10, fcN_96 hF, fcR_96_3 hF, X405, fcN_27 hF, l4]
  have hFA := r_FC hc.1.1
  have z27 : tZ (shA a (tZ a 27 0) p0 p1) 27 0 = tZ a 27 0 + 1 := hA.2.2.2.2.1.1
  have o27 := shJ_old hN p0 p1 27 0 (fun q => by unfold shNew at q; omega)
  have j27 : tN (shJ a (tZ a 27 0) p0 p1) 27 = tN a 27 := by rw [shJ_N, if_neg (by decide), if_neg (by decide)]
  have hx87 : ∀ z, Ex 87 [aR (some (96, 0)), aI p0, aI p1] (enc 1 a z) = some (.inl (some (aI (Int32.ofNat (tZ a 27 0)))), enc 1 (shA a (tZ a 27 0) p0 p1) z) := fun z => by
    have hnF : nF 10 = 13 := rfl
    have f66 := fun z => x66 (z := z) (p0 := p0) (p1 := p1) hN
    have f401 := fun z => X401 (w := 1) (s := 27) (i := 0) (m := shJ a (tZ a 27 0) p0 p1) (z := z) (v := some (36, tZ a 27 0)) (by decide +kernel) (by rw [j27]; exact fcN_27 hF) (by rw [o27.2.2.1]; omega) (by rw [o27.2.2.1, o27.2.2.2.1]; exact S2) (by rw [o27.2.2.2.1]; omega) rfl
    have eP : pushL (shJ a (tZ a 27 0) p0 p1) 27 0 (some (36, tZ a 27 0)) = shA a (tZ a 27 0) p0 p1 := rfl
    rw [eP] at f401
    have k3 : ∀ z, gfR (enc 1 (shA a (tZ a 27 0) p0 p1) z) (some (96, 0)) 11 3 = some (some (27, 0)) := fun z => by simp (config := {decide := true}) only [gfI_enc, gfL_enc, gfR_enc, pfI_enc, pfL_enc, pfR_enc, Option.bind_some, cI_v, cL_v, cF_v, cD_v, cR_v, cV_v, cI_x, cL_x, cR_x, cV_x, gz_0, gz_1, acc_enc, tI_sI, tL_sI, tR_sI, tN_sI, tZ_sI, tC_sI, tc_sI, tz_sI, tI_sL, tL_sL, tR_sL, tN_sL, tZ_sL, tC_sL, tc_sL, tz_sL, tI_sR, tL_sR, tR_sR, tN_sR, tZ_sR, tC_sR, tc_sR, tz_sR, tI_sZ, tL_sZ, tR_sZ, tN_sZ, tZ_sZ, tC_sZ, tc_sZ, tz_sZ, tI_sC, tL_sC, tR_sC, tN_sC, tZ_sC, tC_sC, tc_sC, tz_sC, tI_aC, tL_aC, tR_aC, tN_aC, tZ_aC, tC_aC, tc_aC, tz_aC, tI_rmL, tL_rmL, tR_rmL, tN_rmL, tZ_rmL, tC_rmL, tc_rmL, tz_rmL, tI_mk, tL_mk, tR_mk, tN_mk, tZ_mk, tC_mk, tc_mk, tz_mk, tI_pushL, tL_pushL, tR_pushL, tN_pushL, tZ_pushL, tC_pushL, tc_pushL, tz_pushL, tI_pushB, tL_pushB, tR_pushB, tN_pushB, tZ_pushB, tC_pushB, tc_pushB, tz_pushB, tI_cpL, tL_cpL, tR_cpL, tN_cpL, tZ_cpL, tC_cpL, tc_cpL, tz_cpL, eq_self, true_and, and_true, false_and, and_false, if_true, if_false, reduceIte, ite_true, ite_false, not_true_eq_false, not_false_eq_true, fcN_96 hFA, fcR_96_3 hFA]
    have k405 : ∀ z, Ex 405 [aR (some (27, 0))] (enc 1 (shA a (tZ a 27 0) p0 p1) z) = some (.inl (some (aI (Int32.ofNat (tZ a 27 0 + 1)))), enc 1 (shA a (tZ a 27 0) p0 p1) z) := fun z => by simp (config := {decide := true}) only [gfI_enc, gfL_enc, gfR_enc, pfI_enc, pfL_enc, pfR_enc, Option.bind_some, cI_v, cL_v, cF_v, cD_v, cR_v, cV_v, cI_x, cL_x, cR_x, cV_x, gz_0, gz_1, acc_enc, tI_sI, tL_sI, tR_sI, tN_sI, tZ_sI, tC_sI, tc_sI, tz_sI, tI_sL, tL_sL, tR_sL, tN_sL, tZ_sL, tC_sL, tc_sL, tz_sL, tI_sR, tL_sR, tR_sR, tN_sR, tZ_sR, tC_sR, tc_sR, tz_sR, tI_sZ, tL_sZ, tR_sZ, tN_sZ, tZ_sZ, tC_sZ, tc_sZ, tz_sZ, tI_sC, tL_sC, tR_sC, tN_sC, tZ_sC, tC_sC, tc_sC, tz_sC, tI_aC, tL_aC, tR_aC, tN_aC, tZ_aC, tC_aC, tc_aC, tz_aC, tI_rmL, tL_rmL, tR_rmL, tN_rmL, tZ_rmL, tC_rmL, tc_rmL, tz_rmL, tI_mk, tL_mk, tR_mk, tN_mk, tZ_mk, tC_mk, tc_mk, tz_mk, tI_pushL, tL_pushL, tR_pushL, tN_pushL, tZ_pushL, tC_pushL, tc_pushL, tz_pushL, tI_pushB, tL_pushB, tR_pushB, tN_pushB, tZ_pushB, tC_pushB, tc_pushB, tz_pushB, tI_cpL, tL_cpL, tR_cpL, tN_cpL, tZ_cpL, tC_cpL, tc_cpL, tz_cpL, eq_self, true_and, and_true, false_and, and_false, if_true, if_false, reduceIte, ite_true, ite_false, not_true_eq_false, not_false_eq_true, X405, fcN_27 hFA, z27]
    clear o27 j27 z27 hA hc eP
    generalize shA a (tZ a 27 0) p0 p1 = A at *
    generalize shJ a (tZ a 27 0) p0 p1 = J at *
    refine (X_in (by decide +kernel) (fcN_96 hF) rfl).trans ((lf_87_0 ..).trans ?_)
    rw [nob_enc (by decide +kernel), hnF]
    simp (config := {decide := true}) only [gfI_enc, gfL_enc, gfR_enc, pfI_enc, pfL_enc, pfR_enc, Option.bind_some, cI_v, cL_v, cF_v, cD_v, cR_v, cV_v, cI_x, cL_x, cR_x, cV_x, gz_0, gz_1, acc_enc, tI_sI, tL_sI, tR_sI, tN_sI, tZ_sI, tC_sI, tc_sI, tz_sI, tI_sL, tL_sL, tR_sL, tN_sL, tZ_sL, tC_sL, tc_sL, tz_sL, tI_sR, tL_sR, tR_sR, tN_sR, tZ_sR, tC_sR, tc_sR, tz_sR, tI_sZ, tL_sZ, tR_sZ, tN_sZ, tZ_sZ, tC_sZ, tc_sZ, tz_sZ, tI_sC, tL_sC, tR_sC, tN_sC, tZ_sC, tC_sC, tc_sC, tz_sC, tI_aC, tL_aC, tR_aC, tN_aC, tZ_aC, tC_aC, tc_aC, tz_aC, tI_rmL, tL_rmL, tR_rmL, tN_rmL, tZ_rmL, tC_rmL, tc_rmL, tz_rmL, tI_mk, tL_mk, tR_mk, tN_mk, tZ_mk, tC_mk, tc_mk, tz_mk, tI_pushL, tL_pushL, tR_pushL, tN_pushL, tZ_pushL, tC_pushL, tc_pushL, tz_pushL, tI_pushB, tL_pushB, tR_pushB, tN_pushB, tZ_pushB, tC_pushB, tc_pushB, tz_pushB, tI_cpL, tL_cpL, tR_cpL, tN_cpL, tZ_cpL, tC_cpL, tc_cpL, tz_cpL, eq_self, true_and, and_true, false_and, and_false, if_true, if_false, reduceIte, ite_true, ite_false, not_true_eq_false, not_false_eq_true, fcN_96 hF, fcR_96_3 hF, fcR_96_1 hF, X405, fcN_27 hF, n36, f66, f401, k3, k405, o_p]

  exact ⟨_, _, fun z => pub_go (rf := 86) (cb := [aR (some (96, 0)), aI p0, aI p1]) (dm := 87) (da := [aR (some (96, 0)), aI p0, aI p1]) (fun z => by refine (X_in (by decide +kernel) (fcN_96 hF) rfl).trans ((lf_85_0 ..).trans ?_); rfl) hx86 hx87 z, hc, hA.2.1, hP⟩
