/-! ===== a payment is given up ===== -/
def paA (a : TS) (p cd : Nat) (m st : Int32) : TS := sI (sI (sI (sI a 37 cd 9 (tI a 37 cd 9 + 1)) 37 cd 10 (tI a 37 cd 10 + m)) 38 p 7 0) 38 p 5 st
def paB (b : TS) (p cd : Nat) (m st : Int32) : TS := sI (sI (sI (sI b 86 0 (10 * cd + 3) (tI b 86 0 (10 * cd + 3) + 1)) 86 0 (10 * cd + 4) (tI b 86 0 (10 * cd + 4) + m)) 87 0 (10 * p + 0) 0) 87 0 (10 * p + 5) st
/-- may the card grant by itself -/
def grC (a : TS) (cd : Nat) (m : Int32) : Prop := ¬ tI a 37 cd 4 ≤ tI a 37 cd 9 ∧ tI a 37 cd 10 + m ≤ tI a 37 cd 5
def gvC (a : TS) (sh cd : Nat) (m : Int32) : Prop := ¬ tI a 36 sh 1 < m ∧ tI a 37 cd 11 = 0 ∧ grC a cd m
set_option maxHeartbeats 2000000 in
theorem x46 {a : TS} {z : Hp} {p cd sh : Nat} {m : Int32} {G : Prop} [Decidable G] (hp : p < tN a 38) (h1 : tR a 38 p 1 = some (37, cd)) (hcd : cd < tN a 37) (h2 : tR a 38 p 2 = some (36, sh)) (hsh : sh < tN a 36) (h3 : tI a 38 p 3 = m) (hG : G ↔ gvC a sh cd m) :
    Ex 46 [aR (some (38, p))] (enc 1 a z) = some (.inl none, enc 1 (if G then paA a p cd m (stp (tI a 37 cd 3).toInt64 (tI a 38 p 4) m (tI a 36 sh 0) 1) else sI a 38 p 7 4) z) := by
  refine (X_in (by decide +kernel) (hp) rfl).trans ((lf_46_0 ..).trans ?_)
  have f5 := fun z => x5 (a := a) (z := z) (j := cd) m hcd
  by_cases c1 : tI a 36 sh 1 < m
  · rw [if_neg (fun g => (hG.mp g).1 c1)]
    simp (config := {decide := true}) only [gfI_enc, gfL_enc, gfR_enc, pfI_enc, pfL_enc, pfR_enc, Option.bind_some, cI_v, cL_v, cF_v, cD_v, cR_v, cV_v, cI_x, cL_x, cR_x, cV_x, gz_0, gz_1, acc_enc, tI_sI, tL_sI, tR_sI, tN_sI, tZ_sI, tC_sI, tc_sI, tz_sI, tI_sL, tL_sL, tR_sL, tN_sL, tZ_sL, tC_sL, tc_sL, tz_sL, tI_sR, tL_sR, tR_sR, tN_sR, tZ_sR, tC_sR, tc_sR, tz_sR, tI_sZ, tL_sZ, tR_sZ, tN_sZ, tZ_sZ, tC_sZ, tc_sZ, tz_sZ, tI_sC, tL_sC, tR_sC, tN_sC, tZ_sC, tC_sC, tc_sC, tz_sC, tI_aC, tL_aC, tR_aC, tN_aC, tZ_aC, tC_aC, tc_aC, tz_aC, tI_rmL, tL_rmL, tR_rmL, tN_rmL, tZ_rmL, tC_rmL, tc_rmL, tz_rmL, tI_mk, tL_mk, tR_mk, tN_mk, tZ_mk, tC_mk, tc_mk, tz_mk, tI_pushL, tL_pushL, tR_pushL, tN_pushL, tZ_pushL, tC_pushL, tc_pushL, tz_pushL, tI_pushB, tL_pushB, tR_pushB, tN_pushB, tZ_pushB, tC_pushB, tc_pushB, tz_pushB, tI_cpL, tL_cpL, tR_cpL, tN_cpL, tZ_cpL, tC_cpL, tc_cpL, tz_cpL, eq_self, true_and, and_true, false_and, and_false, if_true, if_false, reduceIte, ite_true, ite_false, not_true_eq_false, not_false_eq_true, hp, h1, h2, h3, hsh, c1]
  · by_cases c2 : tI a 37 cd 11 = 0
    · by_cases c3 : tI a 37 cd 4 ≤ tI a 37 cd 9
      · rw [if_neg (fun g => (hG.mp g).2.2.1 c3)]
        simp (config := {decide := true}) only [gfI_enc, gfL_enc, gfR_enc, pfI_enc, pfL_enc, pfR_enc, Option.bind_some, cI_v, cL_v, cF_v, cD_v, cR_v, cV_v, cI_x, cL_x, cR_x, cV_x, gz_0, gz_1, acc_enc, tI_sI, tL_sI, tR_sI, tN_sI, tZ_sI, tC_sI, tc_sI, tz_sI, tI_sL, tL_sL, tR_sL, tN_sL, tZ_sL, tC_sL, tc_sL, tz_sL, tI_sR, tL_sR, tR_sR, tN_sR, tZ_sR, tC_sR, tc_sR, tz_sR, tI_sZ, tL_sZ, tR_sZ, tN_sZ, tZ_sZ, tC_sZ, tc_sZ, tz_sZ, tI_sC, tL_sC, tR_sC, tN_sC, tZ_sC, tC_sC, tc_sC, tz_sC, tI_aC, tL_aC, tR_aC, tN_aC, tZ_aC, tC_aC, tc_aC, tz_aC, tI_rmL, tL_rmL, tR_rmL, tN_rmL, tZ_rmL, tC_rmL, tc_rmL, tz_rmL, tI_mk, tL_mk, tR_mk, tN_mk, tZ_mk, tC_mk, tc_mk, tz_mk, tI_pushL, tL_pushL, tR_pushL, tN_pushL, tZ_pushL, tC_pushL, tc_pushL, tz_pushL, tI_pushB, tL_pushB, tR_pushB, tN_pushB, tZ_pushB, tC_pushB, tc_pushB, tz_pushB, tI_cpL, tL_cpL, tR_cpL, tN_cpL, tZ_cpL, tC_cpL, tc_cpL, tz_cpL, eq_self, true_and, and_true, false_and, and_false, if_true, if_false, reduceIte, ite_true, ite_false, not_true_eq_false, not_false_eq_true, hp, h1, h2, h3, hsh, hcd, c1, c2, f5, c3]
      · by_cases c4 : tI a 37 cd 10 + m ≤ tI a 37 cd 5
        · rw [if_pos (hG.mpr ⟨c1, c2, c3, c4⟩)]
          have fb : ∀ (A : TS) (z : Hp), p < tN A 38 → tR A 38 p 1 = some (37, cd) → cd < tN A 37 → tR A 38 p 2 = some (36, sh) → sh < tN A 36 → Ex 43 [aR (some (38, p))] (enc 1 A z) = some (.inl none, enc 1 (sI (sI A 38 p 7 0) 38 p 5 (stp (tI A 37 cd 3).toInt64 (tI A 38 p 4) (tI A 38 p 3) (tI A 36 sh 0) 1)) z) := fun A z g1 g2 g3 g4 g5 => by
            refine (X_in (by decide +kernel) (g1) rfl).trans ((lf_43_0 ..).trans ?_)
            have f2 := fun z => x2 (a := sI A 38 p 7 0) (z := z) (j := cd) (tI A 38 p 4) (tI A 38 p 3) (tI A 36 sh 0) 1 g3
            simp (config := {decide := true}) only [gfI_enc, gfL_enc, gfR_enc, pfI_enc, pfL_enc, pfR_enc, Option.bind_some, cI_v, cL_v, cF_v, cD_v, cR_v, cV_v, cI_x, cL_x, cR_x, cV_x, gz_0, gz_1, acc_enc, tI_sI, tL_sI, tR_sI, tN_sI, tZ_sI, tC_sI, tc_sI, tz_sI, tI_sL, tL_sL, tR_sL, tN_sL, tZ_sL, tC_sL, tc_sL, tz_sL, tI_sR, tL_sR, tR_sR, tN_sR, tZ_sR, tC_sR, tc_sR, tz_sR, tI_sZ, tL_sZ, tR_sZ, tN_sZ, tZ_sZ, tC_sZ, tc_sZ, tz_sZ, tI_sC, tL_sC, tR_sC, tN_sC, tZ_sC, tC_sC, tc_sC, tz_sC, tI_aC, tL_aC, tR_aC, tN_aC, tZ_aC, tC_aC, tc_aC, tz_aC, tI_rmL, tL_rmL, tR_rmL, tN_rmL, tZ_rmL, tC_rmL, tc_rmL, tz_rmL, tI_mk, tL_mk, tR_mk, tN_mk, tZ_mk, tC_mk, tc_mk, tz_mk, tI_pushL, tL_pushL, tR_pushL, tN_pushL, tZ_pushL, tC_pushL, tc_pushL, tz_pushL, tI_pushB, tL_pushB, tR_pushB, tN_pushB, tZ_pushB, tC_pushB, tc_pushB, tz_pushB, tI_cpL, tL_cpL, tR_cpL, tN_cpL, tZ_cpL, tC_cpL, tc_cpL, tz_cpL, eq_self, true_and, and_true, false_and, and_false, if_true, if_false, reduceIte, ite_true, ite_false, not_true_eq_false, not_false_eq_true, g1, g2, g3, g4, g5, f2]
          unfold paA
          simp (config := {decide := true}) only [gfI_enc, gfL_enc, gfR_enc, pfI_enc, pfL_enc, pfR_enc, Option.bind_some, cI_v, cL_v, cF_v, cD_v, cR_v, cV_v, cI_x, cL_x, cR_x, cV_x, gz_0, gz_1, acc_enc, tI_sI, tL_sI, tR_sI, tN_sI, tZ_sI, tC_sI, tc_sI, tz_sI, tI_sL, tL_sL, tR_sL, tN_sL, tZ_sL, tC_sL, tc_sL, tz_sL, tI_sR, tL_sR, tR_sR, tN_sR, tZ_sR, tC_sR, tc_sR, tz_sR, tI_sZ, tL_sZ, tR_sZ, tN_sZ, tZ_sZ, tC_sZ, tc_sZ, tz_sZ, tI_sC, tL_sC, tR_sC, tN_sC, tZ_sC, tC_sC, tc_sC, tz_sC, tI_aC, tL_aC, tR_aC, tN_aC, tZ_aC, tC_aC, tc_aC, tz_aC, tI_rmL, tL_rmL, tR_rmL, tN_rmL, tZ_rmL, tC_rmL, tc_rmL, tz_rmL, tI_mk, tL_mk, tR_mk, tN_mk, tZ_mk, tC_mk, tc_mk, tz_mk, tI_pushL, tL_pushL, tR_pushL, tN_pushL, tZ_pushL, tC_pushL, tc_pushL, tz_pushL, tI_pushB, tL_pushB, tR_pushB, tN_pushB, tZ_pushB, tC_pushB, tc_pushB, tz_pushB, tI_cpL, tL_cpL, tR_cpL, tN_cpL, tZ_cpL, tC_cpL, tc_cpL, tz_cpL, eq_self, true_and, and_true, false_and, and_false, if_true, if_false, reduceIte, ite_true, ite_false, not_true_eq_false, not_false_eq_true, hp, h1, h2, h3, hsh, hcd, c1, c2, f5, c3, c4, fb]
        · rw [if_neg (fun g => c4 (hG.mp g).2.2.2)]
          simp (config := {decide := true}) only [gfI_enc, gfL_enc, gfR_enc, pfI_enc, pfL_enc, pfR_enc, Option.bind_some, cI_v, cL_v, cF_v, cD_v, cR_v, cV_v, cI_x, cL_x, cR_x, cV_x, gz_0, gz_1, acc_enc, tI_sI, tL_sI, tR_sI, tN_sI, tZ_sI, tC_sI, tc_sI, tz_sI, tI_sL, tL_sL, tR_sL, tN_sL, tZ_sL, tC_sL, tc_sL, tz_sL, tI_sR, tL_sR, tR_sR, tN_sR, tZ_sR, tC_sR, tc_sR, tz_sR, tI_sZ, tL_sZ, tR_sZ, tN_sZ, tZ_sZ, tC_sZ, tc_sZ, tz_sZ, tI_sC, tL_sC, tR_sC, tN_sC, tZ_sC, tC_sC, tc_sC, tz_sC, tI_aC, tL_aC, tR_aC, tN_aC, tZ_aC, tC_aC, tc_aC, tz_aC, tI_rmL, tL_rmL, tR_rmL, tN_rmL, tZ_rmL, tC_rmL, tc_rmL, tz_rmL, tI_mk, tL_mk, tR_mk, tN_mk, tZ_mk, tC_mk, tc_mk, tz_mk, tI_pushL, tL_pushL, tR_pushL, tN_pushL, tZ_pushL, tC_pushL, tc_pushL, tz_pushL, tI_pushB, tL_pushB, tR_pushB, tN_pushB, tZ_pushB, tC_pushB, tc_pushB, tz_pushB, tI_cpL, tL_cpL, tR_cpL, tN_cpL, tZ_cpL, tC_cpL, tc_cpL, tz_cpL, eq_self, true_and, and_true, false_and, and_false, if_true, if_false, reduceIte, ite_true, ite_false, not_true_eq_false, not_false_eq_true, hp, h1, h2, h3, hsh, hcd, c1, c2, f5, c3, c4]
    · rw [if_neg (fun g => c2 (hG.mp g).2.1)]
      simp (config := {decide := true}) only [gfI_enc, gfL_enc, gfR_enc, pfI_enc, pfL_enc, pfR_enc, Option.bind_some, cI_v, cL_v, cF_v, cD_v, cR_v, cV_v, cI_x, cL_x, cR_x, cV_x, gz_0, gz_1, acc_enc, tI_sI, tL_sI, tR_sI, tN_sI, tZ_sI, tC_sI, tc_sI, tz_sI, tI_sL, tL_sL, tR_sL, tN_sL, tZ_sL, tC_sL, tc_sL, tz_sL, tI_sR, tL_sR, tR_sR, tN_sR, tZ_sR, tC_sR, tc_sR, tz_sR, tI_sZ, tL_sZ, tR_sZ, tN_sZ, tZ_sZ, tC_sZ, tc_sZ, tz_sZ, tI_sC, tL_sC, tR_sC, tN_sC, tZ_sC, tC_sC, tc_sC, tz_sC, tI_aC, tL_aC, tR_aC, tN_aC, tZ_aC, tC_aC, tc_aC, tz_aC, tI_rmL, tL_rmL, tR_rmL, tN_rmL, tZ_rmL, tC_rmL, tc_rmL, tz_rmL, tI_mk, tL_mk, tR_mk, tN_mk, tZ_mk, tC_mk, tc_mk, tz_mk, tI_pushL, tL_pushL, tR_pushL, tN_pushL, tZ_pushL, tC_pushL, tc_pushL, tz_pushL, tI_pushB, tL_pushB, tR_pushB, tN_pushB, tZ_pushB, tC_pushB, tc_pushB, tz_pushB, tI_cpL, tL_cpL, tR_cpL, tN_cpL, tZ_cpL, tC_cpL, tc_cpL, tz_cpL, eq_self, true_and, and_true, false_and, and_false, if_true, if_false, reduceIte, ite_true, ite_false, not_true_eq_false, not_false_eq_true, hp, h1, h2, h3, hsh, hcd, c1, c2]
theorem W87_87 {b : TS} {p g : Nat} {v : Int32} (h : g = 0 ∨ g = 5 ∨ g = 7 ∨ g = 8) : W87 b (sI b 87 0 (10 * p + g) v) := by
  refine ⟨fun p' => ?_, fun p' => ?_, fun p' => ?_, fun p' => ?_, fun p' => ?_, fun p' => ?_⟩ <;> rw [tI_sI, if_neg (fun q => by omega)]
theorem y240 {b : TS} {z : Hp} {p cd : Nat} {m : Int32} {G : Prop} [Decidable G] (hF : FxR b) (hp : p < 200) (hcd : cd < 8) (h1 : tI b 87 0 (10 * p + 1) = Int32.ofNat cd) (h3 : tI b 87 0 (10 * p + 3) = m) (hG : G ↔ (¬ tI b 86 0 (10 * cd + 6) ≤ tI b 86 0 (10 * cd + 3) ∧ tI b 86 0 (10 * cd + 4) + m ≤ tI b 86 0 (10 * cd + 8))) :
    Ex 240 [aR (some (93, 0)), aI (Int32.ofNat p)] (enc 2 b z) = if G then some (.inl (some (aI 1)), enc 2 (paB b p cd m (pst b p 1)) z) else some (.inl (some (aI 0)), enc 2 b z) := by
  have f1 := fun z => y229_1 (b := b) (z := z) hF hp
  have f3 := fun z => y229_3 (b := b) (z := z) hF hp
  have g4 := fun z => y226_4 (b := b) (z := z) hF hcd
  have g3 := fun z => y226_3 (b := b) (z := z) hF hcd
  have g6 := fun z => y226_6 (b := b) (z := z) hF hcd
  have g8 := fun z => y226_8 (b := b) (z := z) hF hcd
  have w3 : ∀ (A : TS) (v : Int32) (z : Hp), FxR A → Ex 228 [aR (some (93, 0)), aI (Int32.ofNat cd), aI 3, aI v] (enc 2 A z) = some (.inl none, enc 2 (sI A 86 0 (10 * cd + 3) (tI A 86 0 (10 * cd + 3) + v)) z) := fun A v z h => y228_3 v h hcd
  have w4 : ∀ (A : TS) (v : Int32) (z : Hp), FxR A → Ex 227 [aR (some (93, 0)), aI (Int32.ofNat cd), aI 4, aI v] (enc 2 A z) = some (.inl none, enc 2 (sI A 86 0 (10 * cd + 4) v) z) := fun A v z h => y227_4 v h hcd
  have w0 : ∀ (A : TS) (v : Int32) (z : Hp), FxR A → Ex 230 [aR (some (93, 0)), aI (Int32.ofNat p), aI 0, aI v] (enc 2 A z) = some (.inl none, enc 2 (sI A 87 0 (10 * p + 0) v) z) := fun A v z h => y230_0 v h hp
  have w5 : ∀ (A : TS) (v : Int32) (z : Hp), FxR A → Ex 230 [aR (some (93, 0)), aI (Int32.ofNat p), aI 5, aI v] (enc 2 A z) = some (.inl none, enc 2 (sI A 87 0 (10 * p + 5) v) z) := fun A v z h => y230_5 v h hp
  have w37 : ∀ (A : TS) (z : Hp), FxR A → Ex 237 [aR (some (93, 0)), aI (Int32.ofNat p), aI 1] (enc 2 A z) = some (.inl (some (aI (pst A p 1))), enc 2 A z) := fun A z h => y237 1 h hp
  refine (X_in (by decide +kernel) (frN_93 hF) rfl).trans ((lf_240_0 ..).trans ?_)
  by_cases c3 : tI b 86 0 (10 * cd + 6) ≤ tI b 86 0 (10 * cd + 3)
  · rw [if_neg (fun g => (hG.mp g).1 c3)]
    simp (config := {decide := true}) only [gfI_enc, gfL_enc, gfR_enc, pfI_enc, pfL_enc, pfR_enc, Option.bind_some, cI_v, cL_v, cF_v, cD_v, cR_v, cV_v, cI_x, cL_x, cR_x, cV_x, gz_0, gz_1, acc_enc, tI_sI, tL_sI, tR_sI, tN_sI, tZ_sI, tC_sI, tc_sI, tz_sI, tI_sL, tL_sL, tR_sL, tN_sL, tZ_sL, tC_sL, tc_sL, tz_sL, tI_sR, tL_sR, tR_sR, tN_sR, tZ_sR, tC_sR, tc_sR, tz_sR, tI_sZ, tL_sZ, tR_sZ, tN_sZ, tZ_sZ, tC_sZ, tc_sZ, tz_sZ, tI_sC, tL_sC, tR_sC, tN_sC, tZ_sC, tC_sC, tc_sC, tz_sC, tI_aC, tL_aC, tR_aC, tN_aC, tZ_aC, tC_aC, tc_aC, tz_aC, tI_rmL, tL_rmL, tR_rmL, tN_rmL, tZ_rmL, tC_rmL, tc_rmL, tz_rmL, tI_mk, tL_mk, tR_mk, tN_mk, tZ_mk, tC_mk, tc_mk, tz_mk, tI_pushL, tL_pushL, tR_pushL, tN_pushL, tZ_pushL, tC_pushL, tc_pushL, tz_pushL, tI_pushB, tL_pushB, tR_pushB, tN_pushB, tZ_pushB, tC_pushB, tc_pushB, tz_pushB, tI_cpL, tL_cpL, tR_cpL, tN_cpL, tZ_cpL, tC_cpL, tc_cpL, tz_cpL, eq_self, true_and, and_true, false_and, and_false, if_true, if_false, reduceIte, ite_true, ite_false, not_true_eq_false, not_false_eq_true, f1, h1, g4, f3, h3, g3, g6, c3]
  · by_cases c4 : tI b 86 0 (10 * cd + 4) + m ≤ tI b 86 0 (10 * cd + 8)
    · rw [if_pos (hG.mpr ⟨c3, c4⟩)]
      have F1 : FxR (sI b 86 0 (10 * cd + 3) (tI b 86 0 (10 * cd + 3) + 1)) := s86_F hF
      have F2 : FxR (sI (sI b 86 0 (10 * cd + 3) (tI b 86 0 (10 * cd + 3) + 1)) 86 0 (10 * cd + 4) (tI b 86 0 (10 * cd + 4) + m)) := s86_F F1
      have F3 : FxR (sI (sI (sI b 86 0 (10 * cd + 3) (tI b 86 0 (10 * cd + 3) + 1)) 86 0 (10 * cd + 4) (tI b 86 0 (10 * cd + 4) + m)) 87 0 (10 * p + 0) 0) := s87_F F2
      have ep : pst (sI (sI (sI b 86 0 (10 * cd + 3) (tI b 86 0 (10 * cd + 3) + 1)) 86 0 (10 * cd + 4) (tI b 86 0 (10 * cd + 4) + m)) 87 0 (10 * p + 0) 0) p 1 = pst b p 1 := by
        have u1 : W87 b (sI b 86 0 (10 * cd + 3) (tI b 86 0 (10 * cd + 3) + 1)) := W87_86
        have u2 : W87 (sI b 86 0 (10 * cd + 3) (tI b 86 0 (10 * cd + 3) + 1)) (sI (sI b 86 0 (10 * cd + 3) (tI b 86 0 (10 * cd + 3) + 1)) 86 0 (10 * cd + 4) (tI b 86 0 (10 * cd + 4) + m)) := W87_86
        exact W87_pst (W87_t (W87_t u1 u2) (W87_87 (Or.inl rfl))) p 1
      simp (config := {decide := true}) only [gfI_enc, gfL_enc, gfR_enc, pfI_enc, pfL_enc, pfR_enc, Option.bind_some, cI_v, cL_v, cF_v, cD_v, cR_v, cV_v, cI_x, cL_x, cR_x, cV_x, gz_0, gz_1, acc_enc, tI_sI, tL_sI, tR_sI, tN_sI, tZ_sI, tC_sI, tc_sI, tz_sI, tI_sL, tL_sL, tR_sL, tN_sL, tZ_sL, tC_sL, tc_sL, tz_sL, tI_sR, tL_sR, tR_sR, tN_sR, tZ_sR, tC_sR, tc_sR, tz_sR, tI_sZ, tL_sZ, tR_sZ, tN_sZ, tZ_sZ, tC_sZ, tc_sZ, tz_sZ, tI_sC, tL_sC, tR_sC, tN_sC, tZ_sC, tC_sC, tc_sC, tz_sC, tI_aC, tL_aC, tR_aC, tN_aC, tZ_aC, tC_aC, tc_aC, tz_aC, tI_rmL, tL_rmL, tR_rmL, tN_rmL, tZ_rmL, tC_rmL, tc_rmL, tz_rmL, tI_mk, tL_mk, tR_mk, tN_mk, tZ_mk, tC_mk, tc_mk, tz_mk, tI_pushL, tL_pushL, tR_pushL, tN_pushL, tZ_pushL, tC_pushL, tc_pushL, tz_pushL, tI_pushB, tL_pushB, tR_pushB, tN_pushB, tZ_pushB, tC_pushB, tc_pushB, tz_pushB, tI_cpL, tL_cpL, tR_cpL, tN_cpL, tZ_cpL, tC_cpL, tc_cpL, tz_cpL, eq_self, true_and, and_true, false_and, and_false, if_true, if_false, reduceIte, ite_true, ite_false, not_true_eq_false, not_false_eq_true, f1, h1, g4, f3, h3, g3, g6, c3, g8, c4, w3, hF, w4, F1, w0, F2, w37, F3, ep, w5]
      rfl
    · rw [if_neg (fun g => c4 (hG.mp g).2)]
      simp (config := {decide := true}) only [gfI_enc, gfL_enc, gfR_enc, pfI_enc, pfL_enc, pfR_enc, Option.bind_some, cI_v, cL_v, cF_v, cD_v, cR_v, cV_v, cI_x, cL_x, cR_x, cV_x, gz_0, gz_1, acc_enc, tI_sI, tL_sI, tR_sI, tN_sI, tZ_sI, tC_sI, tc_sI, tz_sI, tI_sL, tL_sL, tR_sL, tN_sL, tZ_sL, tC_sL, tc_sL, tz_sL, tI_sR, tL_sR, tR_sR, tN_sR, tZ_sR, tC_sR, tc_sR, tz_sR, tI_sZ, tL_sZ, tR_sZ, tN_sZ, tZ_sZ, tC_sZ, tc_sZ, tz_sZ, tI_sC, tL_sC, tR_sC, tN_sC, tZ_sC, tC_sC, tc_sC, tz_sC, tI_aC, tL_aC, tR_aC, tN_aC, tZ_aC, tC_aC, tc_aC, tz_aC, tI_rmL, tL_rmL, tR_rmL, tN_rmL, tZ_rmL, tC_rmL, tc_rmL, tz_rmL, tI_mk, tL_mk, tR_mk, tN_mk, tZ_mk, tC_mk, tc_mk, tz_mk, tI_pushL, tL_pushL, tR_pushL, tN_pushL, tZ_pushL, tC_pushL, tc_pushL, tz_pushL, tI_pushB, tL_pushB, tR_pushB, tN_pushB, tZ_pushB, tC_pushB, tc_pushB, tz_pushB, tI_cpL, tL_cpL, tR_cpL, tN_cpL, tZ_cpL, tC_cpL, tc_cpL, tz_cpL, eq_self, true_and, and_true, false_and, and_false, if_true, if_false, reduceIte, ite_true, ite_false, not_true_eq_false, not_false_eq_true, f1, h1, g4, f3, h3, g3, g6, c3, g8, c4]
set_option maxHeartbeats 2000000 in
/-- a payment that asks gets another state, and maybe another stamp -/
theorem st5_R0 {a b : TS} {p n : Nat} {st : Int32} (hR : R0 a b) (hp : p < tZ a 29 0) (hs : tI b 87 0 (10 * p) = 1) (hn : n = 0 ∨ n = 4) (hst : st = pst b p (if n = 0 then 1 else 2)) :
    PqP a (sI (sI a 38 p 7 (Int32.ofNat n)) 38 p 5 st) b (sI (sI b 87 0 (10 * p + 0) (Int32.ofNat n)) 87 0 (10 * p + 5) st) p := by
  have ha : chF [] FpA a (sI (sI a 38 p 7 (Int32.ofNat n)) 38 p 5 st) := chF_I (by decide) (chF_I (by decide) (chF_r _ _ _))
  have hbb : chF [86, 87] [] b (sI (sI b 87 0 (10 * p + 0) (Int32.ofNat n)) 87 0 (10 * p + 5) st) := chF_I (by simp) (chF_I (by simp) (chF_r _ _ _))
  have wa : Wr a (sI (sI a 38 p 7 (Int32.ofNat n)) 38 p 5 st) := ((Wr.rf _).cI _ _ _ _).cI _ _ _ _
  have wb : Wr b (sI (sI b 87 0 (10 * p + 0) (Int32.ofNat n)) 87 0 (10 * p + 5) st) := ((Wr.rf _).cI _ _ _ _).cI _ _ _ _
  have vB : ∀ k, tI (sI (sI b 87 0 (10 * p + 0) (Int32.ofNat n)) 87 0 (10 * p + 5) st) 87 0 k = if k = 10 * p then Int32.ofNat n else if k = 10 * p + 5 then st else tI b 87 0 k := fun k => by
    rw [tI_sI, tI_sI]
    by_cases e1 : k = 10 * p
    · rw [if_neg (fun q => by omega), if_pos ⟨rfl, rfl, e1⟩, if_pos e1]
    · by_cases e2 : k = 10 * p + 5
      · rw [if_pos ⟨rfl, rfl, e2⟩, if_neg e1, if_pos e2]
      · rw [if_neg (fun q => e2 q.2.2), if_neg (fun q => e1 q.2.2), if_neg e1, if_neg e2]
  have vA : ∀ f, tI (sI (sI a 38 p 7 (Int32.ofNat n)) 38 p 5 st) 38 p f = if f = 7 then Int32.ofNat n else if f = 5 then st else tI a 38 p f := fun f => by
    rw [tI_sI, tI_sI]
    by_cases e1 : f = 7
    · rw [if_neg (fun q => by omega), if_pos ⟨rfl, rfl, e1⟩, if_pos e1]
    · by_cases e2 : f = 5
      · rw [if_pos ⟨rfl, rfl, e2⟩, if_neg e1, if_pos e2]
      · rw [if_neg (fun q => e2 q.2.2), if_neg (fun q => e1 q.2.2), if_neg e1, if_neg e2]
  have oA : ∀ s i k, ¬ (s = 38 ∧ i = p) → tI (sI (sI a 38 p 7 (Int32.ofNat n)) 38 p 5 st) s i k = tI a s i k := fun s i k h => by rw [tI_sI, if_neg (fun q => h ⟨q.1, q.2.1⟩), tI_sI, if_neg (fun q => h ⟨q.1, q.2.1⟩)]
  have v86 : ∀ k, tI (sI (sI b 87 0 (10 * p + 0) (Int32.ofNat n)) 87 0 (10 * p + 5) st) 86 0 k = tI b 86 0 k := fun k => by rw [tI_sI, if_neg (fun q => absurd q.1 (by decide)), tI_sI, if_neg (fun q => absurd q.1 (by decide))]
  have zA : ∀ s i, tZ (sI (sI a 38 p 7 (Int32.ofNat n)) 38 p 5 st) s i = tZ a s i := fun s i => rfl
  generalize sI (sI a 38 p 7 (Int32.ofNat n)) 38 p 5 st = a' at *
  generalize sI (sI b 87 0 (10 * p + 0) (Int32.ofNat n)) 87 0 (10 * p + 5) st = b' at *
  have e87 : W87 b b' := by
    refine ⟨fun p' => ?_, fun p' => ?_, fun p' => ?_, fun p' => ?_, fun p' => ?_, fun p' => ?_⟩ <;> rw [vB, if_neg (by omega), if_neg (by omega)]
  have oB : ∀ p', p' ≠ p → tI b' 87 0 (10 * p') = tI b 87 0 (10 * p') ∧ tI b' 87 0 (10 * p' + 5) = tI b 87 0 (10 * p' + 5) ∧ tI b' 87 0 (10 * p' + 7) = tI b 87 0 (10 * p' + 7) ∧ tI b' 87 0 (10 * p' + 8) = tI b 87 0 (10 * p' + 8) := fun p' h => by
    refine ⟨?_, ?_, ?_, ?_⟩ <;> rw [vB, if_neg (by omega), if_neg (by omega)]
  have b5 : tI b' 87 0 (10 * p + 5) = st := by rw [vB, if_neg (by omega), if_pos rfl]
  have b0 : tI b' 87 0 (10 * p) = Int32.ofNat n := by rw [vB, if_pos rfl]
  have b7 : tI b' 87 0 (10 * p + 7) = tI b 87 0 (10 * p + 7) := by rw [vB, if_neg (by omega), if_neg (by omega)]
  have b8 : tI b' 87 0 (10 * p + 8) = tI b 87 0 (10 * p + 8) := by rw [vB, if_neg (by omega), if_neg (by omega)]
  have hQ' : RQ a' b' := RQ_at (r_Q hR) ha hbb e87 (fun p' h f => oA 38 p' f (fun q => h q.2)) oB (fun _ => by
    obtain ⟨e1, e2, e3, e4, e5, e6, n0, n1, n2, n3, n4, n5⟩ := (r_Q hR).1 p hp
    have hn0 : n0 = 1 := i32_1 n1 (n2.symm.trans hs)
    subst hn0
    rw [b0, b5, b7, b8, vA 5, vA 7, vA 8, vA 9]
    simp (config := {decide := true}) only [if_true, if_false]
    refine ⟨trivial, trivial, e3, e4, n, by omega, rfl, fun q => by omega, fun _ => n4 (by decide), hst⟩)
  have hD' : RD a' b' := by
    have := r_D hR
    have v37 : ∀ i k, tI a' 37 i k = tI a 37 i k := fun i k => oA 37 i k (fun q => absurd q.1 (by decide))
    unfold RD at *
    simp only [v37, v86, zA]
    exact this
  have hsp : ∀ p', p' < tZ a 29 0 → (tI b 87 0 (10 * p') = 0 ∨ tI b 87 0 (10 * p') = 2) → p' ≠ p := fun p' _ h e => by
    rw [e, hs] at h
    rcases h with h | h <;> exact absurd h (by decide)
  refine ⟨pq_R0 hR ha hbb e87 ⟨fun k => v86 _, fun k => v86 _, fun k => v86 _⟩ (fun k hk => ?_) hD' hQ' (fun p' h1 h2 => ⟨(oB p' (hsp p' h1 h2)).1, (oB p' (hsp p' h1 h2)).2.1⟩) wa wb, ha, hbb, pq_PS ha e87 (fun p' h1 h2 => ⟨(oB p' (hsp p' h1 h2)).1, (oB p' (hsp p' h1 h2)).2.1, (oB p' (hsp p' h1 h2)).2.2.2⟩), e87, fun p' h => (oB p' h).1, wa, wb⟩
  rw [vB, if_neg (by omega), if_neg (by omega)]
  exact (r_P' hR).2.2.2.2.2.2 k hk
