/-! ===== the law's step ===== -/
theorem pure_J {α : Type} {mv : α → AV} {cm rm : Nat} {ca ra : List AV} {a b : TS} {n : Nat} {w : Hp} {sc : List Int32} (hT : PubT mv cm ca rm ra k0 a b n) (hW : WK w sc) : ∃ a' b' v, Ex cm ca (JH a b w) = some (.inl (some (mv v)), JH a' b w) ∧ Ex rm ra (JH a' b w) = some (.inl (some (mv v)), JH a' b' w) ∧ IvH a' b' (n + 1) ∧ LwS a b w a' b' w := by
  rcases hT with ⟨r, v, a', b', r1, r3, hok, hx, hy, hk, hi, hw, hw'⟩ | ⟨v, a', b', hx, hy, hk, hi, hw, hw'⟩
  · exact absurd rfl hok
  · refine ⟨a', b', v, hx _ (Zk_J1 (b := b) hW), ?_, hi, ⟨a', hw, Or.inl rfl⟩, hw', rfl⟩
    rw [JH_c, JH_c, hy _ (Zk_J2 (a := a') hW)]
theorem lg_self (x : Int64) : lg_cmp x x = 0 := by
  unfold lg_cmp
  rw [if_neg (show ¬ x > x from Int64.lt_irrefl), if_pos rfl]
/-- the law's state at index i -/
noncomputable def LwR (a b : TS) (w : Hp) (i : Nat) : Res := Ru 316 28 [(0, aR (some (0, 0))), (1, aR (some (96, 0))), (2, aR (some (97, 0))), (3, aR (some (98, 0))), (4, aR (some (99, 0))), (5, aI (Int32.ofNat i))] [] (JH a b w)
def LwN (a b : TS) (w : Hp) (sc : List Int32) (n i : Nat) : Prop := ∃ a' b' w', LwR a b w i = LwR a' b' w' (i + 5) ∧ IvH a' b' (n + 1) ∧ WK w' sc ∧ LwS a b w a' b' w'
theorem st_3 {a b : TS} {w : Hp} {sc : List Int32} {n i : Nat} (hn : n ≤ 511) (h : IvH a b n) (hW : WK w sc) (hi : i + 5 ≤ sc.length) (hL : sc.length < 2 ^ 30) (hx : (sc.getD i 0 &&& (31 : Int32)).toInt = 3) : LwN a b w sc n i := by
  have hl := fun a b w (hW : WK w sc) => len_S (a := a) (b := b) hW
  have s0 := fun a b w (hW : WK w sc) => ga_S (a := a) (b := b) hW (i := i) (by omega) (by omega)
  have s1 : ∀ a b w, WK w sc → gaI (JH a b w) (some (0, 0)) 1000 (Int32.ofNat i + 1) = some (sc.getD (i + 1) 0) := fun a b w hW => by rw [o_s]; exact ga_S hW (by omega) (by omega)
  have s2 : ∀ a b w, WK w sc → gaI (JH a b w) (some (0, 0)) 1000 (Int32.ofNat i + 2) = some (sc.getD (i + 2) 0) := fun a b w hW => by rw [show Int32.ofNat i + 2 = Int32.ofNat (i + 2) from o_a _ 2]; exact ga_S hW (by omega) (by omega)
  have s3 : ∀ a b w, WK w sc → gaI (JH a b w) (some (0, 0)) 1000 (Int32.ofNat i + 3) = some (sc.getD (i + 3) 0) := fun a b w hW => by rw [show Int32.ofNat i + 3 = Int32.ofNat (i + 3) from o_a _ 3]; exact ga_S hW (by omega) (by omega)
  have s4 : ∀ a b w, WK w sc → gaI (JH a b w) (some (0, 0)) 1000 (Int32.ofNat i + 4) = some (sc.getD (i + 4) 0) := fun a b w hW => by rw [show Int32.ofNat i + 4 = Int32.ofNat (i + 4) from o_a _ 4]; exact ga_S hW (by omega) (by omega)
  have e5 : Int32.ofNat i + 5 = Int32.ofNat (i + 5) := o_a _ 5
  have lt : ¬ Int32.ofNat sc.length - 5 < Int32.ofNat i := by
    rw [show Int32.ofNat sc.length - 5 = Int32.ofNat (sc.length - 5) from o_sb (n := sc.length) (k := 5) (by omega), o_lt (by omega) (by omega)]
    omega
  have start : LwR a b w i = Ru 316 28 [(0, aR (some (0, 0))), (1, aR (some (96, 0))), (2, aR (some (97, 0))), (3, aR (some (98, 0))), (4, aR (some (99, 0))), (5, aI (Int32.ofNat i))] [] (JH a b w) := rfl
  have n10 : ¬ (1 : Int32) = 0 := by decide
  obtain ⟨a', b', w', k, v, f1, f2, hk, hg, hI, hW', hS⟩ := lw_account h hW (sc.getD (i + 1) 0)
  have hF' : FxR b' := by
    obtain ⟨C, hc, -⟩ := hI
    exact r_FR hc.1.1
  have f249 := y249 (a := a') (w := w') hF'
  rw [hk] at f249
  refine ⟨a', b', w', ?_, hI, hW', hS⟩
  by_cases k0' : k = 0
  · have hg := hg k0'
    subst k0'
    rw [start, lf_316_28, hl a b w hW, Option.bind_some, if_neg lt, s0 a b w hW, Option.bind_some, if_neg (show ¬ (sc.getD i 0 &&& (31 : Int32)).toInt = 0 by rw [hx]; decide), if_neg (show ¬ (sc.getD i 0 &&& (31 : Int32)).toInt = 1 by rw [hx]; decide), if_neg (show ¬ (sc.getD i 0 &&& (31 : Int32)).toInt = 2 by rw [hx]; decide), if_pos hx]
    simp (config := {decide := true}) only [gfI_enc, gfL_enc, gfR_enc, pfI_enc, pfL_enc, pfR_enc, Option.bind_some, cI_v, cL_v, cF_v, cD_v, cR_v, cV_v, cI_x, cL_x, cR_x, cV_x, gz_0, gz_1, acc_enc, tI_sI, tL_sI, tR_sI, tN_sI, tZ_sI, tC_sI, tc_sI, tz_sI, tI_sL, tL_sL, tR_sL, tN_sL, tZ_sL, tC_sL, tc_sL, tz_sL, tI_sR, tL_sR, tR_sR, tN_sR, tZ_sR, tC_sR, tc_sR, tz_sR, tI_sZ, tL_sZ, tR_sZ, tN_sZ, tZ_sZ, tC_sZ, tc_sZ, tz_sZ, tI_sC, tL_sC, tR_sC, tN_sC, tZ_sC, tC_sC, tc_sC, tz_sC, tI_aC, tL_aC, tR_aC, tN_aC, tZ_aC, tC_aC, tc_aC, tz_aC, tI_rmL, tL_rmL, tR_rmL, tN_rmL, tZ_rmL, tC_rmL, tc_rmL, tz_rmL, tI_mk, tL_mk, tR_mk, tN_mk, tZ_mk, tC_mk, tc_mk, tz_mk, tI_pushL, tL_pushL, tR_pushL, tN_pushL, tZ_pushL, tC_pushL, tc_pushL, tz_pushL, tI_pushB, tL_pushB, tR_pushB, tN_pushB, tZ_pushB, tC_pushB, tc_pushB, tz_pushB, tI_cpL, tL_cpL, tR_cpL, tN_cpL, tZ_cpL, tC_cpL, tc_cpL, tz_cpL, eq_self, true_and, and_true, false_and, and_false, if_true, if_false, reduceIte, ite_true, ite_false, not_true_eq_false, not_false_eq_true, s1 a b w hW, s1 a' b w' hW', f1, f2, f249, hg, lg_self, e5]
    rfl
  · rw [start, lf_316_28, hl a b w hW, Option.bind_some, if_neg lt, s0 a b w hW, Option.bind_some, if_neg (show ¬ (sc.getD i 0 &&& (31 : Int32)).toInt = 0 by rw [hx]; decide), if_neg (show ¬ (sc.getD i 0 &&& (31 : Int32)).toInt = 1 by rw [hx]; decide), if_neg (show ¬ (sc.getD i 0 &&& (31 : Int32)).toInt = 2 by rw [hx]; decide), if_pos hx]
    simp (config := {decide := true}) only [gfI_enc, gfL_enc, gfR_enc, pfI_enc, pfL_enc, pfR_enc, Option.bind_some, cI_v, cL_v, cF_v, cD_v, cR_v, cV_v, cI_x, cL_x, cR_x, cV_x, gz_0, gz_1, acc_enc, tI_sI, tL_sI, tR_sI, tN_sI, tZ_sI, tC_sI, tc_sI, tz_sI, tI_sL, tL_sL, tR_sL, tN_sL, tZ_sL, tC_sL, tc_sL, tz_sL, tI_sR, tL_sR, tR_sR, tN_sR, tZ_sR, tC_sR, tc_sR, tz_sR, tI_sZ, tL_sZ, tR_sZ, tN_sZ, tZ_sZ, tC_sZ, tc_sZ, tz_sZ, tI_sC, tL_sC, tR_sC, tN_sC, tZ_sC, tC_sC, tc_sC, tz_sC, tI_aC, tL_aC, tR_aC, tN_aC, tZ_aC, tC_aC, tc_aC, tz_aC, tI_rmL, tL_rmL, tR_rmL, tN_rmL, tZ_rmL, tC_rmL, tc_rmL, tz_rmL, tI_mk, tL_mk, tR_mk, tN_mk, tZ_mk, tC_mk, tc_mk, tz_mk, tI_pushL, tL_pushL, tR_pushL, tN_pushL, tZ_pushL, tC_pushL, tc_pushL, tz_pushL, tI_pushB, tL_pushB, tR_pushB, tN_pushB, tZ_pushB, tC_pushB, tc_pushB, tz_pushB, tI_cpL, tL_cpL, tR_cpL, tN_cpL, tZ_cpL, tC_cpL, tc_cpL, tz_cpL, eq_self, true_and, and_true, false_and, and_false, if_true, if_false, reduceIte, ite_true, ite_false, not_true_eq_false, not_false_eq_true, s1 a b w hW, s1 a' b w' hW', f1, f2, f249, k0', e5]
    rfl
