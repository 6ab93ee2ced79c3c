/-! ===== the class's public methods alone, where they aren't refused (the reference's store is a ghost) ===== -/
theorem x140_1 {p : Int32} {n : Int32} (hp : inR p 0 (n - 1)) (h : Hp) : Ex 140 [aI p, aI n] h = some (.inl (some (aI 0)), h) := by
  refine (X_st (by decide +kernel) rfl).trans ((lf_140_0 ..).trans ?_)
  rw [x139_1 hp, cI_v, if_neg (by decide)]
theorem x140_0 {p : Int32} {n : Int32} (hp : ¬ inR p 0 (n - 1)) (h : Hp) : Ex 140 [aI p, aI n] h = some (.inl (some (aI 1)), h) := by
  refine (X_st (by decide +kernel) rfl).trans ((lf_140_0 ..).trans ?_)
  rw [x139_0 hp, cI_v, if_pos rfl]
def exN (r : Nat) : Nat := if r = 1 then 32 else if r = 2 then 30 else 31
theorem x142_r {w : Nat} {a : TS} {z : Hp} {r : Nat} (h1 : 1 ≤ r) (h3 : r ≤ 3) : Ex 142 [aI (Int32.ofNat r)] (enc w a z) = some (.inr (exN r), enc w (aC a 1 6) z) := by
  refine (X_st (by decide +kernel) rfl).trans ((lf_142_0 ..).trans ?_)
  rw [hC_enc]
  have : r = 1 ∨ r = 2 ∨ r = 3 := by omega
  rcases this with e | e | e <;> subst e <;> rfl
theorem x142_0 (h : Hp) : Ex 142 [aI 0] h = some (.inl none, h) := by
  refine (X_st (by decide +kernel) rfl).trans ((lf_142_0 ..).trans ?_)
  rfl
theorem pub_go {cm rf dm : Nat} {ca cb da : List AV} {a a' : TS} {v : Int32}
    (hl : ∀ z, Ex cm ca (enc 1 a z) = cI (Ex rf cb (enc 1 a z)) (fun x h1 => cV (Ex 142 [aI x] h1) (fun h3 => cI (Ex dm da h3) (fun x5 h4 => some (.inl (some (aI x5)), h4)) xT) xT) xT)
    (h0 : ∀ z, Ex rf cb (enc 1 a z) = some (.inl (some (aI 0)), enc 1 a z)) (h1 : ∀ z, Ex dm da (enc 1 a z) = some (.inl (some (aI v)), enc 1 a' z)) (z : Hp) : Ex cm ca (enc 1 a z) = some (.inl (some (aI v)), enc 1 a' z) := by
  rw [hl, h0, cI_v, x142_0, cV_v, h1, cI_v]
theorem pub_goZ {cm rf dm : Nat} {ca cb da : List AV} {a a' : TS} {v : Int32} (hv : bitOk v = true)
    (hl : ∀ z, Ex cm ca (enc 1 a z) = cI (Ex rf cb (enc 1 a z)) (fun x h1 => cV (Ex 142 [aI x] h1) (fun h3 => cI (Ex dm da h3) (fun x5 h4 => gz x5 (some (.inl (some (aI x5)), h4))) xT) xT) xT)
    (h0 : ∀ z, Ex rf cb (enc 1 a z) = some (.inl (some (aI 0)), enc 1 a z)) (h1 : ∀ z, Ex dm da (enc 1 a z) = some (.inl (some (aI v)), enc 1 a' z)) (z : Hp) : Ex cm ca (enc 1 a z) = some (.inl (some (aI v)), enc 1 a' z) := by
  rw [hl, h0, cI_v, x142_0, cV_v, h1, cI_v, gz_b hv]
theorem pub_no {cm rf : Nat} {ca cb : List AV} {a : TS} {r : Nat} {K : Int32 → Hp → Hp → Res} (h1 : 1 ≤ r) (h3 : r ≤ 3)
    (hl : ∀ z, Ex cm ca (enc 1 a z) = cI (Ex rf cb (enc 1 a z)) (fun x h1 => cV (Ex 142 [aI x] h1) (fun h3 => K x h1 h3) xT) xT)
    (h0 : ∀ z, Ex rf cb (enc 1 a z) = some (.inl (some (aI (Int32.ofNat r))), enc 1 a z)) (z : Hp) : Ex cm ca (enc 1 a z) = some (.inr (exN r), enc 1 (aC a 1 6) z) := by
  rw [hl, h0, cI_v, x142_r h1 h3]
  rfl
theorem in20000 {n : Nat} (h : n ≤ 20000) : inR (Int32.ofNat n) 0 20000 := inR_of (lo := 0) (hi := 20000) (Nat.zero_le _) h (by omega)
/-- the house is set -/
theorem oc_house {a b : TS} {C : Nat} (h : Core a b C) {p0 p1 : Int32} {n : Nat} (e0 : inR p0 0 20000) (e1 : inR p1 0 500) (n1 : 1 ≤ n) (n5 : n ≤ 5) :
    ∃ a' b', (∀ z, Ex 91 [aR (some (96, 0)), aI p0, aI p1, aI (Int32.ofNat n)] (enc 1 a z) = some (.inl (some (aI (tI b 97 0 7))), enc 1 a' z)) ∧ Core a' b' C ∧ Wr a a' ∧ chF [] [(31, 1), (96, 8), (25, 2)] a a' ∧ chF [] [(97, 7), (95, 3), (95, 2)] b b' ∧ tI b' 97 0 7 = p1 := by
  have hR := h.1.1
  have hFC := r_FC hR
  have x0 := x139_1 e0
  have x1 := x139_1 e1
  have x2 := x139_1 (inR_of (lo := 1) (hi := 5) n1 n5 (by omega))
  have h1 := core_house (p0 := p0) (p1 := p1) h n1 n5
  have efee : tI a 96 0 8 = tI b 97 0 7 := by
    obtain ⟨-, -, -, h10, -⟩ := r_H hR
    exact h10
  have o1 : Int32.ofNat 1 = 1 := rfl
  have o5 : Int32.ofNat 5 = 5 := rfl
  rw [o1, o5] at x2
  refine ⟨_, _, fun z => pub_go (rf := 92) (cb := [aR (some (96, 0)), aI p0, aI p1, aI (Int32.ofNat n)]) (dm := 93) (da := [aR (some (96, 0)), aI p0, aI p1, aI (Int32.ofNat n)]) (fun z => ?_) (fun z => ?_) (fun z => ?_) z, h1, ((Wr.rf _).cI _ _ _ _).cI _ _ _ _ |>.cI _ _ _ _, chF_I (by simp) (chF_I (by simp) (chF_I (by simp) (chF_r _ _ _))), chF_I (by simp) (chF_I (by simp) (chF_I (by simp) (chF_r _ _ _))), ?_⟩
  · refine (X_in (by decide +kernel) (fcN_96 hFC) rfl).trans ((lf_91_0 ..).trans ?_)
    rfl
  · refine (X_in (by decide +kernel) (fcN_96 hFC) rfl).trans ((lf_92_0 ..).trans ?_)
    simp (config := {decide := true}) only [gfI_enc, gfL_enc, gfR_enc, pfI_enc, pfL_enc, pfR_enc, Option.bind_some, cI_v, cL_v, cF_v, cD_v, cR_v, cV_v, cI_x, cL_x, cR_x, cV_x, gz_0, gz_1, acc_enc, tI_sI, tL_sI, tR_sI, tN_sI, tZ_sI, tC_sI, tc_sI, tz_sI, tI_sL, tL_sL, tR_sL, tN_sL, tZ_sL, tC_sL, tc_sL, tz_sL, tI_sR, tL_sR, tR_sR, tN_sR, tZ_sR, tC_sR, tc_sR, tz_sR, tI_sZ, tL_sZ, tR_sZ, tN_sZ, tZ_sZ, tC_sZ, tc_sZ, tz_sZ, tI_sC, tL_sC, tR_sC, tN_sC, tZ_sC, tC_sC, tc_sC, tz_sC, tI_aC, tL_aC, tR_aC, tN_aC, tZ_aC, tC_aC, tc_aC, tz_aC, tI_rmL, tL_rmL, tR_rmL, tN_rmL, tZ_rmL, tC_rmL, tc_rmL, tz_rmL, tI_mk, tL_mk, tR_mk, tN_mk, tZ_mk, tC_mk, tc_mk, tz_mk, tI_pushL, tL_pushL, tR_pushL, tN_pushL, tZ_pushL, tC_pushL, tc_pushL, tz_pushL, tI_pushB, tL_pushB, tR_pushB, tN_pushB, tZ_pushB, tC_pushB, tc_pushB, tz_pushB, tI_cpL, tL_cpL, tR_cpL, tN_cpL, tZ_cpL, tC_cpL, tc_cpL, tz_cpL, eq_self, true_and, and_true, false_and, and_false, if_true, if_false, reduceIte, ite_true, ite_false, not_true_eq_false, not_false_eq_true, x0, x1, x2]
  · refine (X_in (by decide +kernel) (fcN_96 hFC) rfl).trans ((lf_93_0 ..).trans ?_)
    simp (config := {decide := true}) only [gfI_enc, gfL_enc, gfR_enc, pfI_enc, pfL_enc, pfR_enc, Option.bind_some, cI_v, cL_v, cF_v, cD_v, cR_v, cV_v, cI_x, cL_x, cR_x, cV_x, gz_0, gz_1, acc_enc, tI_sI, tL_sI, tR_sI, tN_sI, tZ_sI, tC_sI, tc_sI, tz_sI, tI_sL, tL_sL, tR_sL, tN_sL, tZ_sL, tC_sL, tc_sL, tz_sL, tI_sR, tL_sR, tR_sR, tN_sR, tZ_sR, tC_sR, tc_sR, tz_sR, tI_sZ, tL_sZ, tR_sZ, tN_sZ, tZ_sZ, tC_sZ, tc_sZ, tz_sZ, tI_sC, tL_sC, tR_sC, tN_sC, tZ_sC, tC_sC, tc_sC, tz_sC, tI_aC, tL_aC, tR_aC, tN_aC, tZ_aC, tC_aC, tc_aC, tz_aC, tI_rmL, tL_rmL, tR_rmL, tN_rmL, tZ_rmL, tC_rmL, tc_rmL, tz_rmL, tI_mk, tL_mk, tR_mk, tN_mk, tZ_mk, tC_mk, tc_mk, tz_mk, tI_pushL, tL_pushL, tR_pushL, tN_pushL, tZ_pushL, tC_pushL, tc_pushL, tz_pushL, tI_pushB, tL_pushB, tR_pushB, tN_pushB, tZ_pushB, tC_pushB, tc_pushB, tz_pushB, tI_cpL, tL_cpL, tR_cpL, tN_cpL, tZ_cpL, tC_cpL, tc_cpL, tz_cpL, eq_self, true_and, and_true, false_and, and_false, if_true, if_false, reduceIte, ite_true, ite_false, not_true_eq_false, not_false_eq_true, fcN_96 hFC, fcR_96_7 hFC, fcN_31 hFC, fcR_96_1 hFC, fcN_25 hFC, efee]
  · rw [tI_sI, if_neg (fun q => absurd q.1 (by decide)), tI_sI, if_neg (fun q => absurd q.1 (by decide)), tI_sI, if_pos ⟨rfl, rfl, rfl⟩]
/-- a card of the class's list -/
theorem card_at {a b : TS} (hR : R0 a b) {k : Nat} (hk : k < tZ a 28 0) : tR a 28 0 k = some (37, k) ∧ k < tN a 37 ∧ tZ a 28 0 ≤ 8 := by
  obtain ⟨C1, C2, ⟨C3, C4, C5⟩, C6, C7⟩ := r_C hR
  exact ⟨(C7 k hk).1, by omega, C1⟩
theorem acct_at {a b : TS} (hR : R0 a b) {k : Nat} (hk : k < tZ a 26 0) : tR a 26 0 k = some (35, k) ∧ k < tN a 35 ∧ tZ a 26 0 ≤ 8 := by
  obtain ⟨B1, B2, B3, B4, B5, -⟩ := r_B hR
  exact ⟨(B5 k hk).1, by omega, B1⟩
theorem paym_at {a b : TS} (hR : R0 a b) {k : Nat} (hk : k < tZ a 29 0) : tR a 29 0 k = some (38, k) ∧ k < tN a 38 ∧ tZ a 29 0 ≤ 200 := by
  obtain ⟨P1, P2, P3, P4, P5, P6, P7⟩ := r_P' hR
  exact ⟨(P5 k hk).1, by omega, P1⟩
theorem bcF_pos : ∀ v ∈ [0, 2, 4, 6, 8, 10, 12, (14 : Int32)], (1 : Int32) ≤ bcF (v ||| 2) ∧ (1 : Int32) ≤ bcF (v ||| 4) ∧ (1 : Int32) ≤ bcF (v ||| 8) := by decide
/-- a card is told something -/
theorem oc_tells {a b : TS} {C cd n : Nat} (h : Core a b C) (hcd : cd < tZ a 28 0) (n1 : 1 ≤ n) (n3 : n ≤ 3) :
    ∃ v a' b', (∀ z, Ex 113 [aR (some (96, 0)), aI (Int32.ofNat cd), aI (Int32.ofNat n)] (enc 1 a z) = some (.inl (some (aI v)), enc 1 a' z)) ∧ (1 : Int32) ≤ v ∧ Core a' b' C ∧ Wr a a' ∧ chF [] [(37, 13)] a a' ∧ chF [57] [] b b' := by
  have hR := h.1.1
  have hFC := r_FC hR
  have h8 := (r_C hR).1
  have x0 := x139_1 (inR_mk (k := cd) hcd (by omega))
  have x1 := x139_1 (inR_of (lo := 1) (hi := 3) n1 n3 (by omega))
  have o1 : Int32.ofNat 1 = 1 := rfl
  have o3 : Int32.ofNat 3 = 3 := rfl
  rw [o1, o3] at x1
  obtain ⟨c1, c2, c3⟩ := card_at hR hcd
  obtain ⟨f1, f2, f3, f4⟩ := (r_E hR).1 cd hcd
  have hm := and14 f4
  obtain ⟨c, hc, hv14, hp⟩ : ∃ c : Int32, (1 : Int32) <<< (Int32.ofNat n &&& 31) = c ∧ (tI b 57 0 cd ||| c) &&& 14 = tI b 57 0 cd ||| c ∧ (1 : Int32) ≤ bcF (tI b 57 0 cd ||| c) := by
    obtain ⟨-, t2, t4, t8⟩ := tell_all _ hm
    obtain ⟨u2, u4, u8⟩ := bcF_pos _ hm
    have : n = 1 ∨ n = 2 ∨ n = 3 := by omega
    rcases this with q | q | q <;> subst q
    · exact ⟨2, by decide, t2, u2⟩
    · exact ⟨4, by decide, t4, u4⟩
    · exact ⟨8, by decide, t8, u8⟩
  have h1 := core_tell h hcd hv14
  have f317 := x317 (tI b 57 0 cd ||| c)
  have g1 : (Int32.ofNat cd).toNatClampNeg = cd := o_ix (by omega)
  have g2 : ¬ Int32.ofNat cd < 0 := o_lt0 (by omega)
  refine ⟨bcF (tI b 57 0 cd ||| c), sI a 37 cd 13 (tI b 57 0 cd ||| c), sI b 57 0 cd (tI b 57 0 cd ||| c), fun z => pub_go (rf := 114) (cb := [aR (some (96, 0)), aI (Int32.ofNat cd), aI (Int32.ofNat n)]) (dm := 115) (da := [aR (some (96, 0)), aI (Int32.ofNat cd), aI (Int32.ofNat n)]) (fun z => ?_) (fun z => ?_) (fun z => ?_) z, hp, h1, (Wr.rf _).cI _ _ _ _, chF_I (by simp) (chF_r _ _ _), chF_I (by simp) (chF_r _ _ _)⟩
  · refine (X_in (by decide +kernel) (fcN_96 hFC) rfl).trans ((lf_113_0 ..).trans ?_)
    rfl
  · refine (X_in (by decide +kernel) (fcN_96 hFC) rfl).trans ((lf_114_0 ..).trans ?_)
    simp (config := {decide := true}) only [gfI_enc, gfL_enc, gfR_enc, pfI_enc, pfL_enc, pfR_enc, Option.bind_some, cI_v, cL_v, cF_v, cD_v, cR_v, cV_v, cI_x, cL_x, cR_x, cV_x, gz_0, gz_1, acc_enc, tI_sI, tL_sI, tR_sI, tN_sI, tZ_sI, tC_sI, tc_sI, tz_sI, tI_sL, tL_sL, tR_sL, tN_sL, tZ_sL, tC_sL, tc_sL, tz_sL, tI_sR, tL_sR, tR_sR, tN_sR, tZ_sR, tC_sR, tc_sR, tz_sR, tI_sZ, tL_sZ, tR_sZ, tN_sZ, tZ_sZ, tC_sZ, tc_sZ, tz_sZ, tI_sC, tL_sC, tR_sC, tN_sC, tZ_sC, tC_sC, tc_sC, tz_sC, tI_aC, tL_aC, tR_aC, tN_aC, tZ_aC, tC_aC, tc_aC, tz_aC, tI_rmL, tL_rmL, tR_rmL, tN_rmL, tZ_rmL, tC_rmL, tc_rmL, tz_rmL, tI_mk, tL_mk, tR_mk, tN_mk, tZ_mk, tC_mk, tc_mk, tz_mk, tI_pushL, tL_pushL, tR_pushL, tN_pushL, tZ_pushL, tC_pushL, tc_pushL, tz_pushL, tI_pushB, tL_pushB, tR_pushB, tN_pushB, tZ_pushB, tC_pushB, tc_pushB, tz_pushB, tI_cpL, tL_cpL, tR_cpL, tN_cpL, tZ_cpL, tC_cpL, tc_cpL, tz_cpL, eq_self, true_and, and_true, false_and, and_false, if_true, if_false, reduceIte, ite_true, ite_false, not_true_eq_false, not_false_eq_true, fcN_96 hFC, fcR_96_4 hFC, X405, fcN_28 hFC, x0, x1]
  · refine (X_in (by decide +kernel) (fcN_96 hFC) rfl).trans ((lf_115_0 ..).trans ?_)
    simp (config := {decide := true}) only [gfI_enc, gfL_enc, gfR_enc, pfI_enc, pfL_enc, pfR_enc, Option.bind_some, cI_v, cL_v, cF_v, cD_v, cR_v, cV_v, cI_x, cL_x, cR_x, cV_x, gz_0, gz_1, acc_enc, tI_sI, tL_sI, tR_sI, tN_sI, tZ_sI, tC_sI, tc_sI, tz_sI, tI_sL, tL_sL, tR_sL, tN_sL, tZ_sL, tC_sL, tc_sL, tz_sL, tI_sR, tL_sR, tR_sR, tN_sR, tZ_sR, tC_sR, tc_sR, tz_sR, tI_sZ, tL_sZ, tR_sZ, tN_sZ, tZ_sZ, tC_sZ, tc_sZ, tz_sZ, tI_sC, tL_sC, tR_sC, tN_sC, tZ_sC, tC_sC, tc_sC, tz_sC, tI_aC, tL_aC, tR_aC, tN_aC, tZ_aC, tC_aC, tc_aC, tz_aC, tI_rmL, tL_rmL, tR_rmL, tN_rmL, tZ_rmL, tC_rmL, tc_rmL, tz_rmL, tI_mk, tL_mk, tR_mk, tN_mk, tZ_mk, tC_mk, tc_mk, tz_mk, tI_pushL, tL_pushL, tR_pushL, tN_pushL, tZ_pushL, tC_pushL, tc_pushL, tz_pushL, tI_pushB, tL_pushB, tR_pushB, tN_pushB, tZ_pushB, tC_pushB, tc_pushB, tz_pushB, tI_cpL, tL_cpL, tR_cpL, tN_cpL, tZ_cpL, tC_cpL, tc_cpL, tz_cpL, eq_self, true_and, and_true, false_and, and_false, if_true, if_false, reduceIte, ite_true, ite_false, not_true_eq_false, not_false_eq_true, fcN_96 hFC, fcR_96_4 hFC, X402, fcN_28 hFC, g1, g2, hcd, c1, acc_enc, c2, f3, hc, f317]
/-- a card is stolen -/
theorem oc_stolen {a b : TS} {C cd : Nat} (h : Core a b C) (hcd : cd < tZ a 28 0) :
    ∃ v a' b', (∀ z, Ex 116 [aR (some (96, 0)), aI (Int32.ofNat cd)] (enc 1 a z) = some (.inl (some (aI v)), enc 1 a' z)) ∧ bitOk v = true ∧ Core a' b' C ∧ Wr a a' ∧ chF [] [(37, 12)] a a' ∧ chF [58] [] b b' := by
  have hR := h.1.1
  have hFC := r_FC hR
  have h8 := (r_C hR).1
  have x0 := x140_1 (inR_mk (k := cd) hcd (by omega))
  obtain ⟨c1, c2, c3⟩ := card_at hR hcd
  obtain ⟨f1, f2, f3, f4⟩ := (r_E hR).1 cd hcd
  have h1 := core_stolen h hcd
  have g1 : (Int32.ofNat cd).toNatClampNeg = cd := o_ix (by omega)
  have g2 : ¬ Int32.ofNat cd < 0 := o_lt0 (by omega)
  have gz1 : ∀ r, gz (tI b 58 0 cd) r = r := fun r => gz_b f2
  refine ⟨tI b 58 0 cd, sI a 37 cd 12 1, sI b 58 0 cd 1, fun z => pub_goZ f2 (rf := 140) (cb := [aI (Int32.ofNat cd), aI (Int32.ofNat (tZ a 28 0))]) (dm := 117) (da := [aR (some (96, 0)), aI (Int32.ofNat cd)]) (fun z => ?_) (fun z => x0 _) (fun z => ?_) z, f2, h1, (Wr.rf _).cI _ _ _ _, chF_I (by simp) (chF_r _ _ _), chF_I (by simp) (chF_r _ _ _)⟩
  · refine (X_in (by decide +kernel) (fcN_96 hFC) rfl).trans ((lf_116_0 ..).trans ?_)
    simp (config := {decide := true}) only [gfI_enc, gfL_enc, gfR_enc, pfI_enc, pfL_enc, pfR_enc, Option.bind_some, cI_v, cL_v, cF_v, cD_v, cR_v, cV_v, cI_x, cL_x, cR_x, cV_x, gz_0, gz_1, acc_enc, tI_sI, tL_sI, tR_sI, tN_sI, tZ_sI, tC_sI, tc_sI, tz_sI, tI_sL, tL_sL, tR_sL, tN_sL, tZ_sL, tC_sL, tc_sL, tz_sL, tI_sR, tL_sR, tR_sR, tN_sR, tZ_sR, tC_sR, tc_sR, tz_sR, tI_sZ, tL_sZ, tR_sZ, tN_sZ, tZ_sZ, tC_sZ, tc_sZ, tz_sZ, tI_sC, tL_sC, tR_sC, tN_sC, tZ_sC, tC_sC, tc_sC, tz_sC, tI_aC, tL_aC, tR_aC, tN_aC, tZ_aC, tC_aC, tc_aC, tz_aC, tI_rmL, tL_rmL, tR_rmL, tN_rmL, tZ_rmL, tC_rmL, tc_rmL, tz_rmL, tI_mk, tL_mk, tR_mk, tN_mk, tZ_mk, tC_mk, tc_mk, tz_mk, tI_pushL, tL_pushL, tR_pushL, tN_pushL, tZ_pushL, tC_pushL, tc_pushL, tz_pushL, tI_pushB, tL_pushB, tR_pushB, tN_pushB, tZ_pushB, tC_pushB, tc_pushB, tz_pushB, tI_cpL, tL_cpL, tR_cpL, tN_cpL, tZ_cpL, tC_cpL, tc_cpL, tz_cpL, eq_self, true_and, and_true, false_and, and_false, if_true, if_false, reduceIte, ite_true, ite_false, not_true_eq_false, not_false_eq_true, fcN_96 hFC, fcR_96_4 hFC, X405, fcN_28 hFC]
  · refine (X_in (by decide +kernel) (fcN_96 hFC) rfl).trans ((lf_117_0 ..).trans ?_)
    simp (config := {decide := true}) only [gfI_enc, gfL_enc, gfR_enc, pfI_enc, pfL_enc, pfR_enc, Option.bind_some, cI_v, cL_v, cF_v, cD_v, cR_v, cV_v, cI_x, cL_x, cR_x, cV_x, gz_0, gz_1, acc_enc, tI_sI, tL_sI, tR_sI, tN_sI, tZ_sI, tC_sI, tc_sI, tz_sI, tI_sL, tL_sL, tR_sL, tN_sL, tZ_sL, tC_sL, tc_sL, tz_sL, tI_sR, tL_sR, tR_sR, tN_sR, tZ_sR, tC_sR, tc_sR, tz_sR, tI_sZ, tL_sZ, tR_sZ, tN_sZ, tZ_sZ, tC_sZ, tc_sZ, tz_sZ, tI_sC, tL_sC, tR_sC, tN_sC, tZ_sC, tC_sC, tc_sC, tz_sC, tI_aC, tL_aC, tR_aC, tN_aC, tZ_aC, tC_aC, tc_aC, tz_aC, tI_rmL, tL_rmL, tR_rmL, tN_rmL, tZ_rmL, tC_rmL, tc_rmL, tz_rmL, tI_mk, tL_mk, tR_mk, tN_mk, tZ_mk, tC_mk, tc_mk, tz_mk, tI_pushL, tL_pushL, tR_pushL, tN_pushL, tZ_pushL, tC_pushL, tc_pushL, tz_pushL, tI_pushB, tL_pushB, tR_pushB, tN_pushB, tZ_pushB, tC_pushB, tc_pushB, tz_pushB, tI_cpL, tL_cpL, tR_cpL, tN_cpL, tZ_cpL, tC_cpL, tc_cpL, tz_cpL, eq_self, true_and, and_true, false_and, and_false, if_true, if_false, reduceIte, ite_true, ite_false, not_true_eq_false, not_false_eq_true, fcN_96 hFC, fcR_96_4 hFC, X402, fcN_28 hFC, g1, g2, hcd, c1, acc_enc, c2, f1, gz1]
/-- an account is frozen, or free -/
theorem oc_freeze {a b : TS} {C t : Nat} (h : Core a b C) (ht : t < tZ a 26 0) {w : Int32} (hw : bitOk w = true) :
    ∃ v a' b', (∀ z, Ex 118 [aR (some (96, 0)), aI (Int32.ofNat t), aI w] (enc 1 a z) = some (.inl (some (aI v)), enc 1 a' z)) ∧ bitOk v = true ∧ Core a' b' C ∧ Wr a a' ∧ chF [] [(35, 2)] a a' ∧ chF [47] [] b b' := by
  have hR := h.1.1
  have hFC := r_FC hR
  have h8 := (r_B hR).1
  have x0 := x140_1 (inR_mk (k := t) ht (by omega))
  obtain ⟨c1, c2, c3⟩ := acct_at hR ht
  obtain ⟨B1, B2, B3, B4, B5, -⟩ := r_B hR
  obtain ⟨-, -, -, f4, f5⟩ := B5 t ht
  have h1 := core_frozen h ht hw
  have g1 : (Int32.ofNat t).toNatClampNeg = t := o_ix (by omega)
  have g2 : ¬ Int32.ofNat t < 0 := o_lt0 (by omega)
  have gz1 : ∀ r, gz (tI b 47 0 t) r = r := fun r => gz_b f5
  have gzv : ∀ r, gz w r = r := fun r => gz_b hw
  refine ⟨tI b 47 0 t, sI a 35 t 2 w, sI b 47 0 t w, fun z => pub_goZ f5 (rf := 140) (cb := [aI (Int32.ofNat t), aI (Int32.ofNat (tZ a 26 0))]) (dm := 119) (da := [aR (some (96, 0)), aI (Int32.ofNat t), aI w]) (fun z => ?_) (fun z => x0 _) (fun z => ?_) z, f5, h1, (Wr.rf _).cI _ _ _ _, chF_I (by simp) (chF_r _ _ _), chF_I (by simp) (chF_r _ _ _)⟩
  · refine (X_in (by decide +kernel) (fcN_96 hFC) rfl).trans ((lf_118_0 ..).trans ?_)
    simp (config := {decide := true}) only [gfI_enc, gfL_enc, gfR_enc, pfI_enc, pfL_enc, pfR_enc, Option.bind_some, cI_v, cL_v, cF_v, cD_v, cR_v, cV_v, cI_x, cL_x, cR_x, cV_x, gz_0, gz_1, acc_enc, tI_sI, tL_sI, tR_sI, tN_sI, tZ_sI, tC_sI, tc_sI, tz_sI, tI_sL, tL_sL, tR_sL, tN_sL, tZ_sL, tC_sL, tc_sL, tz_sL, tI_sR, tL_sR, tR_sR, tN_sR, tZ_sR, tC_sR, tc_sR, tz_sR, tI_sZ, tL_sZ, tR_sZ, tN_sZ, tZ_sZ, tC_sZ, tc_sZ, tz_sZ, tI_sC, tL_sC, tR_sC, tN_sC, tZ_sC, tC_sC, tc_sC, tz_sC, tI_aC, tL_aC, tR_aC, tN_aC, tZ_aC, tC_aC, tc_aC, tz_aC, tI_rmL, tL_rmL, tR_rmL, tN_rmL, tZ_rmL, tC_rmL, tc_rmL, tz_rmL, tI_mk, tL_mk, tR_mk, tN_mk, tZ_mk, tC_mk, tc_mk, tz_mk, tI_pushL, tL_pushL, tR_pushL, tN_pushL, tZ_pushL, tC_pushL, tc_pushL, tz_pushL, tI_pushB, tL_pushB, tR_pushB, tN_pushB, tZ_pushB, tC_pushB, tc_pushB, tz_pushB, tI_cpL, tL_cpL, tR_cpL, tN_cpL, tZ_cpL, tC_cpL, tc_cpL, tz_cpL, eq_self, true_and, and_true, false_and, and_false, if_true, if_false, reduceIte, ite_true, ite_false, not_true_eq_false, not_false_eq_true, gzv, fcN_96 hFC, fcR_96_2 hFC, X405, fcN_26 hFC]
  · refine (X_in (by decide +kernel) (fcN_96 hFC) rfl).trans ((lf_119_0 ..).trans ?_)
    simp (config := {decide := true}) only [gfI_enc, gfL_enc, gfR_enc, pfI_enc, pfL_enc, pfR_enc, Option.bind_some, cI_v, cL_v, cF_v, cD_v, cR_v, cV_v, cI_x, cL_x, cR_x, cV_x, gz_0, gz_1, acc_enc, tI_sI, tL_sI, tR_sI, tN_sI, tZ_sI, tC_sI, tc_sI, tz_sI, tI_sL, tL_sL, tR_sL, tN_sL, tZ_sL, tC_sL, tc_sL, tz_sL, tI_sR, tL_sR, tR_sR, tN_sR, tZ_sR, tC_sR, tc_sR, tz_sR, tI_sZ, tL_sZ, tR_sZ, tN_sZ, tZ_sZ, tC_sZ, tc_sZ, tz_sZ, tI_sC, tL_sC, tR_sC, tN_sC, tZ_sC, tC_sC, tc_sC, tz_sC, tI_aC, tL_aC, tR_aC, tN_aC, tZ_aC, tC_aC, tc_aC, tz_aC, tI_rmL, tL_rmL, tR_rmL, tN_rmL, tZ_rmL, tC_rmL, tc_rmL, tz_rmL, tI_mk, tL_mk, tR_mk, tN_mk, tZ_mk, tC_mk, tc_mk, tz_mk, tI_pushL, tL_pushL, tR_pushL, tN_pushL, tZ_pushL, tC_pushL, tc_pushL, tz_pushL, tI_pushB, tL_pushB, tR_pushB, tN_pushB, tZ_pushB, tC_pushB, tc_pushB, tz_pushB, tI_cpL, tL_cpL, tR_cpL, tN_cpL, tZ_cpL, tC_cpL, tc_cpL, tz_cpL, eq_self, true_and, and_true, false_and, and_false, if_true, if_false, reduceIte, ite_true, ite_false, not_true_eq_false, not_false_eq_true, fcN_96 hFC, fcR_96_2 hFC, X402, fcN_26 hFC, g1, g2, ht, c1, acc_enc, c2, f4, gz1, gzv]
