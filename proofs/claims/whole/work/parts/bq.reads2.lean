theorem o_50 (n : Nat) : (5 : Int32) * Int32.ofNat n = Int32.ofNat (5 * n) := (Int32.ofNat_mul 5 n).symm
theorem EnC_s {b b' : TS} {K : Nat} {e : Nat × List Int32} (h : EnC b K e) (hl : e.2.length ≤ 4) (hm : ∀ m, m < 5 * (K + 1) → tI b' 85 0 m = tI b 85 0 m) : EnC b' K e := by
  obtain ⟨h1, h2⟩ := h
  exact ⟨(hm _ (by omega)).trans h1, fun j hj => (hm _ (by omega)).trans (h2 j hj)⟩
theorem vs_4 {g : Nat → Nat} {L p c q : Nat} {vs : List Int32} (hp : p ≤ L) (h : rdC g L p = .inr (c, vs, q)) : vs.length ≤ 4 := by
  obtain ⟨h1, -, -, -, h5⟩ := rdC_b hp h
  rw [h5]
  split
  · omega
  · exact nN_le h1
theorem y221 {g : Nat → Nat} {L K p : Nat} {b : TS} (h : SnB b g L) (hp : p ≤ L) (hT : TokR b g L p) (h10 : tI b 92 0 10 = Int32.ofNat K) (hK : 5 * K + 4 < 800) :
    (∀ f, rdC g L p = .inl f → ∃ b', (∀ z, Zk z → Ex 221 [aR (some (92, 0))] (enc 2 b z) = some (.inl (some (aI 0)), enc 2 b' z)) ∧ chF [85] FsB b b' ∧ Wr b b' ∧ tI b' 92 0 8 = Int32.ofNat f) ∧
    (∀ c vs q, rdC g L p = .inr (c, vs, q) → ∃ b', (∀ z, Zk z → Ex 221 [aR (some (92, 0))] (enc 2 b z) = some (.inl (some (aI 1)), enc 2 b' z)) ∧ chF [85] FsB b b' ∧ Wr b b' ∧ tI b' 92 0 8 = tI b 92 0 8 ∧ tI b' 92 0 10 = Int32.ofNat (K + 1) ∧ TokR b' g L q ∧ EnC b' K (c, vs) ∧ ∀ m, m < 5 * K → tI b' 85 0 m = tI b 85 0 m) := by
  have hF := h.1
  have L6 := h.2.1
  have t2 := tk_le g hp
  have t3 := eW_ge g L (tk g L p)
  have t4 := eW_le g t2
  have n10 : ¬ (1 : Int32) = 0 := by decide
  have f217 := fun z hz j hj => y217 (z := z) (j := j) h hT hp hz hj
  have l82 : ∀ z, len (enc 2 b z) (some (82, 0)) = some (Int32.ofNat 16) := fun z => by rw [len_enc (by decide +kernel) (by decide +kernel) (by decide +kernel) (frN_82 hF), frZ_82 hF]
  have a82 : ∀ z i, i < 16 → gaR (enc 2 b z) (some (82, 0)) (Int32.ofNat i) = some (some (0, 10 + (i + 1))) := fun z i hi => by
    have g1 : (Int32.ofNat i).toNatClampNeg = i := o_ix (by omega)
    rw [gaR_enc (by decide +kernel) (frN_82 hF) (o_lt0 (by omega)) (by rw [g1, frZ_82 hF]; exact hi), g1, (h.2.2.2.2 i hi).2]
  -- the words, one after another
  have no : ∀ k i, i + k = 16 → fnd g (tk g L p) (eW g L (tk g L p)) k i = none → ∀ z, Zk z → Ru 221 2 [(0, aR (some (92, 0))), (1, aI (Int32.ofNat i))] [] (enc 2 b z) = some (.inl (some (aI 0)), enc 2 (sI b 92 0 8 (Int32.ofNat (tk g L p))) z) := by
    intro k
    induction k with
    | zero =>
      intro i hi _ z hz
      have : i = 16 := by omega
      subst this
      have q : Int32.ofNat 16 ≤ Int32.ofNat 16 := Int32.le_refl _
      have f218 := fun z => y218 (z := z) h hT
      rw [lf_221_2]
      simp (config := {decide := true}) only [gfI_enc, gfL_enc, gfR_enc, pfI_enc, pfL_enc, pfR_enc, Option.bind_some, cI_v, cL_v, cF_v, cD_v, cR_v, cV_v, cI_x, cL_x, cR_x, cV_x, gz_0, gz_1, acc_enc, tI_sI, tL_sI, tR_sI, tN_sI, tZ_sI, tC_sI, tc_sI, tz_sI, tI_sL, tL_sL, tR_sL, tN_sL, tZ_sL, tC_sL, tc_sL, tz_sL, tI_sR, tL_sR, tR_sR, tN_sR, tZ_sR, tC_sR, tc_sR, tz_sR, tI_sZ, tL_sZ, tR_sZ, tN_sZ, tZ_sZ, tC_sZ, tc_sZ, tz_sZ, tI_sC, tL_sC, tR_sC, tN_sC, tZ_sC, tC_sC, tc_sC, tz_sC, tI_aC, tL_aC, tR_aC, tN_aC, tZ_aC, tC_aC, tc_aC, tz_aC, tI_rmL, tL_rmL, tR_rmL, tN_rmL, tZ_rmL, tC_rmL, tc_rmL, tz_rmL, tI_mk, tL_mk, tR_mk, tN_mk, tZ_mk, tC_mk, tc_mk, tz_mk, tI_pushL, tL_pushL, tR_pushL, tN_pushL, tZ_pushL, tC_pushL, tc_pushL, tz_pushL, tI_pushB, tL_pushB, tR_pushB, tN_pushB, tZ_pushB, tC_pushB, tc_pushB, tz_pushB, tI_cpL, tL_cpL, tR_cpL, tN_cpL, tZ_cpL, tC_cpL, tc_cpL, tz_cpL, eq_self, true_and, and_true, false_and, and_false, if_true, if_false, reduceIte, ite_true, ite_false, not_true_eq_false, not_false_eq_true, frN_92 hF, frR_92_0 hF, l82, q, f218]
    | succ k ih =>
      intro i hi hn z hz
      rw [fnd_s] at hn
      split at hn
      · cases hn
      · rename_i w
        have q : ¬ Int32.ofNat 16 ≤ Int32.ofNat i := by rw [o_le (by omega) (by omega)]; omega
        have f := f217 z hz (i + 1) (by omega)
        rw [if_neg w] at f
        have a := a82 z i (by omega)
        have hi2 := ih (i + 1) (by omega) hn z hz
        rw [lf_221_2]
        simp (config := {decide := true}) only [gfI_enc, gfL_enc, gfR_enc, pfI_enc, pfL_enc, pfR_enc, Option.bind_some, cI_v, cL_v, cF_v, cD_v, cR_v, cV_v, cI_x, cL_x, cR_x, cV_x, gz_0, gz_1, acc_enc, tI_sI, tL_sI, tR_sI, tN_sI, tZ_sI, tC_sI, tc_sI, tz_sI, tI_sL, tL_sL, tR_sL, tN_sL, tZ_sL, tC_sL, tc_sL, tz_sL, tI_sR, tL_sR, tR_sR, tN_sR, tZ_sR, tC_sR, tc_sR, tz_sR, tI_sZ, tL_sZ, tR_sZ, tN_sZ, tZ_sZ, tC_sZ, tc_sZ, tz_sZ, tI_sC, tL_sC, tR_sC, tN_sC, tZ_sC, tC_sC, tc_sC, tz_sC, tI_aC, tL_aC, tR_aC, tN_aC, tZ_aC, tC_aC, tc_aC, tz_aC, tI_rmL, tL_rmL, tR_rmL, tN_rmL, tZ_rmL, tC_rmL, tc_rmL, tz_rmL, tI_mk, tL_mk, tR_mk, tN_mk, tZ_mk, tC_mk, tc_mk, tz_mk, tI_pushL, tL_pushL, tR_pushL, tN_pushL, tZ_pushL, tC_pushL, tc_pushL, tz_pushL, tI_pushB, tL_pushB, tR_pushB, tN_pushB, tZ_pushB, tC_pushB, tc_pushB, tz_pushB, tI_cpL, tL_cpL, tR_cpL, tN_cpL, tZ_cpL, tC_cpL, tc_cpL, tz_cpL, eq_self, true_and, and_true, false_and, and_false, if_true, if_false, reduceIte, ite_true, ite_false, not_true_eq_false, not_false_eq_true, frN_92 hF, frR_92_0 hF, l82, q, a, f, o_s]
        exact hi2
  have yes : ∀ c b1, c < 16 → (∀ z, Ex 216 [aR (some (92, 0))] (enc 2 (sI b 85 0 (5 * K) (Int32.ofNat c)) z) = some (.inl none, enc 2 b1 z)) → ∀ k i, i + k = 16 → fnd g (tk g L p) (eW g L (tk g L p)) k i = some c → ∀ z, Zk z → Ru 221 2 [(0, aR (some (92, 0))), (1, aI (Int32.ofNat i))] [] (enc 2 b z) = Ru 221 62 [(0, aR (some (92, 0))), (1, aI (Int32.ofNat c)), (2, aI (Int32.ofNat (0 + 1)))] [] (enc 2 b1 z) := by
    intro c b1 hc hb1 k
    induction k with
    | zero =>
      intro i hi hn
      cases hn
    | succ k ih =>
      intro i hi hn z hz
      have q : ¬ Int32.ofNat 16 ≤ Int32.ofNat i := by rw [o_le (by omega) (by omega)]; omega
      have a := a82 z i (by omega)
      have f := f217 z hz (i + 1) (by omega)
      rw [fnd_s] at hn
      split at hn
      · rename_i w
        cases hn
        rw [if_pos w] at f
        have q2 : ¬ Int32.ofNat c = Int32.ofNat 16 := fun w => by
          have := o_inj (by omega) (by omega) w
          omega
        have g1 : (Int32.ofNat (5 * K)).toNatClampNeg = 5 * K := o_ix (by omega)
        have g2 : ¬ Int32.ofNat (5 * K) < 0 := o_lt0 (by omega)
        have g3 : 5 * K < 800 := by omega
        have o5 := o_50 K
        have o1 : Int32.ofNat (0 + 1) = 1 := rfl
        conv => lhs; rw [lf_221_2]
        simp (config := {decide := true}) only [gfI_enc, gfL_enc, gfR_enc, pfI_enc, pfL_enc, pfR_enc, Option.bind_some, cI_v, cL_v, cF_v, cD_v, cR_v, cV_v, cI_x, cL_x, cR_x, cV_x, gz_0, gz_1, acc_enc, tI_sI, tL_sI, tR_sI, tN_sI, tZ_sI, tC_sI, tc_sI, tz_sI, tI_sL, tL_sL, tR_sL, tN_sL, tZ_sL, tC_sL, tc_sL, tz_sL, tI_sR, tL_sR, tR_sR, tN_sR, tZ_sR, tC_sR, tc_sR, tz_sR, tI_sZ, tL_sZ, tR_sZ, tN_sZ, tZ_sZ, tC_sZ, tc_sZ, tz_sZ, tI_sC, tL_sC, tR_sC, tN_sC, tZ_sC, tC_sC, tc_sC, tz_sC, tI_aC, tL_aC, tR_aC, tN_aC, tZ_aC, tC_aC, tc_aC, tz_aC, tI_rmL, tL_rmL, tR_rmL, tN_rmL, tZ_rmL, tC_rmL, tc_rmL, tz_rmL, tI_mk, tL_mk, tR_mk, tN_mk, tZ_mk, tC_mk, tc_mk, tz_mk, tI_pushL, tL_pushL, tR_pushL, tN_pushL, tZ_pushL, tC_pushL, tc_pushL, tz_pushL, tI_pushB, tL_pushB, tR_pushB, tN_pushB, tZ_pushB, tC_pushB, tc_pushB, tz_pushB, tI_cpL, tL_cpL, tR_cpL, tN_cpL, tZ_cpL, tC_cpL, tc_cpL, tz_cpL, eq_self, true_and, and_true, false_and, and_false, if_true, if_false, reduceIte, ite_true, ite_false, not_true_eq_false, not_false_eq_true, frN_92 hF, frR_92_0 hF, l82, q, a, f, n10, q2, frR_92_9 hF, h10, o5, frN_85 hF, frZ_85 hF, paI_enc, g1, g2, g3, hb1, o1]
      · rename_i w
        rw [if_neg w] at f
        have hi2 := ih (i + 1) (by omega) hn z hz
        conv => lhs; rw [lf_221_2]
        simp (config := {decide := true}) only [gfI_enc, gfL_enc, gfR_enc, pfI_enc, pfL_enc, pfR_enc, Option.bind_some, cI_v, cL_v, cF_v, cD_v, cR_v, cV_v, cI_x, cL_x, cR_x, cV_x, gz_0, gz_1, acc_enc, tI_sI, tL_sI, tR_sI, tN_sI, tZ_sI, tC_sI, tc_sI, tz_sI, tI_sL, tL_sL, tR_sL, tN_sL, tZ_sL, tC_sL, tc_sL, tz_sL, tI_sR, tL_sR, tR_sR, tN_sR, tZ_sR, tC_sR, tc_sR, tz_sR, tI_sZ, tL_sZ, tR_sZ, tN_sZ, tZ_sZ, tC_sZ, tc_sZ, tz_sZ, tI_sC, tL_sC, tR_sC, tN_sC, tZ_sC, tC_sC, tc_sC, tz_sC, tI_aC, tL_aC, tR_aC, tN_aC, tZ_aC, tC_aC, tc_aC, tz_aC, tI_rmL, tL_rmL, tR_rmL, tN_rmL, tZ_rmL, tC_rmL, tc_rmL, tz_rmL, tI_mk, tL_mk, tR_mk, tN_mk, tZ_mk, tC_mk, tc_mk, tz_mk, tI_pushL, tL_pushL, tR_pushL, tN_pushL, tZ_pushL, tC_pushL, tc_pushL, tz_pushL, tI_pushB, tL_pushB, tR_pushB, tN_pushB, tZ_pushB, tC_pushB, tc_pushB, tz_pushB, tI_cpL, tL_cpL, tR_cpL, tN_cpL, tZ_cpL, tC_cpL, tc_cpL, tz_cpL, eq_self, true_and, and_true, false_and, and_false, if_true, if_false, reduceIte, ite_true, ite_false, not_true_eq_false, not_false_eq_true, frN_92 hF, frR_92_0 hF, l82, q, a, f, o_s]
        exact hi2
  cases hc : cmdO g L (tk g L p) with
  | none =>
    refine ⟨fun f hf => ?_, fun c vs q hq => ?_⟩
    · unfold rdC at hf
      rw [hc] at hf
      cases hf
      refine ⟨_, fun z hz => ?_, chF_92 (chF_r _ _ _) 8 (Int32.ofNat (tk g L p)) (by omega), (Wr.rf _).cI _ _ _ _, by rw [tI_sI, if_pos ⟨rfl, rfl, rfl⟩]⟩
      refine (X_in (by decide +kernel) (frN_92 hF) rfl).trans ((lf_221_0 ..).trans ?_)
      exact no 16 0 (by omega) hc z hz
    · unfold rdC at hq
      rw [hc] at hq
      cases hq
  | some c =>
    obtain ⟨c1, c2, c3⟩ := cmdO_b hc
    have wl := wd_3 (c := c + 1) (by omega)
    have hwd : tk g L p < L ∧ 97 ≤ g (tk g L p) ∧ g (tk g L p) ≤ 122 := Classical.byContradiction (fun q => by
      have e0 : eW g L (tk g L p) = tk g L p := rE_out q
      omega)
    obtain ⟨h5, h4⟩ := TokR_4 hT hwd.1 hwd.2
    have ca : chF [85] FsB b (sI b 85 0 (5 * K) (Int32.ofNat c)) := chF_85 (chF_r _ _ _) _ _
    have wa : Wr b (sI b 85 0 (5 * K) (Int32.ofNat c)) := (Wr.rf _).cI _ _ _ _
    have i92 : ∀ f, tI (sI b 85 0 (5 * K) (Int32.ofNat c)) 92 0 f = tI b 92 0 f := fun f => by rw [tI_sI, if_neg (fun w => absurd w.1 (by decide))]
    obtain ⟨b1, d1, d2, d3, d4⟩ := y216 (SnB_c h ca wa) t4 ((i92 4).trans h4)
    have cb1 : chF [85] FsB b b1 := chF_t ca (q2s d2)
    have wb1 : Wr b b1 := wa.t d3
    have hb1 := SnB_c h cb1 wb1
    have hF1 := hb1.1
    have i8 : tI b1 92 0 8 = tI b 92 0 8 := ((d2 92 (by simp)).1 0 8 (by decide)).trans (i92 8)
    have i10 : tI b1 92 0 10 = Int32.ofNat K := (((d2 92 (by simp)).1 0 10 (by decide)).trans (i92 10)).trans h10
    have i85 : ∀ m, tI b1 85 0 m = if m = 5 * K then Int32.ofNat c else tI b 85 0 m := fun m => by
      rw [(d2 85 (by simp)).1 0 m (by simp [FqB]), tI_sI]
      by_cases e : m = 5 * K
      · rw [if_pos ⟨rfl, rfl, e⟩, if_pos e]
      · rw [if_neg (fun w => e w.2.2), if_neg e]
    have hd : ∀ z, Zk z → Ex 221 [aR (some (92, 0))] (enc 2 b z) = Ru 221 62 [(0, aR (some (92, 0))), (1, aI (Int32.ofNat c)), (2, aI (Int32.ofNat (0 + 1)))] [] (enc 2 b1 z) := fun z hz => by
      refine (X_in (by decide +kernel) (frN_92 hF) rfl).trans ((lf_221_0 ..).trans ?_)
      exact yes c b1 c1 d1 16 0 (by omega) hc z hz
    obtain ⟨i1, i2⟩ := y221n c1 hK (nN c) 0 b1 _ hb1 t4 (by omega) d4 i10
    have n4 := nN_le c1
    cases hn : rdNs g L (nN c) (eW g L (tk g L p)) with
    | inl f' =>
      refine ⟨fun f hf => ?_, fun c' vs q hq => ?_⟩
      · unfold rdC at hf
        rw [hc] at hf
        dsimp only at hf
        rw [hn] at hf
        cases hf
        obtain ⟨b2, e1, e2, e3, e4⟩ := i1 _ hn
        exact ⟨b2, fun z hz => (hd z hz).trans (e1 z), chF_t cb1 e2, wb1.t e3, e4⟩
      · unfold rdC at hq
        rw [hc] at hq
        dsimp only at hq
        rw [hn] at hq
        cases hq
    | inr vr =>
      obtain ⟨vs0, q0⟩ := vr
      obtain ⟨b2, e1, e2, e3, e4, e5, e6, e7, e8⟩ := i2 _ _ hn
      obtain ⟨l1, l2, l3⟩ := rdNs_b _ _ _ _ t4 hn
      have cb2 := chF_t cb1 e2
      have wb2 := wb1.t e3
      have hb2 := SnB_c h cb2 wb2
      have hF2 := hb2.1
      have h83 := (hb2.2.2.2.2 c c1).1
      have g1 : (Int32.ofNat c).toNatClampNeg = c := o_ix (by omega)
      have g2 : ¬ Int32.ofNat c < 0 := o_lt0 (by omega)
      have nlt : Int32.ofNat (nN c) < Int32.ofNat (nN c + 1) := by rw [o_lt (by omega) (by omega)]; omega
      have j10 : tI b2 92 0 10 = Int32.ofNat K := e5.trans i10
      have keep : ∀ m, m < 5 * K → tI b2 85 0 m = tI b 85 0 m := fun m hm => by
        rw [e8 m (by omega), i85, if_neg (by omega)]
      have first : tI b2 85 0 (5 * K) = Int32.ofNat c := by rw [e8 _ (by omega), i85, if_pos rfl]
      have vals : ∀ j, j < nN c → tI b2 85 0 (5 * K + 1 + j) = vs0.getD j 0 := fun j hj => by
        have := e7 j hj
        rw [show 5 * K + 1 + 0 + j = 5 * K + 1 + j by omega] at this
        exact this
      by_cases c3 : c = 3
      · subst c3
        have ev3 : ∀ z, Ru 221 62 [(0, aR (some (92, 0))), (1, aI (Int32.ofNat 3)), (2, aI (Int32.ofNat (nN 3 + 1)))] [] (enc 2 b2 z) = cI (Ex 220 [aR (some (92, 0))] (enc 2 b2 z)) (fun x4 h3 => if x4 = 0 then some (.inl (some (aI (0 : Int32))), h3) else (gfI h3 (some (92, 0)) 18 5).bind (fun x5 => if x5 = (3 : Int32) then cV (Ex 216 [aR (some (92, 0))] h3) (fun h6 => (gfI h6 (some (92, 0)) 18 10).bind (fun x7 => (pf h6 (some (92, 0)) 18 10 (aI (x7 + (1 : Int32)))).bind (fun h8 => some (.inl (some (aI (1 : Int32))), h8)))) xT else cI (Ex 218 [aR (some (92, 0))] h3) (fun x10 h9 => gz x10 (some (.inl (some (aI x10)), h9))) xT)) xT := fun z => by
          have o3 : Int32.ofNat 3 = 3 := rfl
          rw [o3] at g1 g2
          rw [lf_221_62]
          have hlt : (3 : Nat) < 16 := by decide
          rw [o3]
          simp (config := {decide := true}) only [gfI_enc, gfL_enc, gfR_enc, pfI_enc, pfL_enc, pfR_enc, Option.bind_some, cI_v, cL_v, cF_v, cD_v, cR_v, cV_v, cI_x, cL_x, cR_x, cV_x, gz_0, gz_1, acc_enc, tI_sI, tL_sI, tR_sI, tN_sI, tZ_sI, tC_sI, tc_sI, tz_sI, tI_sL, tL_sL, tR_sL, tN_sL, tZ_sL, tC_sL, tc_sL, tz_sL, tI_sR, tL_sR, tR_sR, tN_sR, tZ_sR, tC_sR, tc_sR, tz_sR, tI_sZ, tL_sZ, tR_sZ, tN_sZ, tZ_sZ, tC_sZ, tc_sZ, tz_sZ, tI_sC, tL_sC, tR_sC, tN_sC, tZ_sC, tC_sC, tc_sC, tz_sC, tI_aC, tL_aC, tR_aC, tN_aC, tZ_aC, tC_aC, tc_aC, tz_aC, tI_rmL, tL_rmL, tR_rmL, tN_rmL, tZ_rmL, tC_rmL, tc_rmL, tz_rmL, tI_mk, tL_mk, tR_mk, tN_mk, tZ_mk, tC_mk, tc_mk, tz_mk, tI_pushL, tL_pushL, tR_pushL, tN_pushL, tZ_pushL, tC_pushL, tc_pushL, tz_pushL, tI_pushB, tL_pushB, tR_pushB, tN_pushB, tZ_pushB, tC_pushB, tc_pushB, tz_pushB, tI_cpL, tL_cpL, tR_cpL, tN_cpL, tZ_cpL, tC_cpL, tc_cpL, tz_cpL, eq_self, true_and, and_true, false_and, and_false, if_true, if_false, reduceIte, ite_true, ite_false, not_true_eq_false, not_false_eq_true, frN_92 hF2, frR_92_1 hF2, frN_83 hF2, frZ_83 hF2, gaI_enc, g1, g2, hlt, h83, nlt]
        cases hp3 : rdPin g L q0 with
        | none =>
          refine ⟨fun f hf => ?_, fun c' vs q hq => ?_⟩
          · unfold rdC at hf
            rw [hc] at hf
            dsimp only at hf
            rw [hn] at hf
            dsimp only at hf
            rw [if_pos rfl, hp3] at hf
            cases hf
            refine ⟨_, fun z hz => ((hd z hz).trans (e1 z)).trans ?_, chF_92 cb2 8 (Int32.ofNat (tk g L q0)) (by omega), wb2.cI _ _ _ _, by rw [tI_sI, if_pos ⟨rfl, rfl, rfl⟩]⟩
            rw [ev3, y220_f hb2 e6 l2 hp3 z hz, cI_v, if_pos rfl]
          · unfold rdC at hq
            rw [hc] at hq
            dsimp only at hq
            rw [hn] at hq
            dsimp only at hq
            rw [if_pos rfl, hp3] at hq
            cases hq
        | some vq =>
          obtain ⟨v, q1⟩ := vq
          obtain ⟨p1, p2⟩ := rdPin_b l2 hp3
          obtain ⟨b3, r1, r2, r3, r4, r5, r6, r7⟩ := y220_r hb2 e6 l2 j10 hK hp3
          have cb3 := chF_t cb2 r2
          have wb3 := wb2.t r3
          have hb3 := SnB_c h cb3 wb3
          have hF3 := hb3.1
          obtain ⟨w1, w2⟩ := y221e hb3 p2 r6 (r5.trans j10)
          have go : ∀ z, Zk z → ∀ {R : Res}, (if tI b3 92 0 5 = 3 then cV (Ex 216 [aR (some (92, 0))] (enc 2 b3 z)) (fun h6 => (gfI h6 (some (92, 0)) 18 10).bind (fun x7 => (pf h6 (some (92, 0)) 18 10 (aI (x7 + 1))).bind (fun h8 => some (.inl (some (aI 1)), h8)))) xT else cI (Ex 218 [aR (some (92, 0))] (enc 2 b3 z)) (fun x10 h9 => gz x10 (some (.inl (some (aI x10)), h9))) xT) = R → Ex 221 [aR (some (92, 0))] (enc 2 b z) = R := fun z hz {R} hR => by
            refine ((hd z hz).trans (e1 z)).trans ?_
            have e5' : gfI (enc 2 b3 z) (some (92, 0)) 18 5 = some (tI b3 92 0 5) := gfI_enc (by decide +kernel) (frN_92 hF3)
            rw [ev3, r1 z hz, cI_v, if_neg n10, e5', Option.bind_some]
            exact hR
          cases he : rdE g L q1 with
          | inl f' =>
            refine ⟨fun f hf => ?_, fun c' vs q hq => ?_⟩
            · unfold rdC at hf
              rw [hc] at hf
              dsimp only at hf
              rw [hn] at hf
              dsimp only at hf
              rw [if_pos rfl, hp3] at hf
              dsimp only at hf
              rw [he] at hf
              cases hf
              exact ⟨_, fun z hz => go z hz (w1 _ he z), chF_92 cb3 8 _ (by omega), wb3.cI _ _ _ _, by rw [tI_sI, if_pos ⟨rfl, rfl, rfl⟩]⟩
            · unfold rdC at hq
              rw [hc] at hq
              dsimp only at hq
              rw [hn] at hq
              dsimp only at hq
              rw [if_pos rfl, hp3] at hq
              dsimp only at hq
              rw [he] at hq
              cases hq
          | inr r' =>
            refine ⟨fun f hf => ?_, fun c' vs q hq => ?_⟩
            · unfold rdC at hf
              rw [hc] at hf
              dsimp only at hf
              rw [hn] at hf
              dsimp only at hf
              rw [if_pos rfl, hp3] at hf
              dsimp only at hf
              rw [he] at hf
              cases hf
            · unfold rdC at hq
              rw [hc] at hq
              dsimp only at hq
              rw [hn] at hq
              dsimp only at hq
              rw [if_pos rfl, hp3] at hq
              dsimp only at hq
              rw [he] at hq
              cases hq
              obtain ⟨b4, s1, s2, s3, s4, s5, s6, s7⟩ := w2 _ he
              refine ⟨b4, fun z hz => go z hz (s1 z), chF_t cb3 s2, wb3.t s3, ((s4.trans r4).trans e4).trans i8, s5, s6, ⟨?_, fun j hj => ?_⟩, fun m hm => ?_⟩
              · rw [s7, r7, if_neg (by omega)]
                exact first
              · have b3' : vs0.length = 3 := l3
                have hj : j < (vs0 ++ [v]).length := hj
                rw [List.length_append, b3'] at hj
                have hj : j < 3 + 1 := hj
                show tI b4 85 0 (5 * K + 1 + j) = (vs0 ++ [v]).getD j 0
                rw [s7, r7]
                by_cases ej : j = 3
                · subst ej
                  rw [if_pos (by omega), List.getD_eq_getElem?_getD, List.getElem?_append_right (by omega), b3']
                  rfl
                · rw [if_neg (by omega), List.getD_eq_getElem?_getD, List.getElem?_append_left (by omega), ← List.getD_eq_getElem?_getD]
                  exact vals j (by rw [show nN 3 = 3 from by decide]; omega)
              · rw [s7, r7, if_neg (by omega)]
                exact keep m hm
      · have n3' : ¬ Int32.ofNat c = 3 := fun w => c3 (o_inj (by omega) (by omega) (show Int32.ofNat c = Int32.ofNat 3 from w))
        obtain ⟨w1, w2⟩ := y221e hb2 l2 e6 j10
        have go : ∀ z, Zk z → ∀ {R : Res}, (if tI b2 92 0 5 = 3 then cV (Ex 216 [aR (some (92, 0))] (enc 2 b2 z)) (fun h6 => (gfI h6 (some (92, 0)) 18 10).bind (fun x7 => (pf h6 (some (92, 0)) 18 10 (aI (x7 + 1))).bind (fun h8 => some (.inl (some (aI 1)), h8)))) xT else cI (Ex 218 [aR (some (92, 0))] (enc 2 b2 z)) (fun x10 h9 => gz x10 (some (.inl (some (aI x10)), h9))) xT) = R → Ex 221 [aR (some (92, 0))] (enc 2 b z) = R := fun z hz {R} hR => by
          refine ((hd z hz).trans (e1 z)).trans ?_
          have e5' : gfI (enc 2 b2 z) (some (92, 0)) 18 5 = some (tI b2 92 0 5) := gfI_enc (by decide +kernel) (frN_92 hF2)
          have e6' : gfR (enc 2 b2 z) (some (92, 0)) 18 1 = some (some (83, 0)) := by rw [gfR_enc (by decide +kernel) (frN_92 hF2), frR_92_1 hF2]
          have e7' : gaI (enc 2 b2 z) (some (83, 0)) 1000 (Int32.ofNat c) = some (Int32.ofNat (nN c)) := by rw [gaI_enc (by decide +kernel) (frN_83 hF2) g2 (by rw [g1, frZ_83 hF2]; exact c1), g1, h83]
          rw [lf_221_62, e6', Option.bind_some, e7', Option.bind_some, if_pos nlt, if_neg n3', e5', Option.bind_some]
          exact hR
        cases he : rdE g L q0 with
        | inl f' =>
          refine ⟨fun f hf => ?_, fun c' vs q hq => ?_⟩
          · unfold rdC at hf
            rw [hc] at hf
            dsimp only at hf
            rw [hn] at hf
            dsimp only at hf
            rw [if_neg c3, he] at hf
            cases hf
            exact ⟨_, fun z hz => go z hz (w1 _ he z), chF_92 cb2 8 _ (by omega), wb2.cI _ _ _ _, by rw [tI_sI, if_pos ⟨rfl, rfl, rfl⟩]⟩
          · unfold rdC at hq
            rw [hc] at hq
            dsimp only at hq
            rw [hn] at hq
            dsimp only at hq
            rw [if_neg c3, he] at hq
            cases hq
        | inr r' =>
          refine ⟨fun f hf => ?_, fun c' vs q hq => ?_⟩
          · unfold rdC at hf
            rw [hc] at hf
            dsimp only at hf
            rw [hn] at hf
            dsimp only at hf
            rw [if_neg c3, he] at hf
            cases hf
          · unfold rdC at hq
            rw [hc] at hq
            dsimp only at hq
            rw [hn] at hq
            dsimp only at hq
            rw [if_neg c3, he] at hq
            cases hq
            obtain ⟨b4, s1, s2, s3, s4, s5, s6, s7⟩ := w2 _ he
            refine ⟨b4, fun z hz => go z hz (s1 z), chF_t cb2 s2, wb2.t s3, (s4.trans e4).trans i8, s5, s6, ⟨?_, fun j hj => ?_⟩, fun m hm => ?_⟩
            · rw [s7]
              exact first
            · rw [s7]
              exact vals j (by have hj : j < vs0.length := hj; omega)
            · rw [s7]
              exact keep m hm
