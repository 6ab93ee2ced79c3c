/-! ===== the class's public methods: refused by an exception, or done ===== -/
def exN (r : Nat) : Nat := if r = 1 then 32 else if r = 2 then 30 else 31
theorem xT_v (e : Nat) (h : Hp) : xT e h = some (.inr e, h) := rfl
theorem x142_r {w : Nat} {a : TS} {z : Hp} {r : Nat} (h1 : 1 ≤ r) (h3 : r ≤ 3) : Ex 142 [aI (Int32.ofNat r)] (enc w a z) = some (.inr (exN r), enc w (aC a 1 6) z) := by
  refine (X_st (by decide +kernel) rfl).trans ((lf_142_0 ..).trans ?_)
  rw [hC_enc]
  have : r = 1 ∨ r = 2 ∨ r = 3 := by omega
  rcases this with e | e | e <;> subst e <;> rfl
theorem x142_0 (h : Hp) : Ex 142 [aI 0] h = some (.inl none, h) := by
  refine (X_st (by decide +kernel) rfl).trans ((lf_142_0 ..).trans ?_)
  rfl
/-- what a public method and the reference's say, of any type -/
def PubR {α : Type} (mv : α → AV) (cm : Nat) (ca : List AV) (rm : Nat) (ra : List AV) (kf : Nat → Nat) (a b : TS) (C C' : Nat) : Prop :=
  (∃ r v b', 1 ≤ r ∧ r ≤ 3 ∧ kf (r + 10) ≠ 99 ∧ (∀ z, Ex cm ca (enc 1 a z) = some (.inr (exN r), enc 1 (aC a 1 6) z)) ∧ (∀ z, Ex rm ra (enc 2 b z) = some (.inl (some (mv v)), enc 2 b' z)) ∧ tI b' 97 0 8 = Int32.ofNat (kf r) ∧ Core a b' C ∧ Wr b b' ∧ sam txB b b') ∨
  (∃ v a' b', (∀ z, Ex cm ca (enc 1 a z) = some (.inl (some (mv v)), enc 1 a' z)) ∧ (∀ z, Ex rm ra (enc 2 b z) = some (.inl (some (mv v)), enc 2 b' z)) ∧ tI b' 97 0 8 = 0 ∧ Core a' b' C' ∧ Wr a a' ∧ Wr b b' ∧ sam txA a a' ∧ sam txB b b')
theorem pub_op {cm rf dm rm : Nat} {ca cb da ra : List AV} {kf : Nat → Nat} {a b : TS} {C C' : Nat} (hop : OpR rf cb dm da rm ra kf a b C C') (hok : ∀ r, 1 ≤ r → r ≤ 3 → (∀ z, Ex rf cb (enc 1 a z) = some (.inl (some (aI (Int32.ofNat r))), enc 1 a z)) → kf (r + 10) ≠ 99)
    (hl : ∀ z, Ex cm ca (enc 1 a z) = cI (Ex rf cb (enc 1 a z)) (fun x h1 => cV (Ex 142 [aI x] h1) (fun h3 => cI (Ex dm da h3) (fun x5 h4 => some (.inl (some (aI x5)), h4)) xT) xT) xT) : PubR aI cm ca rm ra kf a b C C' := by
  rcases hop with ⟨r, b', r1, r3, hx, hy, hk, hc, hw, hs⟩ | ⟨v, a', b', hx0, hx, hy, hk, hc, hw, hw', hs, hs'⟩
  · exact Or.inl ⟨r, 0, b', r1, r3, hok r r1 r3 hx, fun z => by rw [hl, hx, cI_v, x142_r r1 r3]; rfl, hy, hk, hc, hw, hs⟩
  · exact Or.inr ⟨v, a', b', fun z => by rw [hl, hx0, cI_v, x142_0, cV_v, hx, cI_v], hy, hk, hc, hw, hw', hs, hs'⟩
theorem pub_opZ {cm rf dm rm : Nat} {ca cb da ra : List AV} {kf : Nat → Nat} {a b : TS} {C C' : Nat} (hop : OpR rf cb dm da rm ra kf a b C C') (hok : ∀ r, 1 ≤ r → r ≤ 3 → (∀ z, Ex rf cb (enc 1 a z) = some (.inl (some (aI (Int32.ofNat r))), enc 1 a z)) → kf (r + 10) ≠ 99) (hb : (∀ z, Ex rf cb (enc 1 a z) = some (.inl (some (aI 0)), enc 1 a z)) → ∀ v a', (∀ z, Ex dm da (enc 1 a z) = some (.inl (some (aI v)), enc 1 a' z)) → bitOk v = true)
    (hl : ∀ z, Ex cm ca (enc 1 a z) = cI (Ex rf cb (enc 1 a z)) (fun x h1 => cV (Ex 142 [aI x] h1) (fun h3 => cI (Ex dm da h3) (fun x5 h4 => gz x5 (some (.inl (some (aI x5)), h4))) xT) xT) xT) : PubR aI cm ca rm ra kf a b C C' := by
  rcases hop with ⟨r, b', r1, r3, hx, hy, hk, hc, hw, hs⟩ | ⟨v, a', b', hx0, hx, hy, hk, hc, hw, hw', hs, hs'⟩
  · exact Or.inl ⟨r, 0, b', r1, r3, hok r r1 r3 hx, fun z => by rw [hl, hx, cI_v, x142_r r1 r3]; rfl, hy, hk, hc, hw, hs⟩
  · exact Or.inr ⟨v, a', b', fun z => by rw [hl, hx0, cI_v, x142_0, cV_v, hx, cI_v, gz_b (hb hx0 v a' hx)], hy, hk, hc, hw, hw', hs, hs'⟩
theorem pub_ne {cm dm rm : Nat} {ca da ra : List AV} {kf : Nat → Nat} {a b : TS} {C C' : Nat} (h : Dne dm da rm ra a b C') (hl : ∀ z, Ex cm ca (enc 1 a z) = cI (Ex dm da (enc 1 a z)) (fun x5 h4 => some (.inl (some (aI x5)), h4)) xT) : PubR aI cm ca rm ra kf a b C C' := by
  obtain ⟨v, a', b', hx, hy, h1⟩ := h
  exact Or.inr ⟨v, a', b', fun z => by rw [hl, hx, cI_v], hy, h1⟩
section
variable {a b : TS} {C : Nat}
theorem pu_account (h : Core a b C) (p : Int32) : PubR aI 82 [aR (some (96, 0)), aI p] 262 [aR (some (97, 0)), aI p] k23 a b C C := pub_op (OpR_kf (op_account h p) kf23) (fun _ r1 r3 hx => ok23 r1 r3 (ex_val (P := fun w => w ≠ 1) hx (m83 (r_FC h.1.1) p))) (fun z => by refine (X_in (by decide +kernel) (fcN_96 (r_FC h.1.1)) rfl).trans ((lf_82_0 ..).trans ?_); rfl)
theorem pu_shop (h : Core a b C) (p q : Int32) : PubR aI 85 [aR (some (96, 0)), aI p, aI q] 263 [aR (some (97, 0)), aI p, aI q] k23 a b C C := pub_op (OpR_kf (op_shop h p q) kf23) (fun _ r1 r3 hx => ok23 r1 r3 (ex_val (P := fun w => w ≠ 1) hx (m86 (r_FC h.1.1) p q))) (fun z => by refine (X_in (by decide +kernel) (fcN_96 (r_FC h.1.1)) rfl).trans ((lf_85_0 ..).trans ?_); rfl)
theorem pu_card (h : Core a b C) (p q r s : Int32) : PubR aI 88 [aR (some (96, 0)), aI p, aI q, aI r, aI s] 264 [aR (some (97, 0)), aI p, aI q, aI r, aI s] k123 a b C C := pub_op (OpR_kf (op_card h p q r s) (fun _ _ _ => rfl)) (fun r _ r3 _ => show r + 10 ≠ 99 by omega) (fun z => by refine (X_in (by decide +kernel) (fcN_96 (r_FC h.1.1)) rfl).trans ((lf_88_0 ..).trans ?_); rfl)
theorem pu_house (h : Core a b C) (p q r : Int32) : PubR aI 91 [aR (some (96, 0)), aI p, aI q, aI r] 265 [aR (some (97, 0)), aI p, aI q, aI r] k2 a b C C := pub_op (OpR_kf (op_house h p q r) kf2) (fun _ r1 r3 hx => ok2 r1 r3 (ex_val (P := fun w => w ≠ 1 ∧ w ≠ 3) hx (m92 (r_FC h.1.1) p q r))) (fun z => by refine (X_in (by decide +kernel) (fcN_96 (r_FC h.1.1)) rfl).trans ((lf_91_0 ..).trans ?_); rfl)
theorem pu_pay (h : Core a b C) (p q r s : Int32) : PubR aI 94 [aR (some (96, 0)), aI p, aI q, aI r, aI s] 266 [aR (some (97, 0)), aI p, aI q, aI r, aI s] k12 a b C C := pub_op (OpR_kf (op_pay h p q r s) kf12) (fun _ r1 r3 hx => ok12 r1 r3 (ex_val (P := fun w => w ≠ 3) hx (m95 (r_FC h.1.1) p q r s))) (fun z => by refine (X_in (by decide +kernel) (fcN_96 (r_FC h.1.1)) rfl).trans ((lf_94_0 ..).trans ?_); rfl)
theorem pu_sends (h : Core a b C) (p : Int32) : PubR aI 97 [aR (some (96, 0)), aI p] 267 [aR (some (97, 0)), aI p] k1 a b C C := pub_op (OpR_kf (op_sends h p) kf1) (fun _ r1 r3 hx => ok1 r1 r3 (ex_val (P := fun w => w ≠ 2 ∧ w ≠ 3) hx (m140 p _))) (fun z => by
  have hF := r_FC h.1.1
  refine (X_in (by decide +kernel) (fcN_96 hF) rfl).trans ((lf_97_0 ..).trans ?_)
  simp (config := {decide := true}) only [gfI_enc, gfL_enc, gfR_enc, pfI_enc, pfL_enc, pfR_enc, Option.bind_some, cI_v, cL_v, cF_v, cD_v, cR_v, cV_v, cI_x, cL_x, cR_x, cV_x, gz_0, gz_1, acc_enc, tI_sI, tL_sI, tR_sI, tN_sI, tZ_sI, tC_sI, tc_sI, tz_sI, tI_sL, tL_sL, tR_sL, tN_sL, tZ_sL, tC_sL, tc_sL, tz_sL, tI_sR, tL_sR, tR_sR, tN_sR, tZ_sR, tC_sR, tc_sR, tz_sR, tI_sZ, tL_sZ, tR_sZ, tN_sZ, tZ_sZ, tC_sZ, tc_sZ, tz_sZ, tI_sC, tL_sC, tR_sC, tN_sC, tZ_sC, tC_sC, tc_sC, tz_sC, tI_aC, tL_aC, tR_aC, tN_aC, tZ_aC, tC_aC, tc_aC, tz_aC, tI_rmL, tL_rmL, tR_rmL, tN_rmL, tZ_rmL, tC_rmL, tc_rmL, tz_rmL, tI_mk, tL_mk, tR_mk, tN_mk, tZ_mk, tC_mk, tc_mk, tz_mk, tI_pushL, tL_pushL, tR_pushL, tN_pushL, tZ_pushL, tC_pushL, tc_pushL, tz_pushL, tI_pushB, tL_pushB, tR_pushB, tN_pushB, tZ_pushB, tC_pushB, tc_pushB, tz_pushB, tI_cpL, tL_cpL, tR_cpL, tN_cpL, tZ_cpL, tC_cpL, tc_cpL, tz_cpL, eq_self, true_and, and_true, false_and, and_false, if_true, if_false, reduceIte, ite_true, ite_false, not_true_eq_false, not_false_eq_true, fcN_96 hF, fcR_96_3 hF, X405, fcN_27 hF])
theorem pu_back (h : Core a b C) (p q r : Int32) : PubR aI 99 [aR (some (96, 0)), aI p, aI q, aI r] 268 [aR (some (97, 0)), aI p, aI q, aI r] k123 a b C C := pub_op (OpR_kf (op_back h p q r) (fun _ _ _ => rfl)) (fun r _ r3 _ => show r + 10 ≠ 99 by omega) (fun z => by refine (X_in (by decide +kernel) (fcN_96 (r_FC h.1.1)) rfl).trans ((lf_99_0 ..).trans ?_); rfl)
theorem pu_forge (h : Core a b C) (hC : C + 1 ≤ 512) (p q r : Int32) : PubR aI 102 [aR (some (96, 0)), aI p, aI q, aI r] 269 [aR (some (97, 0)), aI p, aI q, aI r] k12 a b C (C + 1) := by
  have hF := r_FC h.1.1
  rcases op_forge h hC p q r with ⟨r', b', r1, r3, hx, hy, hk, hc, hw, hs⟩ | ⟨v, a', b', hx0, hx, hy, hk, hc, hw, hw', hs, hs'⟩
  · refine Or.inl ⟨r', 0, b', r1, r3, ok12 r1 r3 (ex_val (P := fun w => w ≠ 3) hx (m103 hF p q r)), fun z => ?_, hy, by rw [kf12 r' r1 r3]; exact hk, hc, hw, hs⟩
    refine (X_in (by decide +kernel) (fcN_96 hF) rfl).trans ((lf_102_0 ..).trans ?_)
    rw [hx, cI_v, x142_r r1 r3]
    rfl
  · exact Or.inr ⟨v, a', b', hx, hy, hk, hc, hw, hw', hs, hs'⟩
theorem pu_passes (h : Core a b C) (p : Int32) : PubR aI 104 [aR (some (96, 0)), aI p] 271 [aR (some (97, 0)), aI p] k23 a b C C := pub_op (OpR_kf (op_passes h p) kf23) (fun _ r1 r3 hx => ok23 r1 r3 (ex_val (P := fun w => w ≠ 1) hx (m105 (r_FC h.1.1) p))) (fun z => by refine (X_in (by decide +kernel) (fcN_96 (r_FC h.1.1)) rfl).trans ((lf_104_0 ..).trans ?_); rfl)
theorem pu_faults (h : Core a b C) (hC : C + 1 ≤ 512) (p q r s : Int32) : PubR aI 108 [aR (some (96, 0)), aI p, aI q, aI r, aI s] 272 [aR (some (97, 0)), aI p, aI q, aI r, aI s] k12 a b C (C + 1) := pub_op (OpR_kf (op_faults h hC p q r s) kf12) (fun _ r1 r3 hx => ok12 r1 r3 (ex_val (P := fun w => w ≠ 3) hx (m109 (r_FC h.1.1) p q r s))) (fun z => by refine (X_in (by decide +kernel) (fcN_96 (r_FC h.1.1)) rfl).trans ((lf_108_0 ..).trans ?_); rfl)
theorem pu_open (h : Core a b C) (v : Int32) (hv : bitOk v = true) : PubR aI 111 [aR (some (96, 0)), aI v] 273 [aR (some (97, 0)), aI v] k0 a b C C := pub_ne (op_open h v hv) (fun z => by refine (X_in (by decide +kernel) (fcN_96 (r_FC h.1.1)) rfl).trans ((lf_111_0 ..).trans ?_); rfl)
theorem pu_tells (h : Core a b C) (p q : Int32) : PubR aI 113 [aR (some (96, 0)), aI p, aI q] 274 [aR (some (97, 0)), aI p, aI q] k12 a b C C := pub_op (OpR_kf (op_tells h p q) kf12) (fun _ r1 r3 hx => ok12 r1 r3 (ex_val (P := fun w => w ≠ 3) hx (m114 (r_FC h.1.1) p q))) (fun z => by refine (X_in (by decide +kernel) (fcN_96 (r_FC h.1.1)) rfl).trans ((lf_113_0 ..).trans ?_); rfl)
theorem pu_dispute (h : Core a b C) (p : Int32) : PubR aI 120 [aR (some (96, 0)), aI p] 277 [aR (some (97, 0)), aI p] (fun r => if r = 1 then 1 else 2) a b C C := pub_op (op_dispute h p) (fun r _ _ _ => show (if r + 10 = 1 then 1 else 2) ≠ 99 by split <;> decide) (fun z => by refine (X_in (by decide +kernel) (fcN_96 (r_FC h.1.1)) rfl).trans ((lf_120_0 ..).trans ?_); rfl)
theorem pu_endDay (h : Core a b C) : PubR aI 123 [aR (some (96, 0))] 278 [aR (some (97, 0))] k0 a b C C := pub_ne (op_endDay h) (fun z => by refine (X_in (by decide +kernel) (fcN_96 (r_FC h.1.1)) rfl).trans ((lf_123_0 ..).trans ?_); rfl)
theorem pu_stolen (h : Core a b C) (p : Int32) : PubR aI 116 [aR (some (96, 0)), aI p] 275 [aR (some (97, 0)), aI p] k1 a b C C := by
  have hR := h.1.1
  have hF := r_FC hR
  refine pub_opZ (OpR_kf (op_stolen h p) kf1) (fun _ r1 r3 hx => ok1 r1 r3 (ex_val (P := fun w => w ≠ 2 ∧ w ≠ 3) hx (m140 p _))) (fun h0 v a' hv => ?_) (fun z => ?_)
  · by_cases e0 : inR p 0 (Int32.ofNat (tZ a 28 0) - 1)
    · obtain ⟨cd, hcd, e⟩ := inR_ex e0 (by have := (r_C hR).1; omega)
      subst e
      obtain ⟨c1, c2, c3⟩ := card_at hR hcd
      obtain ⟨f1, f2, f3, f4⟩ := (r_E hR).1 cd hcd
      have g1 : (Int32.ofNat cd).toNatClampNeg = cd := o_ix (by omega)
      have g2 : ¬ Int32.ofNat cd < 0 := o_lt0 (by omega)
      have gz1 : ∀ r, gz (tI b 58 0 cd) r = r := fun r => gz_b f2
      have hz : ∀ z, Ex 117 [aR (some (96, 0)), aI (Int32.ofNat cd)] (enc 1 a z) = some (.inl (some (aI (tI b 58 0 cd))), enc 1 (sI a 37 cd 12 1) z) := fun z => by
        refine (X_in (by decide +kernel) (fcN_96 hF) rfl).trans ((lf_117_0 ..).trans ?_)
        simp (config := {decide := true}) only [gfI_enc, gfL_enc, gfR_enc, pfI_enc, pfL_enc, pfR_enc, Option.bind_some, cI_v, cL_v, cF_v, cD_v, cR_v, cV_v, cI_x, cL_x, cR_x, cV_x, gz_0, gz_1, acc_enc, tI_sI, tL_sI, tR_sI, tN_sI, tZ_sI, tC_sI, tc_sI, tz_sI, tI_sL, tL_sL, tR_sL, tN_sL, tZ_sL, tC_sL, tc_sL, tz_sL, tI_sR, tL_sR, tR_sR, tN_sR, tZ_sR, tC_sR, tc_sR, tz_sR, tI_sZ, tL_sZ, tR_sZ, tN_sZ, tZ_sZ, tC_sZ, tc_sZ, tz_sZ, tI_sC, tL_sC, tR_sC, tN_sC, tZ_sC, tC_sC, tc_sC, tz_sC, tI_aC, tL_aC, tR_aC, tN_aC, tZ_aC, tC_aC, tc_aC, tz_aC, tI_rmL, tL_rmL, tR_rmL, tN_rmL, tZ_rmL, tC_rmL, tc_rmL, tz_rmL, tI_mk, tL_mk, tR_mk, tN_mk, tZ_mk, tC_mk, tc_mk, tz_mk, tI_pushL, tL_pushL, tR_pushL, tN_pushL, tZ_pushL, tC_pushL, tc_pushL, tz_pushL, tI_pushB, tL_pushB, tR_pushB, tN_pushB, tZ_pushB, tC_pushB, tc_pushB, tz_pushB, tI_cpL, tL_cpL, tR_cpL, tN_cpL, tZ_cpL, tC_cpL, tc_cpL, tz_cpL, eq_self, true_and, and_true, false_and, and_false, if_true, if_false, reduceIte, ite_true, ite_false, not_true_eq_false, not_false_eq_true, fcN_96 hF, fcR_96_4 hF, X402, fcN_28 hF, g1, g2, hcd, c1, acc_enc, c2, f1, gz1]
      have e1 := (hz (fun _ => [], 0, 0)).symm.trans (hv (fun _ => [], 0, 0))
      have e2 : tI b 58 0 cd = v := by
        have := congrArg (fun r : Res => match r with | some (.inl (some (.inl x)), _) => x | _ => 0) e1
        exact this
      rw [← e2]
      exact f2
    · have := (x140_0 e0 (enc 1 a (fun _ => [], 0, 0))).symm.trans (h0 (fun _ => [], 0, 0))
      have := congrArg (fun r : Res => match r with | some (.inl (some (.inl x)), _) => x | _ => 0) this
      have this : (1 : Int32) = 0 := this
      exact absurd this (by decide)
  · refine (X_in (by decide +kernel) (fcN_96 hF) rfl).trans ((lf_116_0 ..).trans ?_)
    simp (config := {decide := true}) only [gfI_enc, gfL_enc, gfR_enc, pfI_enc, pfL_enc, pfR_enc, Option.bind_some, cI_v, cL_v, cF_v, cD_v, cR_v, cV_v, cI_x, cL_x, cR_x, cV_x, gz_0, gz_1, acc_enc, tI_sI, tL_sI, tR_sI, tN_sI, tZ_sI, tC_sI, tc_sI, tz_sI, tI_sL, tL_sL, tR_sL, tN_sL, tZ_sL, tC_sL, tc_sL, tz_sL, tI_sR, tL_sR, tR_sR, tN_sR, tZ_sR, tC_sR, tc_sR, tz_sR, tI_sZ, tL_sZ, tR_sZ, tN_sZ, tZ_sZ, tC_sZ, tc_sZ, tz_sZ, tI_sC, tL_sC, tR_sC, tN_sC, tZ_sC, tC_sC, tc_sC, tz_sC, tI_aC, tL_aC, tR_aC, tN_aC, tZ_aC, tC_aC, tc_aC, tz_aC, tI_rmL, tL_rmL, tR_rmL, tN_rmL, tZ_rmL, tC_rmL, tc_rmL, tz_rmL, tI_mk, tL_mk, tR_mk, tN_mk, tZ_mk, tC_mk, tc_mk, tz_mk, tI_pushL, tL_pushL, tR_pushL, tN_pushL, tZ_pushL, tC_pushL, tc_pushL, tz_pushL, tI_pushB, tL_pushB, tR_pushB, tN_pushB, tZ_pushB, tC_pushB, tc_pushB, tz_pushB, tI_cpL, tL_cpL, tR_cpL, tN_cpL, tZ_cpL, tC_cpL, tc_cpL, tz_cpL, eq_self, true_and, and_true, false_and, and_false, if_true, if_false, reduceIte, ite_true, ite_false, not_true_eq_false, not_false_eq_true, fcN_96 hF, fcR_96_4 hF, X405, fcN_28 hF]
theorem pu_freeze (h : Core a b C) (p w : Int32) (hw : bitOk w = true) : PubR aI 118 [aR (some (96, 0)), aI p, aI w] 276 [aR (some (97, 0)), aI p, aI w] k1 a b C C := by
  have hR := h.1.1
  have hF := r_FC hR
  have gzv : ∀ r, gz w r = r := fun r => gz_b hw
  refine pub_opZ (OpR_kf (op_freeze h p w hw) kf1) (fun _ r1 r3 hx => ok1 r1 r3 (ex_val (P := fun w => w ≠ 2 ∧ w ≠ 3) hx (m140 p _))) (fun h0 v a' hv => ?_) (fun z => ?_)
  · by_cases e0 : inR p 0 (Int32.ofNat (tZ a 26 0) - 1)
    · obtain ⟨t, ht, e⟩ := inR_ex e0 (by have := (r_B hR).1; omega)
      subst e
      obtain ⟨c1, c2, c3⟩ := acct_at hR ht
      obtain ⟨B1, B2, B3, B4, B5, -⟩ := r_B hR
      obtain ⟨-, -, -, f4, f5⟩ := B5 t ht
      have g1 : (Int32.ofNat t).toNatClampNeg = t := o_ix (by omega)
      have g2 : ¬ Int32.ofNat t < 0 := o_lt0 (by omega)
      have gz1 : ∀ r, gz (tI b 47 0 t) r = r := fun r => gz_b f5
      have hz : ∀ z, Ex 119 [aR (some (96, 0)), aI (Int32.ofNat t), aI w] (enc 1 a z) = some (.inl (some (aI (tI b 47 0 t))), enc 1 (sI a 35 t 2 w) z) := fun z => by
        refine (X_in (by decide +kernel) (fcN_96 hF) rfl).trans ((lf_119_0 ..).trans ?_)
        simp (config := {decide := true}) only [gfI_enc, gfL_enc, gfR_enc, pfI_enc, pfL_enc, pfR_enc, Option.bind_some, cI_v, cL_v, cF_v, cD_v, cR_v, cV_v, cI_x, cL_x, cR_x, cV_x, gz_0, gz_1, acc_enc, tI_sI, tL_sI, tR_sI, tN_sI, tZ_sI, tC_sI, tc_sI, tz_sI, tI_sL, tL_sL, tR_sL, tN_sL, tZ_sL, tC_sL, tc_sL, tz_sL, tI_sR, tL_sR, tR_sR, tN_sR, tZ_sR, tC_sR, tc_sR, tz_sR, tI_sZ, tL_sZ, tR_sZ, tN_sZ, tZ_sZ, tC_sZ, tc_sZ, tz_sZ, tI_sC, tL_sC, tR_sC, tN_sC, tZ_sC, tC_sC, tc_sC, tz_sC, tI_aC, tL_aC, tR_aC, tN_aC, tZ_aC, tC_aC, tc_aC, tz_aC, tI_rmL, tL_rmL, tR_rmL, tN_rmL, tZ_rmL, tC_rmL, tc_rmL, tz_rmL, tI_mk, tL_mk, tR_mk, tN_mk, tZ_mk, tC_mk, tc_mk, tz_mk, tI_pushL, tL_pushL, tR_pushL, tN_pushL, tZ_pushL, tC_pushL, tc_pushL, tz_pushL, tI_pushB, tL_pushB, tR_pushB, tN_pushB, tZ_pushB, tC_pushB, tc_pushB, tz_pushB, tI_cpL, tL_cpL, tR_cpL, tN_cpL, tZ_cpL, tC_cpL, tc_cpL, tz_cpL, eq_self, true_and, and_true, false_and, and_false, if_true, if_false, reduceIte, ite_true, ite_false, not_true_eq_false, not_false_eq_true, fcN_96 hF, fcR_96_2 hF, X402, fcN_26 hF, g1, g2, ht, c1, acc_enc, c2, f4, gz1, gzv]
      have e1 := (hz (fun _ => [], 0, 0)).symm.trans (hv (fun _ => [], 0, 0))
      have e2 : tI b 47 0 t = v := by
        have := congrArg (fun r : Res => match r with | some (.inl (some (.inl x)), _) => x | _ => 0) e1
        exact this
      rw [← e2]
      exact f5
    · have := (x140_0 e0 (enc 1 a (fun _ => [], 0, 0))).symm.trans (h0 (fun _ => [], 0, 0))
      have := congrArg (fun r : Res => match r with | some (.inl (some (.inl x)), _) => x | _ => 0) this
      have this : (1 : Int32) = 0 := this
      exact absurd this (by decide)
  · refine (X_in (by decide +kernel) (fcN_96 hF) rfl).trans ((lf_118_0 ..).trans ?_)
    simp (config := {decide := true}) only [gfI_enc, gfL_enc, gfR_enc, pfI_enc, pfL_enc, pfR_enc, Option.bind_some, cI_v, cL_v, cF_v, cD_v, cR_v, cV_v, cI_x, cL_x, cR_x, cV_x, gz_0, gz_1, acc_enc, tI_sI, tL_sI, tR_sI, tN_sI, tZ_sI, tC_sI, tc_sI, tz_sI, tI_sL, tL_sL, tR_sL, tN_sL, tZ_sL, tC_sL, tc_sL, tz_sL, tI_sR, tL_sR, tR_sR, tN_sR, tZ_sR, tC_sR, tc_sR, tz_sR, tI_sZ, tL_sZ, tR_sZ, tN_sZ, tZ_sZ, tC_sZ, tc_sZ, tz_sZ, tI_sC, tL_sC, tR_sC, tN_sC, tZ_sC, tC_sC, tc_sC, tz_sC, tI_aC, tL_aC, tR_aC, tN_aC, tZ_aC, tC_aC, tc_aC, tz_aC, tI_rmL, tL_rmL, tR_rmL, tN_rmL, tZ_rmL, tC_rmL, tc_rmL, tz_rmL, tI_mk, tL_mk, tR_mk, tN_mk, tZ_mk, tC_mk, tc_mk, tz_mk, tI_pushL, tL_pushL, tR_pushL, tN_pushL, tZ_pushL, tC_pushL, tc_pushL, tz_pushL, tI_pushB, tL_pushB, tR_pushB, tN_pushB, tZ_pushB, tC_pushB, tc_pushB, tz_pushB, tI_cpL, tL_cpL, tR_cpL, tN_cpL, tZ_cpL, tC_cpL, tc_cpL, tz_cpL, eq_self, true_and, and_true, false_and, and_false, if_true, if_false, reduceIte, ite_true, ite_false, not_true_eq_false, not_false_eq_true, fcN_96 hF, fcR_96_2 hF, X405, fcN_26 hF]
end
