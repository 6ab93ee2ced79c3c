/-! ===== what holds between calls ===== -/
/-- some sites stand as they were -/
def sam0 (l : List Nat) (a a' : TS) : Prop := ∀ s, s ∈ l → (∀ i k, tI a' s i k = tI a s i k) ∧ (∀ i k, tR a' s i k = tR a s i k) ∧ tN a' s = tN a s ∧ (∀ i, tZ a' s i = tZ a s i) ∧ ∀ i, tC a' s i = tC a s i
theorem sam0_r (l : List Nat) (a : TS) : sam0 l a a := fun _ _ => ⟨fun _ _ => rfl, fun _ _ => rfl, rfl, fun _ => rfl, fun _ => rfl⟩
theorem sam0_t {l : List Nat} {a b c : TS} (h1 : sam0 l a b) (h2 : sam0 l b c) : sam0 l a c := fun s hs => by
  obtain ⟨x1, x2, x3, x4, x5⟩ := h1 s hs
  obtain ⟨y1, y2, y3, y4, y5⟩ := h2 s hs
  exact ⟨fun i k => (y1 i k).trans (x1 i k), fun i k => (y2 i k).trans (x2 i k), y3.trans x3, fun i => (y4 i).trans (x4 i), fun i => (y5 i).trans (x5 i)⟩
theorem sam0_c {l D : List Nat} {F : List (Nat × Nat)} {a a' : TS} (h : chF D F a a') (hd : dpk D F l [] = true) : sam0 l a a' := fun _ hs => ⟨dIS h hd hs, dR h hd hs, dN h hd hs, dZ h hd hs, dC h hd hs⟩
/-- how many payments a shop has -/
def PcA (a : TS) : Prop := ∀ s, s < tZ a 27 0 → tI a 36 s 10 = Int32.ofNat ((List.range (tZ a 29 0)).countP (fun p => decide (tR a 38 p 2 = some (36, s))))
/-- some sites stand; on the class's side the payments are counted as before -/
def sam (l : List Nat) (a a' : TS) : Prop := sam0 l a a' ∧ (l = [13, 14, 24] → PcA a → PcA a')
def dsam (D : List Nat) (F : List (Nat × Nat)) (l : List Nat) : Bool := dpk D F l [] && (!decide (l = [13, 14, 24]) || (dpk D [] [27, 29, 38] [] && dpk D F [] [(36, 10)]))
theorem sam_r (l : List Nat) (a : TS) : sam l a a := ⟨sam0_r l a, fun _ h => h⟩
theorem sam_t {l : List Nat} {a b c : TS} (h1 : sam l a b) (h2 : sam l b c) : sam l a c := ⟨sam0_t h1.1 h2.1, fun e h => h2.2 e (h1.2 e h)⟩
theorem PcA_c {D : List Nat} {F : List (Nat × Nat)} {a a' : TS} (h : chF D F a a') (h1 : dpk D [] [27, 29, 38] [] = true) (h2 : dpk D F [] [(36, 10)] = true) (hp : PcA a) : PcA a' := by
  intro s hs
  rw [(h 27 (dpk_S h1 (by simp)).1).2.2.2.2.1] at hs
  rw [dI h h2 (s := 36) (k := 10) (by simp), (h 29 (dpk_S h1 (by simp)).1).2.2.2.2.1]
  simp only [(h 38 (dpk_S h1 (by simp)).1).2.2.1]
  exact hp s hs
theorem sam_c {l D : List Nat} {F : List (Nat × Nat)} {a a' : TS} (h : chF D F a a') (hd : dsam D F l = true) : sam l a a' := by
  unfold dsam at hd
  rw [Bool.and_eq_true] at hd
  refine ⟨sam0_c h hd.1, fun e hp => ?_⟩
  have h2 := hd.2
  rw [decide_eq_true e, Bool.not_true, Bool.false_or, Bool.and_eq_true] at h2
  exact PcA_c h h2.1 h2.2 hp
def txA : List Nat := [13, 14, 24]
def txB : List Nat := [82, 83, 84, 85, 92]
/-- the text -/
def Tx (a b : TS) : Prop := tZ a 13 0 ≤ 600 ∧ tZ a 13 0 ≤ tC a 13 0 ∧ tC a 13 0 ≤ 1300 ∧ ∀ k, k < tZ a 13 0 → ∃ n, 32 ≤ n ∧ n ≤ 126 ∧ tI a 13 0 k = Int32.ofNat n ∧ tI b 84 0 k = Int32.ofNat n
theorem Tx_s {a a' b b' : TS} (h : Tx a b) (ha : sam0 txA a a') (hb : sam0 txB b b') : Tx a' b' := by
  obtain ⟨i13, -, -, z13, c13⟩ := ha 13 (by simp [txA])
  obtain ⟨i84, -⟩ := hb 84 (by simp [txB])
  unfold Tx at *
  rw [z13, c13]
  simp only [i13, i84]
  exact h
def Core (a b : TS) (C : Nat) : Prop := Al a b ∧ (∃ T, Rm0 a b C T (fun _ => T + 1)) ∧ Tx a b
/-- a step that touches no lines and nothing that is kept -/
theorem Core_n {D D' : List Nat} {F F' : List (Nat × Nat)} {a a' b b' : TS} {C : Nat} (h : Core a b C) (hR1 : R0 a' b') (hN1 : Nt a' b') (ca : chF D F a a') (cb : chF D' F' b b')
    (hd : dpk D F [5, 6, 8, 9, 10, 11, 12, 13, 14, 16, 17, 18, 19, 21, 22, 23, 24, 27, 28, 29, 39] [] = true) (hd25 : 25 ∉ D) (hd' : dpk D' F' [48, 49, 50, 51, 52, 65, 66, 67, 68, 69, 70, 74, 75, 76, 77, 78, 79, 80, 81, 82, 83, 84, 85, 87, 92] [(95, 1)] = true) (gq' : groQ b b') : Core a' b' C := by
  obtain ⟨⟨hR, hN, hL, hAs, hK⟩, ⟨T, m1, m2, m3, m4, m5, m6, m7⟩, ht⟩ := h
  have sub : ∀ {l : List Nat}, (∀ s ∈ l, s ∈ [5, 6, 8, 9, 10, 11, 12, 13, 14, 16, 17, 18, 19, 21, 22, 23, 24, 27, 28, 29, 39]) → dpk D F l [] = true := fun {l} hl => by
    unfold dpk at hd ⊢
    rw [Bool.and_eq_true] at hd ⊢
    exact ⟨List.all_eq_true.mpr (fun s hs => List.all_eq_true.mp hd.1 s (hl s hs)), rfl⟩
  have sub' : ∀ {l : List Nat} {p : List (Nat × Nat)}, (∀ s ∈ l, s ∈ [48, 49, 50, 51, 52, 65, 66, 67, 68, 69, 70, 74, 75, 76, 77, 78, 79, 80, 81, 82, 83, 84, 85, 87, 92]) → (∀ s ∈ p, s ∈ [((95 : Nat), (1 : Nat))]) → dpk D' F' l p = true := fun {l p} hl hp => by
    unfold dpk at hd' ⊢
    rw [Bool.and_eq_true] at hd' ⊢
    exact ⟨List.all_eq_true.mpr (fun s hs => List.all_eq_true.mp hd'.1 s (hl s hs)), List.all_eq_true.mpr (fun s hs => List.all_eq_true.mp hd'.2 s (hp s hs))⟩
  have nA : ∀ s, s ∈ [5, 6, 11, 12, 16, 17, 23, 39] → tN a' s = tN a s := fun s hs => dN ca hd (by simp only [List.mem_cons, List.not_mem_nil, or_false] at hs ⊢; omega)
  have nB : ∀ s, s ∈ [76, 77, 78, 79, 80, 81] → tN b' s = tN b s := fun s hs => dN cb hd' (by simp only [List.mem_cons, List.not_mem_nil, or_false] at hs ⊢; omega)
  have iB : ∀ s, s ∈ [48, 67, 69, 70, 87] → ∀ i k, tI b' s i k = tI b s i k := fun s hs => dIS cb hd' (by simp only [List.mem_cons, List.not_mem_nil, or_false] at hs ⊢; omega)
  have hd27 : dpk D [] [27, 28, 29] [] = true := by
    have := sub (l := [27, 28, 29]) (by decide)
    unfold dpk at this ⊢
    simp only [List.all_cons, List.all_nil, Bool.and_true, Bool.and_eq_true] at this ⊢
    exact ⟨this.1.1, this.2.1.1, this.2.2.1⟩
  have hP : PS a a' b b' := PS_c ca cb hd27 (sub' (by decide) (by simp))
  obtain ⟨hL1, hv⟩ := Ln0_o hL.1 ca cb (sub (by decide)) hd25 (sub' (by decide) (by simp)) gq'
  have z27 : tZ a' 27 0 = tZ a 27 0 := dZ ca hd (s := 27) (by decide) 0
  have z29 : tZ a' 29 0 = tZ a 29 0 := dZ ca hd (s := 29) (by decide) 0
  have z9 : ∀ c, tZ a' 9 c = tZ a 9 c := dZ ca hd (s := 9) (by decide)
  have hKT : ∀ s, KTs a' b' s = KTs a b s := fun s => KTs_eq (dZ ca hd (s := 19) (by decide) s) (fun k _ => iB 67 (by simp) 0 _)
  have hGK : GK a' b' = GK a b := by
    unfold GK
    rw [z29, unsN_eq (fun p => iB 70 (by simp) 0 p), bkN_eq (fun p => iB 69 (by simp) 0 p)]
    unfold askN
    simp only [iB 87 (by simp)]
  have hKc : Kc a' = Kc a := by
    unfold Kc
    rw [nA 11 (by simp), nA 12 (by simp), nA 23 (by simp), nA 39 (by simp)]
  have hKb : Kb b' = Kb b := by
    unfold Kb
    rw [nB 76 (by simp), nB 77 (by simp), nB 78 (by simp)]
  refine ⟨⟨hR1, hN1, Ln_c hL hL1 hP z27 hv, As_c hAs ca cb (sub (by decide)) (sub' (by decide) (by simp)), Kp_c hK ca cb (sub (by decide)) (sub' (by decide) (by simp)) hP gq' (fun p _ h => by rw [iB 87 (by simp)]; exact h)⟩, ⟨T, m1, m2, ?_, by rw [hKc, hKb, hGK, z29]; exact m4, ?_, fun s hs => ?_, fun s hs => ?_⟩, Tx_s ht (sam0_c ca (sub (by decide))) (sam0_c cb (sub' (by decide) (by simp)))⟩
  · rw [dI cb hd' (s := 95) (k := 1) (by decide)]
    exact m3
  · have e1 : sumS (tZ a 27 0) (phi a' b') = sumS (tZ a 27 0) (phi a b) := sumS_eq _ (fun s hs => by
      unfold phi
      rw [(hv (2 * s) (by omega)).2, hKT, iB 48 (by simp)])
    have e2 : Mt b' = Mt b := by unfold Mt; rw [nB 79 (by simp), nB 80 (by simp), nB 81 (by simp)]
    rw [z27, z29, hGK, e1, e2]
    exact m5
  · have e1 : sumS (tZ a 27 0) (fun s' => ask0 (vQ b' (2 * s'))) = sumS (tZ a 27 0) (fun s' => ask0 (vQ b (2 * s'))) := sumS_eq _ (fun s hs => by rw [(hv (2 * s) (by omega)).2])
    rw [z27, z29, nA s (by simp only [List.mem_cons, List.not_mem_nil, or_false] at hs ⊢; omega), e1]
    exact m6 s hs
  · rw [z27] at hs
    rw [hKc, hKT, (hv (2 * s) (by omega)).2, (hv (2 * s + 1) (by omega)).2, z9, z9]
    exact m7 s hs
theorem dpk_sub {D : List Nat} {F : List (Nat × Nat)} {S S' : List Nat} {P P' : List (Nat × Nat)} (h : dpk D F S P = true) (h1 : ∀ s ∈ S', s ∈ S) (h2 : ∀ s ∈ P', s ∈ P) : dpk D F S' P' = true := by
  unfold dpk at h ⊢
  rw [Bool.and_eq_true] at h ⊢
  exact ⟨List.all_eq_true.mpr (fun s hs => List.all_eq_true.mp h.1 s (h1 s hs)), List.all_eq_true.mpr (fun s hs => List.all_eq_true.mp h.2 s (h2 s hs))⟩
/-- a step that touches the house's numbers alone -/
theorem Core_k {D D' : List Nat} {F F' : List (Nat × Nat)} {a a' b b' : TS} {C : Nat} (h : Core a b C) (hR1 : R0 a' b') (ca : chF D F a a') (cb : chF D' F' b b')
    (hd : dpk D F [5, 6, 8, 9, 10, 11, 12, 13, 14, 15, 16, 17, 18, 19, 21, 22, 23, 24, 27, 28, 29, 39] [(31, 2)] = true) (hd25 : 25 ∉ D) (hd' : dpk D' F' [48, 49, 50, 51, 52, 65, 66, 67, 68, 69, 70, 71, 72, 73, 74, 75, 76, 77, 78, 79, 80, 81, 82, 83, 84, 85, 87, 92] [(95, 1), (95, 4), (95, 5)] = true) (gq' : groQ b b') : Core a' b' C := by
  have hd27 : dpk D [] [15, 27, 28, 29] [] = true := by
    have := dpk_sub (S' := [15, 27, 28, 29]) (P' := []) hd (by decide) (by simp)
    unfold dpk at this ⊢
    simp only [List.all_cons, List.all_nil, Bool.and_true, Bool.and_eq_true] at this ⊢
    exact ⟨this.1.1, this.2.1.1, this.2.2.1.1, this.2.2.2.1⟩
  have hP : PS a a' b b' := PS_c ca cb (dpk_sub hd27 (by decide) (by simp)) (dpk_sub hd' (by decide) (by simp))
  refine Core_n h hR1 (Nt_c h.1.2.1 ca cb ?_ (dpk_sub hd' (by decide) (by decide)) hP.1 (gro_c ca (dpk_sub hd (by decide) (by simp))) gq') ca cb (dpk_sub hd (by decide) (by simp)) hd25 (dpk_sub hd' (by decide) (by decide)) gq'
  rw [Bool.and_eq_true]
  exact ⟨dpk_sub hd27 (by decide) (by simp), dpk_sub hd (by simp) (by simp)⟩
/-- what the reference says of a refusal alone -/
def FtH : List (Nat × Nat) := [(97, 8), (95, 0), (93, 10), (94, 10)]
theorem Core_th {a b b' : TS} {C : Nat} (h : Core a b C) (cb : chF [] FtH b b') (wb : Wr b b') : Core a b' C := by
  have hR := h.1.1
  have ca : chF [] [] a a := chF_r _ _ _
  have hR1 : R0 a b' := by
    have ha := ca
    have hb := cb
    have wa : Wr a a := Wr.rf _
    obtain ⟨hFC, hFR, hB, hS, hM, hW, hV, hC, hD, hE, hP, hQ, hH, hK, hG, hO, hZ⟩ := hR
    exact ⟨FxC_s hFC wa ha (by decide), FxR_s hFR wb hb (by decide), RB_c hB ha hb (by decide) (by decide), RS_c hS ha hb (by decide) (by decide), RM_c hM ha hb (by decide) (by decide), RW_c hW ha hb (by decide) (by decide), RV_c hV ha hb (by decide) (by decide), RC_c hC ha hb (by decide) (by decide), RD_c hD ha hb (by decide) (by decide), RE_c hE ha hb (by decide) (by decide), RP_c hP ha hb (by decide) (by decide), RQ_c hQ ha hb (by decide) (by decide), RH_c hH ha hb (by decide) (by decide), RK_c hK ha hb (by decide) (by decide) (gro_c ha (by decide)) (gro_c ha (by decide)) (gro_c ha (by decide)) (gro_c ha (by decide)), RG_c hG ha hb (by decide) (by decide), RO_c hO ha hb (by decide) (by decide), RZ_c hZ ha hb (by decide) (by decide)⟩
  exact Core_k h hR1 ca cb (by decide) (by simp) (by decide) (groQ_c cb (by decide +kernel))
/-! refused alike, or done alike -/
def Refd (rf : Nat) (ca : List AV) (rm : Nat) (ra : List AV) (kf : Nat → Nat) (a b : TS) (C : Nat) : Prop :=
  ∃ r b', 1 ≤ r ∧ r ≤ 3 ∧ (∀ z, Ex rf ca (enc 1 a z) = some (.inl (some (aI (Int32.ofNat r))), enc 1 a z)) ∧ (∀ z, Ex rm ra (enc 2 b z) = some (.inl (some (aI 0)), enc 2 b' z)) ∧ tI b' 97 0 8 = Int32.ofNat (kf r) ∧ Core a b' C ∧ Wr b b' ∧ sam txB b b'
def Done (rf : Nat) (ca : List AV) (dm : Nat) (da : List AV) (rm : Nat) (ra : List AV) (a b : TS) (C : Nat) : Prop :=
  ∃ v a' b', (∀ z, Ex rf ca (enc 1 a z) = some (.inl (some (aI 0)), enc 1 a z)) ∧ (∀ z, Ex dm da (enc 1 a z) = some (.inl (some (aI v)), enc 1 a' z)) ∧ (∀ z, Ex rm ra (enc 2 b z) = some (.inl (some (aI v)), enc 2 b' z)) ∧ tI b' 97 0 8 = 0 ∧ Core a' b' C ∧ Wr a a' ∧ Wr b b' ∧ sam txA a a' ∧ sam txB b b'
def OpR (rf : Nat) (ca : List AV) (dm : Nat) (da : List AV) (rm : Nat) (ra : List AV) (kf : Nat → Nat) (a b : TS) (C C' : Nat) : Prop := Refd rf ca rm ra kf a b C ∨ Done rf ca dm da rm ra a b C'
/-! small methods -/
def inR (p lo hi : Int32) : Prop := ¬ p < lo ∧ ¬ hi < p
theorem x139_1 {p lo hi : Int32} (hp : inR p lo hi) (h : Hp) : Ex 139 [aI p, aI lo, aI hi] h = some (.inl (some (aI 1)), h) := by
  refine (X_st (by decide +kernel) rfl).trans ((lf_139_0 ..).trans ?_)
  rw [if_neg hp.1, if_neg hp.2]
theorem x139_0 {p lo hi : Int32} (hp : ¬ inR p lo hi) (h : Hp) : Ex 139 [aI p, aI lo, aI hi] h = some (.inl (some (aI 0)), h) := by
  refine (X_st (by decide +kernel) rfl).trans ((lf_139_0 ..).trans ?_)
  by_cases e : p < lo
  · rw [if_pos e]
  · rw [if_neg e, if_pos (Classical.byContradiction (fun q => hp ⟨e, q⟩))]
theorem y250_1 {p lo hi : Int32} (hp : inR p lo hi) (h : Hp) : Ex 250 [aI p, aI lo, aI hi] h = some (.inl (some (aI 1)), h) := by
  refine (X_st (by decide +kernel) rfl).trans ((lf_250_0 ..).trans ?_)
  rw [if_neg hp.1, if_neg hp.2]
theorem y250_0 {p lo hi : Int32} (hp : ¬ inR p lo hi) (h : Hp) : Ex 250 [aI p, aI lo, aI hi] h = some (.inl (some (aI 0)), h) := by
  refine (X_st (by decide +kernel) rfl).trans ((lf_250_0 ..).trans ?_)
  by_cases e : p < lo
  · rw [if_pos e]
  · rw [if_neg e, if_pos (Classical.byContradiction (fun q => hp ⟨e, q⟩))]
theorem y224_1 {p lo hi : Int32} (hp : inR p lo hi) (h : Hp) : Ex 224 [aI p, aI lo, aI hi] h = some (.inl (some (aI 1)), h) := by rw [y224, if_neg hp.1, if_neg hp.2]
theorem y224_0 {p lo hi : Int32} (hp : ¬ inR p lo hi) (h : Hp) : Ex 224 [aI p, aI lo, aI hi] h = some (.inl (some (aI 0)), h) := by
  rw [y224]
  by_cases e : p < lo
  · rw [if_pos e]
  · rw [if_neg e, if_pos (Classical.byContradiction (fun q => hp ⟨e, q⟩))]
theorem inR_nat {p : Int32} {lo hi : Nat} (h : inR p (Int32.ofNat lo) (Int32.ofNat hi)) (hh : hi < 2 ^ 31) (hl : lo < 2 ^ 31) : ∃ m, lo ≤ m ∧ m ≤ hi ∧ p = Int32.ofNat m := by
  obtain ⟨h1, h2⟩ := h
  have h0 : ¬ p < 0 := fun q => h1 (by
    rw [Int32.lt_iff_toInt_lt] at q ⊢
    rw [Int32.toInt_ofNat_of_lt hl]
    have q : p.toInt < 0 := q
    omega)
  refine ⟨p.toNatClampNeg, ?_, ?_, (x_of h0).symm⟩
  · exact (x_le h0 hl).mp (Int32.not_lt.mp h1)
  · have := Int32.not_lt.mp h2
    rw [← x_of h0, o_le (x_b p) hh] at this
    exact this
theorem inR_of {n lo hi : Nat} (h1 : lo ≤ n) (h2 : n ≤ hi) (hh : hi < 2 ^ 31) : inR (Int32.ofNat n) (Int32.ofNat lo) (Int32.ofNat hi) := by
  refine ⟨fun q => ?_, fun q => ?_⟩
  · rw [o_lt (by omega) (by omega)] at q; omega
  · rw [o_lt (by omega) (by omega)] at q; omega
theorem y252 {b : TS} {z : Hp} {v : Int32} (hF : FxR b) : Ex 252 [aR (some (97, 0)), aI v] (enc 2 b z) = some (.inl (some (aI v)), enc 2 (sI b 97 0 8 0) z) := by
  refine (X_in (by decide +kernel) (frN_97 hF) rfl).trans ((lf_252_0 ..).trans ?_)
  simp (config := {decide := true}) only [gfI_enc, gfL_enc, gfR_enc, pfI_enc, pfL_enc, pfR_enc, Option.bind_some, cI_v, cL_v, cF_v, cD_v, cR_v, cV_v, cI_x, cL_x, cR_x, cV_x, gz_0, gz_1, acc_enc, tI_sI, tL_sI, tR_sI, tN_sI, tZ_sI, tC_sI, tc_sI, tz_sI, tI_sL, tL_sL, tR_sL, tN_sL, tZ_sL, tC_sL, tc_sL, tz_sL, tI_sR, tL_sR, tR_sR, tN_sR, tZ_sR, tC_sR, tc_sR, tz_sR, tI_sZ, tL_sZ, tR_sZ, tN_sZ, tZ_sZ, tC_sZ, tc_sZ, tz_sZ, tI_sC, tL_sC, tR_sC, tN_sC, tZ_sC, tC_sC, tc_sC, tz_sC, tI_aC, tL_aC, tR_aC, tN_aC, tZ_aC, tC_aC, tc_aC, tz_aC, tI_rmL, tL_rmL, tR_rmL, tN_rmL, tZ_rmL, tC_rmL, tc_rmL, tz_rmL, tI_mk, tL_mk, tR_mk, tN_mk, tZ_mk, tC_mk, tc_mk, tz_mk, tI_pushL, tL_pushL, tR_pushL, tN_pushL, tZ_pushL, tC_pushL, tc_pushL, tz_pushL, tI_pushB, tL_pushB, tR_pushB, tN_pushB, tZ_pushB, tC_pushB, tc_pushB, tz_pushB, tI_cpL, tL_cpL, tR_cpL, tN_cpL, tZ_cpL, tC_cpL, tc_cpL, tz_cpL, eq_self, true_and, and_true, false_and, and_false, if_true, if_false, reduceIte, ite_true, ite_false, not_true_eq_false, not_false_eq_true, frN_97 hF]
theorem y251 {b : TS} {z : Hp} {v : Int32} (hF : FxR b) : Ex 251 [aR (some (97, 0)), aI v] (enc 2 b z) = some (.inl (some (aI 0)), enc 2 (sI b 97 0 8 v) z) := by
  refine (X_in (by decide +kernel) (frN_97 hF) rfl).trans ((lf_251_0 ..).trans ?_)
  simp (config := {decide := true}) only [gfI_enc, gfL_enc, gfR_enc, pfI_enc, pfL_enc, pfR_enc, Option.bind_some, cI_v, cL_v, cF_v, cD_v, cR_v, cV_v, cI_x, cL_x, cR_x, cV_x, gz_0, gz_1, acc_enc, tI_sI, tL_sI, tR_sI, tN_sI, tZ_sI, tC_sI, tc_sI, tz_sI, tI_sL, tL_sL, tR_sL, tN_sL, tZ_sL, tC_sL, tc_sL, tz_sL, tI_sR, tL_sR, tR_sR, tN_sR, tZ_sR, tC_sR, tc_sR, tz_sR, tI_sZ, tL_sZ, tR_sZ, tN_sZ, tZ_sZ, tC_sZ, tc_sZ, tz_sZ, tI_sC, tL_sC, tR_sC, tN_sC, tZ_sC, tC_sC, tc_sC, tz_sC, tI_aC, tL_aC, tR_aC, tN_aC, tZ_aC, tC_aC, tc_aC, tz_aC, tI_rmL, tL_rmL, tR_rmL, tN_rmL, tZ_rmL, tC_rmL, tc_rmL, tz_rmL, tI_mk, tL_mk, tR_mk, tN_mk, tZ_mk, tC_mk, tc_mk, tz_mk, tI_pushL, tL_pushL, tR_pushL, tN_pushL, tZ_pushL, tC_pushL, tc_pushL, tz_pushL, tI_pushB, tL_pushB, tR_pushB, tN_pushB, tZ_pushB, tC_pushB, tc_pushB, tz_pushB, tI_cpL, tL_cpL, tR_cpL, tN_cpL, tZ_cpL, tC_cpL, tc_cpL, tz_cpL, eq_self, true_and, and_true, false_and, and_false, if_true, if_false, reduceIte, ite_true, ite_false, not_true_eq_false, not_false_eq_true, frN_97 hF]
theorem th_c {b : TS} {v : Int32} : chF [] FtH b (sI b 97 0 8 v) := chF_I (Or.inr (by decide)) (chF_r _ _ _)
theorem th_w {b : TS} {v : Int32} : Wr b (sI b 97 0 8 v) := (Wr.rf _).cI _ _ _ _
theorem th_v {b : TS} {v : Int32} : tI (sI b 97 0 8 v) 97 0 8 = v := by rw [tI_sI, if_pos ⟨rfl, rfl, rfl⟩]
theorem th_s {b : TS} {v : Int32} : sam txB b (sI b 97 0 8 v) := sam_c (th_c (b := b) (v := v)) (by decide)
/-- a refusal that changes what was thrown alone -/
theorem refd_of {rf : Nat} {ca : List AV} {rm : Nat} {ra : List AV} {kf : Nat → Nat} {a b : TS} {C : Nat} (h : Core a b C) (r : Nat) (h1 : 1 ≤ r) (h3 : r ≤ 3) (hx : ∀ z, Ex rf ca (enc 1 a z) = some (.inl (some (aI (Int32.ofNat r))), enc 1 a z)) (hy : ∀ z, Ex rm ra (enc 2 b z) = some (.inl (some (aI 0)), enc 2 (sI b 97 0 8 (Int32.ofNat (kf r))) z)) : Refd rf ca rm ra kf a b C :=
  ⟨r, _, h1, h3, hx, hy, th_v, Core_th h th_c th_w, th_w, th_s⟩
/-! ===== ticks pass ===== -/
theorem pass_loop {C m : Nat} (hm : m ≤ 200) : ∀ k i a b T, i + k = m → T + k ≤ 3000 → Al a b → Rm0 a b C T (fun _ => T + 1) →
    ∃ a' b', (∀ z, Ru 106 2 [(0, aR (some (96, 0))), (1, aI (Int32.ofNat m)), (2, aI (Int32.ofNat i))] [] (enc 1 a z) = some (.inl (some (aI (Int32.ofNat (T + k)))), enc 1 a' z)) ∧ (∀ z, Ru 271 37 [(0, aR (some (97, 0))), (1, aI (Int32.ofNat m)), (2, aI (Int32.ofNat i))] [] (enc 2 b z) = some (.inl (some (aI (Int32.ofNat (T + k)))), enc 2 (sI b' 97 0 8 0) z)) ∧ Al a' b' ∧ Rm0 a' b' C (T + k) (fun _ => T + k + 1) ∧ Fr a a' b b' ∧ StpE TickE a b a' b' := by
  intro k
  induction k with
  | zero =>
    intro i a b T hk hT hA hM
    have : i = m := by omega
    subst this
    have hFC := r_FC hA.1
    have hFR := r_FR hA.1
    have m3 := hM.2.2.1
    have tk := tick_of hA.1
    have t97 : tI b 97 0 5 = Int32.ofNat T := by
      obtain ⟨⟨-, -, h3, -⟩, -⟩ := r_H hA.1
      exact h3.symm.trans m3
    have g1 : Int32.ofNat i ≤ Int32.ofNat i := Int32.le_refl _
    refine ⟨a, b, fun z => ?_, fun z => ?_, hA, hM, Fr_r a b, StpE_r a b⟩
    · rw [lf_106_2]
      simp (config := {decide := true}) only [gfI_enc, gfL_enc, gfR_enc, pfI_enc, pfL_enc, pfR_enc, Option.bind_some, cI_v, cL_v, cF_v, cD_v, cR_v, cV_v, cI_x, cL_x, cR_x, cV_x, gz_0, gz_1, acc_enc, tI_sI, tL_sI, tR_sI, tN_sI, tZ_sI, tC_sI, tc_sI, tz_sI, tI_sL, tL_sL, tR_sL, tN_sL, tZ_sL, tC_sL, tc_sL, tz_sL, tI_sR, tL_sR, tR_sR, tN_sR, tZ_sR, tC_sR, tc_sR, tz_sR, tI_sZ, tL_sZ, tR_sZ, tN_sZ, tZ_sZ, tC_sZ, tc_sZ, tz_sZ, tI_sC, tL_sC, tR_sC, tN_sC, tZ_sC, tC_sC, tc_sC, tz_sC, tI_aC, tL_aC, tR_aC, tN_aC, tZ_aC, tC_aC, tc_aC, tz_aC, tI_rmL, tL_rmL, tR_rmL, tN_rmL, tZ_rmL, tC_rmL, tc_rmL, tz_rmL, tI_mk, tL_mk, tR_mk, tN_mk, tZ_mk, tC_mk, tc_mk, tz_mk, tI_pushL, tL_pushL, tR_pushL, tN_pushL, tZ_pushL, tC_pushL, tc_pushL, tz_pushL, tI_pushB, tL_pushB, tR_pushB, tN_pushB, tZ_pushB, tC_pushB, tc_pushB, tz_pushB, tI_cpL, tL_cpL, tR_cpL, tN_cpL, tZ_cpL, tC_cpL, tc_cpL, tz_cpL, eq_self, true_and, and_true, false_and, and_false, if_true, if_false, reduceIte, ite_true, ite_false, not_true_eq_false, not_false_eq_true, g1, fcN_96 hFC, fcR_96_1 hFC, fcN_25 hFC, tk, m3, Nat.add_zero]
    · rw [lf_271_37]
      have f252 := fun z => y252 (b := b) (z := z) (v := Int32.ofNat T) hFR
      simp (config := {decide := true}) only [gfI_enc, gfL_enc, gfR_enc, pfI_enc, pfL_enc, pfR_enc, Option.bind_some, cI_v, cL_v, cF_v, cD_v, cR_v, cV_v, cI_x, cL_x, cR_x, cV_x, gz_0, gz_1, acc_enc, tI_sI, tL_sI, tR_sI, tN_sI, tZ_sI, tC_sI, tc_sI, tz_sI, tI_sL, tL_sL, tR_sL, tN_sL, tZ_sL, tC_sL, tc_sL, tz_sL, tI_sR, tL_sR, tR_sR, tN_sR, tZ_sR, tC_sR, tc_sR, tz_sR, tI_sZ, tL_sZ, tR_sZ, tN_sZ, tZ_sZ, tC_sZ, tc_sZ, tz_sZ, tI_sC, tL_sC, tR_sC, tN_sC, tZ_sC, tC_sC, tc_sC, tz_sC, tI_aC, tL_aC, tR_aC, tN_aC, tZ_aC, tC_aC, tc_aC, tz_aC, tI_rmL, tL_rmL, tR_rmL, tN_rmL, tZ_rmL, tC_rmL, tc_rmL, tz_rmL, tI_mk, tL_mk, tR_mk, tN_mk, tZ_mk, tC_mk, tc_mk, tz_mk, tI_pushL, tL_pushL, tR_pushL, tN_pushL, tZ_pushL, tC_pushL, tc_pushL, tz_pushL, tI_pushB, tL_pushB, tR_pushB, tN_pushB, tZ_pushB, tC_pushB, tc_pushB, tz_pushB, tI_cpL, tL_cpL, tR_cpL, tN_cpL, tZ_cpL, tC_cpL, tc_cpL, tz_cpL, eq_self, true_and, and_true, false_and, and_false, if_true, if_false, reduceIte, ite_true, ite_false, not_true_eq_false, not_false_eq_true, g1, frN_97 hFR, t97, f252, Nat.add_zero]
  | succ k ih =>
    intro i a b T hk hT hA hM
    have g1 : ¬ Int32.ofNat m ≤ Int32.ofNat i := by rw [o_le (by omega) (by omega)]; omega
    obtain ⟨a1, b1, x1, y1, hA1, hM1, hF1, hS1⟩ := sim_tick hA hM (by omega)
    obtain ⟨a2, b2, x2, y2, hA2, hM2, hF2, hS2⟩ := ih (i + 1) a1 b1 (T + 1) (by omega) (by omega) hA1 hM1
    rw [show T + 1 + k = T + (k + 1) by omega] at x2 y2 hM2
    refine ⟨a2, b2, fun z => ?_, fun z => ?_, hA2, hM2, Fr_t hF1 hF2, StpE_t (StpE_1 hS1) hS2⟩
    · rw [x1 _ _ z g1, o_s]
      exact x2 z
    · rw [lf_271_37, if_neg g1, y1, cV_v, o_s]
      exact y2 z
theorem op_passes {a b : TS} {C : Nat} (h : Core a b C) (n : Int32) : OpR 105 [aR (some (96, 0)), aI n] 106 [aR (some (96, 0)), aI n] 271 [aR (some (97, 0)), aI n] (fun r => r - 1) a b C C := by
  have hR := h.1.1
  have hFC := r_FC hR
  have hFR := r_FR hR
  obtain ⟨hA, ⟨T, hM⟩, ht⟩ := h
  have h : Core a b C := ⟨hA, ⟨T, hM⟩, ht⟩
  have m3 := hM.2.2.1
  have m1 := hM.1
  have tk := tick_of hR
  have t97 : tI b 97 0 5 = Int32.ofNat T := by
    obtain ⟨⟨-, -, h3, -⟩, -⟩ := r_H hR
    exact h3.symm.trans m3
  by_cases e1 : inR n 1 200
  · obtain ⟨m, n1, n2, n3⟩ := inR_nat (lo := 1) (hi := 200) e1 (by omega) (by omega)
    subst n3
    have hx := x139_1 e1
    have hy := y250_1 e1
    have o3000 : (3000 : Int32) = Int32.ofNat 3000 := rfl
    by_cases e2 : T + m ≤ 3000
    · have g2 : Int32.ofNat (T + m) ≤ 3000 := by rw [o3000, o_le (by omega) (by omega)]; exact e2
      obtain ⟨a', b', x, y, hA', hM', hF', hSt⟩ := pass_loop n2 m 0 a b T (Nat.zero_add _) e2 hA hM
      have f139 := hx
      have c' : Core a' b' C := ⟨hA', ⟨T + m, hM'⟩, Tx_s ht (sam0_c hF'.1 (by decide)) (sam0_c hF'.2.1 (by decide))⟩
      refine Or.inr ⟨Int32.ofNat (T + m), a', sI b' 97 0 8 0, fun z => ?_, fun z => ?_, fun z => ?_, th_v, Core_th c' th_c th_w, hF'.2.2.1, hF'.2.2.2.t th_w, sam_c hF'.1 (by decide), sam_t (sam_c hF'.2.1 (by decide)) th_s⟩
      · refine (X_in (by decide +kernel) (fcN_96 hFC) rfl).trans ((lf_105_0 ..).trans ?_)
        simp (config := {decide := true}) only [gfI_enc, gfL_enc, gfR_enc, pfI_enc, pfL_enc, pfR_enc, Option.bind_some, cI_v, cL_v, cF_v, cD_v, cR_v, cV_v, cI_x, cL_x, cR_x, cV_x, gz_0, gz_1, acc_enc, tI_sI, tL_sI, tR_sI, tN_sI, tZ_sI, tC_sI, tc_sI, tz_sI, tI_sL, tL_sL, tR_sL, tN_sL, tZ_sL, tC_sL, tc_sL, tz_sL, tI_sR, tL_sR, tR_sR, tN_sR, tZ_sR, tC_sR, tc_sR, tz_sR, tI_sZ, tL_sZ, tR_sZ, tN_sZ, tZ_sZ, tC_sZ, tc_sZ, tz_sZ, tI_sC, tL_sC, tR_sC, tN_sC, tZ_sC, tC_sC, tc_sC, tz_sC, tI_aC, tL_aC, tR_aC, tN_aC, tZ_aC, tC_aC, tc_aC, tz_aC, tI_rmL, tL_rmL, tR_rmL, tN_rmL, tZ_rmL, tC_rmL, tc_rmL, tz_rmL, tI_mk, tL_mk, tR_mk, tN_mk, tZ_mk, tC_mk, tc_mk, tz_mk, tI_pushL, tL_pushL, tR_pushL, tN_pushL, tZ_pushL, tC_pushL, tc_pushL, tz_pushL, tI_pushB, tL_pushB, tR_pushB, tN_pushB, tZ_pushB, tC_pushB, tc_pushB, tz_pushB, tI_cpL, tL_cpL, tR_cpL, tN_cpL, tZ_cpL, tC_cpL, tc_cpL, tz_cpL, eq_self, true_and, and_true, false_and, and_false, if_true, if_false, reduceIte, ite_true, ite_false, not_true_eq_false, not_false_eq_true, hx, fcN_96 hFC, fcR_96_1 hFC, fcN_25 hFC, tk, m3, o_a, g2]
      · refine (X_in (by decide +kernel) (fcN_96 hFC) rfl).trans ((lf_106_0 ..).trans ?_)
        exact x z
      · refine (X_in (by decide +kernel) (frN_97 hFR) rfl).trans ((lf_271_0 ..).trans ?_)
        simp (config := {decide := true}) only [gfI_enc, gfL_enc, gfR_enc, pfI_enc, pfL_enc, pfR_enc, Option.bind_some, cI_v, cL_v, cF_v, cD_v, cR_v, cV_v, cI_x, cL_x, cR_x, cV_x, gz_0, gz_1, acc_enc, tI_sI, tL_sI, tR_sI, tN_sI, tZ_sI, tC_sI, tc_sI, tz_sI, tI_sL, tL_sL, tR_sL, tN_sL, tZ_sL, tC_sL, tc_sL, tz_sL, tI_sR, tL_sR, tR_sR, tN_sR, tZ_sR, tC_sR, tc_sR, tz_sR, tI_sZ, tL_sZ, tR_sZ, tN_sZ, tZ_sZ, tC_sZ, tc_sZ, tz_sZ, tI_sC, tL_sC, tR_sC, tN_sC, tZ_sC, tC_sC, tc_sC, tz_sC, tI_aC, tL_aC, tR_aC, tN_aC, tZ_aC, tC_aC, tc_aC, tz_aC, tI_rmL, tL_rmL, tR_rmL, tN_rmL, tZ_rmL, tC_rmL, tc_rmL, tz_rmL, tI_mk, tL_mk, tR_mk, tN_mk, tZ_mk, tC_mk, tc_mk, tz_mk, tI_pushL, tL_pushL, tR_pushL, tN_pushL, tZ_pushL, tC_pushL, tc_pushL, tz_pushL, tI_pushB, tL_pushB, tR_pushB, tN_pushB, tZ_pushB, tC_pushB, tc_pushB, tz_pushB, tI_cpL, tL_cpL, tR_cpL, tN_cpL, tZ_cpL, tC_cpL, tc_cpL, tz_cpL, eq_self, true_and, and_true, false_and, and_false, if_true, if_false, reduceIte, ite_true, ite_false, not_true_eq_false, not_false_eq_true, hy, frN_97 hFR, t97, o_a, g2]
        exact y z
    · have g2 : ¬ Int32.ofNat (T + m) ≤ 3000 := by rw [o3000, o_le (by omega) (by omega)]; exact e2
      have f251 := fun z => y251 (b := b) (z := z) (v := 2) hFR
      refine Or.inl (refd_of h 3 (by omega) (by omega) (fun z => ?_) (fun z => ?_))
      · refine (X_in (by decide +kernel) (fcN_96 hFC) rfl).trans ((lf_105_0 ..).trans ?_)
        simp (config := {decide := true}) only [gfI_enc, gfL_enc, gfR_enc, pfI_enc, pfL_enc, pfR_enc, Option.bind_some, cI_v, cL_v, cF_v, cD_v, cR_v, cV_v, cI_x, cL_x, cR_x, cV_x, gz_0, gz_1, acc_enc, tI_sI, tL_sI, tR_sI, tN_sI, tZ_sI, tC_sI, tc_sI, tz_sI, tI_sL, tL_sL, tR_sL, tN_sL, tZ_sL, tC_sL, tc_sL, tz_sL, tI_sR, tL_sR, tR_sR, tN_sR, tZ_sR, tC_sR, tc_sR, tz_sR, tI_sZ, tL_sZ, tR_sZ, tN_sZ, tZ_sZ, tC_sZ, tc_sZ, tz_sZ, tI_sC, tL_sC, tR_sC, tN_sC, tZ_sC, tC_sC, tc_sC, tz_sC, tI_aC, tL_aC, tR_aC, tN_aC, tZ_aC, tC_aC, tc_aC, tz_aC, tI_rmL, tL_rmL, tR_rmL, tN_rmL, tZ_rmL, tC_rmL, tc_rmL, tz_rmL, tI_mk, tL_mk, tR_mk, tN_mk, tZ_mk, tC_mk, tc_mk, tz_mk, tI_pushL, tL_pushL, tR_pushL, tN_pushL, tZ_pushL, tC_pushL, tc_pushL, tz_pushL, tI_pushB, tL_pushB, tR_pushB, tN_pushB, tZ_pushB, tC_pushB, tc_pushB, tz_pushB, tI_cpL, tL_cpL, tR_cpL, tN_cpL, tZ_cpL, tC_cpL, tc_cpL, tz_cpL, eq_self, true_and, and_true, false_and, and_false, if_true, if_false, reduceIte, ite_true, ite_false, not_true_eq_false, not_false_eq_true, hx, fcN_96 hFC, fcR_96_1 hFC, fcN_25 hFC, tk, m3, o_a, g2]
        rfl
      · refine (X_in (by decide +kernel) (frN_97 hFR) rfl).trans ((lf_271_0 ..).trans ?_)
        simp (config := {decide := true}) only [gfI_enc, gfL_enc, gfR_enc, pfI_enc, pfL_enc, pfR_enc, Option.bind_some, cI_v, cL_v, cF_v, cD_v, cR_v, cV_v, cI_x, cL_x, cR_x, cV_x, gz_0, gz_1, acc_enc, tI_sI, tL_sI, tR_sI, tN_sI, tZ_sI, tC_sI, tc_sI, tz_sI, tI_sL, tL_sL, tR_sL, tN_sL, tZ_sL, tC_sL, tc_sL, tz_sL, tI_sR, tL_sR, tR_sR, tN_sR, tZ_sR, tC_sR, tc_sR, tz_sR, tI_sZ, tL_sZ, tR_sZ, tN_sZ, tZ_sZ, tC_sZ, tc_sZ, tz_sZ, tI_sC, tL_sC, tR_sC, tN_sC, tZ_sC, tC_sC, tc_sC, tz_sC, tI_aC, tL_aC, tR_aC, tN_aC, tZ_aC, tC_aC, tc_aC, tz_aC, tI_rmL, tL_rmL, tR_rmL, tN_rmL, tZ_rmL, tC_rmL, tc_rmL, tz_rmL, tI_mk, tL_mk, tR_mk, tN_mk, tZ_mk, tC_mk, tc_mk, tz_mk, tI_pushL, tL_pushL, tR_pushL, tN_pushL, tZ_pushL, tC_pushL, tc_pushL, tz_pushL, tI_pushB, tL_pushB, tR_pushB, tN_pushB, tZ_pushB, tC_pushB, tc_pushB, tz_pushB, tI_cpL, tL_cpL, tR_cpL, tN_cpL, tZ_cpL, tC_cpL, tc_cpL, tz_cpL, eq_self, true_and, and_true, false_and, and_false, if_true, if_false, reduceIte, ite_true, ite_false, not_true_eq_false, not_false_eq_true, hy, frN_97 hFR, t97, o_a, g2, f251]
        rfl
  · have hx := x139_0 e1
    have hy := y250_0 e1
    have f251 := fun z => y251 (b := b) (z := z) (v := 1) hFR
    refine Or.inl (refd_of h 2 (by omega) (by omega) (fun z => ?_) (fun z => ?_))
    · refine (X_in (by decide +kernel) (fcN_96 hFC) rfl).trans ((lf_105_0 ..).trans ?_)
      simp (config := {decide := true}) only [gfI_enc, gfL_enc, gfR_enc, pfI_enc, pfL_enc, pfR_enc, Option.bind_some, cI_v, cL_v, cF_v, cD_v, cR_v, cV_v, cI_x, cL_x, cR_x, cV_x, gz_0, gz_1, acc_enc, tI_sI, tL_sI, tR_sI, tN_sI, tZ_sI, tC_sI, tc_sI, tz_sI, tI_sL, tL_sL, tR_sL, tN_sL, tZ_sL, tC_sL, tc_sL, tz_sL, tI_sR, tL_sR, tR_sR, tN_sR, tZ_sR, tC_sR, tc_sR, tz_sR, tI_sZ, tL_sZ, tR_sZ, tN_sZ, tZ_sZ, tC_sZ, tc_sZ, tz_sZ, tI_sC, tL_sC, tR_sC, tN_sC, tZ_sC, tC_sC, tc_sC, tz_sC, tI_aC, tL_aC, tR_aC, tN_aC, tZ_aC, tC_aC, tc_aC, tz_aC, tI_rmL, tL_rmL, tR_rmL, tN_rmL, tZ_rmL, tC_rmL, tc_rmL, tz_rmL, tI_mk, tL_mk, tR_mk, tN_mk, tZ_mk, tC_mk, tc_mk, tz_mk, tI_pushL, tL_pushL, tR_pushL, tN_pushL, tZ_pushL, tC_pushL, tc_pushL, tz_pushL, tI_pushB, tL_pushB, tR_pushB, tN_pushB, tZ_pushB, tC_pushB, tc_pushB, tz_pushB, tI_cpL, tL_cpL, tR_cpL, tN_cpL, tZ_cpL, tC_cpL, tc_cpL, tz_cpL, eq_self, true_and, and_true, false_and, and_false, if_true, if_false, reduceIte, ite_true, ite_false, not_true_eq_false, not_false_eq_true, hx]
      rfl
    · refine (X_in (by decide +kernel) (frN_97 hFR) rfl).trans ((lf_271_0 ..).trans ?_)
      simp (config := {decide := true}) only [gfI_enc, gfL_enc, gfR_enc, pfI_enc, pfL_enc, pfR_enc, Option.bind_some, cI_v, cL_v, cF_v, cD_v, cR_v, cV_v, cI_x, cL_x, cR_x, cV_x, gz_0, gz_1, acc_enc, tI_sI, tL_sI, tR_sI, tN_sI, tZ_sI, tC_sI, tc_sI, tz_sI, tI_sL, tL_sL, tR_sL, tN_sL, tZ_sL, tC_sL, tc_sL, tz_sL, tI_sR, tL_sR, tR_sR, tN_sR, tZ_sR, tC_sR, tc_sR, tz_sR, tI_sZ, tL_sZ, tR_sZ, tN_sZ, tZ_sZ, tC_sZ, tc_sZ, tz_sZ, tI_sC, tL_sC, tR_sC, tN_sC, tZ_sC, tC_sC, tc_sC, tz_sC, tI_aC, tL_aC, tR_aC, tN_aC, tZ_aC, tC_aC, tc_aC, tz_aC, tI_rmL, tL_rmL, tR_rmL, tN_rmL, tZ_rmL, tC_rmL, tc_rmL, tz_rmL, tI_mk, tL_mk, tR_mk, tN_mk, tZ_mk, tC_mk, tc_mk, tz_mk, tI_pushL, tL_pushL, tR_pushL, tN_pushL, tZ_pushL, tC_pushL, tc_pushL, tz_pushL, tI_pushB, tL_pushB, tR_pushB, tN_pushB, tZ_pushB, tC_pushB, tc_pushB, tz_pushB, tI_cpL, tL_cpL, tR_cpL, tN_cpL, tZ_cpL, tC_cpL, tc_cpL, tz_cpL, eq_self, true_and, and_true, false_and, and_false, if_true, if_false, reduceIte, ite_true, ite_false, not_true_eq_false, not_false_eq_true, hy, f251]
      rfl
