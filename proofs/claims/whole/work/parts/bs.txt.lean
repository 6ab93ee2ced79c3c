/-! ===== texts: what holds between calls ===== -/
/-- a step that touches no lines and nothing that is kept -/
theorem Core_nT {D D' : List Nat} {F F' : List (Nat × Nat)} {a a' b b' : TS} {C : Nat} (h : Core a b C) (hR1 : R0 a' b') (hN1 : Nt a' b') (ca : chF D F a a') (cb : chF D' F' b b')
    (hd : dpk D F [5, 6, 8, 9, 10, 11, 12, 16, 17, 18, 19, 21, 22, 23, 27, 28, 29, 39] [] = true) (hd25 : 25 ∉ D) (hd' : dpk D' F' [48, 49, 50, 51, 52, 65, 66, 67, 68, 69, 70, 74, 75, 76, 77, 78, 79, 80, 81, 87] [(95, 1)] = true) (gq' : groQ b b') (ht' : Tx a' b') : Core a' b' C := by
  obtain ⟨⟨hR, hN, hL, hAs, hK⟩, ⟨T, m1, m2, m3, m4, m5, m6, m7⟩, ht⟩ := h
  have sub : ∀ {l : List Nat}, (∀ s ∈ l, s ∈ [5, 6, 8, 9, 10, 11, 12, 16, 17, 18, 19, 21, 22, 23, 27, 28, 29, 39]) → dpk D F l [] = true := fun {l} hl => by
    unfold dpk at hd ⊢
    rw [Bool.and_eq_true] at hd ⊢
    exact ⟨List.all_eq_true.mpr (fun s hs => List.all_eq_true.mp hd.1 s (hl s hs)), rfl⟩
  have sub' : ∀ {l : List Nat} {p : List (Nat × Nat)}, (∀ s ∈ l, s ∈ [48, 49, 50, 51, 52, 65, 66, 67, 68, 69, 70, 74, 75, 76, 77, 78, 79, 80, 81, 87]) → (∀ s ∈ p, s ∈ [((95 : Nat), (1 : Nat))]) → dpk D' F' l p = true := fun {l p} hl hp => by
    unfold dpk at hd' ⊢
    rw [Bool.and_eq_true] at hd' ⊢
    exact ⟨List.all_eq_true.mpr (fun s hs => List.all_eq_true.mp hd'.1 s (hl s hs)), List.all_eq_true.mpr (fun s hs => List.all_eq_true.mp hd'.2 s (hp s hs))⟩
  have nA : ∀ s, s ∈ [5, 6, 11, 12, 16, 17, 23, 39] → tN a' s = tN a s := fun s hs => dN ca hd (by simp only [List.mem_cons, List.not_mem_nil, or_false] at hs ⊢; omega)
  have nB : ∀ s, s ∈ [76, 77, 78, 79, 80, 81] → tN b' s = tN b s := fun s hs => dN cb hd' (by simp only [List.mem_cons, List.not_mem_nil, or_false] at hs ⊢; omega)
  have iB : ∀ s, s ∈ [48, 67, 69, 70, 87] → ∀ i k, tI b' s i k = tI b s i k := fun s hs => dIS cb hd' (by simp only [List.mem_cons, List.not_mem_nil, or_false] at hs ⊢; omega)
  have hd27 : dpk D [] [27, 28, 29] [] = true := by
    have := sub (l := [27, 28, 29]) (by decide)
    unfold dpk at this ⊢
    simp only [List.all_cons, List.all_nil, Bool.and_true, Bool.and_eq_true] at this ⊢
    exact ⟨this.1.1, this.2.1.1, this.2.2.1⟩
  have hP : PS a a' b b' := PS_c ca cb hd27 (sub' (by decide) (by simp))
  obtain ⟨hL1, hv⟩ := Ln0_o hL.1 ca cb (sub (by decide)) hd25 (sub' (by decide) (by simp)) gq'
  have z27 : tZ a' 27 0 = tZ a 27 0 := dZ ca hd (s := 27) (by decide) 0
  have z29 : tZ a' 29 0 = tZ a 29 0 := dZ ca hd (s := 29) (by decide) 0
  have z9 : ∀ c, tZ a' 9 c = tZ a 9 c := dZ ca hd (s := 9) (by decide)
  have hKT : ∀ s, KTs a' b' s = KTs a b s := fun s => KTs_eq (dZ ca hd (s := 19) (by decide) s) (fun k _ => iB 67 (by simp) 0 _)
  have hGK : GK a' b' = GK a b := by
    unfold GK
    rw [z29, unsN_eq (fun p => iB 70 (by simp) 0 p), bkN_eq (fun p => iB 69 (by simp) 0 p)]
    unfold askN
    simp only [iB 87 (by simp)]
  have hKc : Kc a' = Kc a := by
    unfold Kc
    rw [nA 11 (by simp), nA 12 (by simp), nA 23 (by simp), nA 39 (by simp)]
  have hKb : Kb b' = Kb b := by
    unfold Kb
    rw [nB 76 (by simp), nB 77 (by simp), nB 78 (by simp)]
  refine ⟨⟨hR1, hN1, Ln_c hL hL1 hP z27 hv, As_c hAs ca cb (sub (by decide)) (sub' (by decide) (by simp)), Kp_c hK ca cb (sub (by decide)) (sub' (by decide) (by simp)) hP gq' (fun p _ h => by rw [iB 87 (by simp)]; exact h)⟩, ⟨T, m1, m2, ?_, by rw [hKc, hKb, hGK, z29]; exact m4, ?_, fun s hs => ?_, fun s hs => ?_⟩, ht'⟩
  · rw [dI cb hd' (s := 95) (k := 1) (by decide)]
    exact m3
  · have e1 : sumS (tZ a 27 0) (phi a' b') = sumS (tZ a 27 0) (phi a b) := sumS_eq _ (fun s hs => by
      unfold phi
      rw [(hv (2 * s) (by omega)).2, hKT, iB 48 (by simp)])
    have e2 : Mt b' = Mt b := by unfold Mt; rw [nB 79 (by simp), nB 80 (by simp), nB 81 (by simp)]
    rw [z27, z29, hGK, e1, e2]
    exact m5
  · have e1 : sumS (tZ a 27 0) (fun s' => ask0 (vQ b' (2 * s'))) = sumS (tZ a 27 0) (fun s' => ask0 (vQ b (2 * s'))) := sumS_eq _ (fun s hs => by rw [(hv (2 * s) (by omega)).2])
    rw [z27, z29, nA s (by simp only [List.mem_cons, List.not_mem_nil, or_false] at hs ⊢; omega), e1]
    exact m6 s hs
  · rw [z27] at hs
    rw [hKc, hKT, (hv (2 * s) (by omega)).2, (hv (2 * s + 1) (by omega)).2, z9, z9]
    exact m7 s hs
/-- a step that touches the house's numbers alone -/
theorem Core_kT {D D' : List Nat} {F F' : List (Nat × Nat)} {a a' b b' : TS} {C : Nat} (h : Core a b C) (hR1 : R0 a' b') (ca : chF D F a a') (cb : chF D' F' b b')
    (hd : dpk D F [5, 6, 8, 9, 10, 11, 12, 15, 16, 17, 18, 19, 21, 22, 23, 27, 28, 29, 39] [(31, 2)] = true) (hd25 : 25 ∉ D) (hd' : dpk D' F' [48, 49, 50, 51, 52, 65, 66, 67, 68, 69, 70, 71, 72, 73, 74, 75, 76, 77, 78, 79, 80, 81, 87] [(95, 1), (95, 4), (95, 5)] = true) (gq' : groQ b b') (ht' : Tx a' b') : Core a' b' C := by
  have hd27 : dpk D [] [15, 27, 28, 29] [] = true := by
    have := dpk_sub (S' := [15, 27, 28, 29]) (P' := []) hd (by decide) (by simp)
    unfold dpk at this ⊢
    simp only [List.all_cons, List.all_nil, Bool.and_true, Bool.and_eq_true] at this ⊢
    exact ⟨this.1.1, this.2.1.1, this.2.2.1.1, this.2.2.2.1⟩
  have hP : PS a a' b b' := PS_c ca cb (dpk_sub hd27 (by decide) (by simp)) (dpk_sub hd' (by decide) (by simp))
  refine Core_nT h hR1 (Nt_c h.1.2.1 ca cb ?_ (dpk_sub hd' (by decide) (by decide)) hP.1 (gro_c ca (dpk_sub hd (by decide) (by simp))) gq') ca cb (dpk_sub hd (by decide) (by simp)) hd25 (dpk_sub hd' (by decide) (by decide)) gq' ht'
  rw [Bool.and_eq_true]
  exact ⟨dpk_sub hd27 (by decide) (by simp), dpk_sub hd (by simp) (by simp)⟩
/-- the writes of a reading -/
theorem Core_w {a a' b b' : TS} {C : Nat} (h : Core a b C) (ca : chF [] FsA a a') (wa : Wr a a') (cb : chF [85] FsB b b') (wb : Wr b b') : Core a' b' C := by
  have hR := h.1.1
  have hR1 : R0 a' b' := by
    have ha := ca
    have hb := cb
    obtain ⟨hFC, hFR, hB, hS, hM, hW, hV, hC, hD, hE, hP, hQ, hH, hK, hG, hO, hZ⟩ := hR
    exact ⟨FxC_s hFC wa ha (by decide), FxR_s hFR wb hb (by decide), RB_c hB ha hb (by decide) (by decide), RS_c hS ha hb (by decide) (by decide), RM_c hM ha hb (by decide) (by decide), RW_c hW ha hb (by decide) (by decide), RV_c hV ha hb (by decide) (by decide), RC_c hC ha hb (by decide) (by decide), RD_c hD ha hb (by decide) (by decide), RE_c hE ha hb (by decide) (by decide), RP_c hP ha hb (by decide) (by decide), RQ_c hQ ha hb (by decide) (by decide), RH_c hH ha hb (by decide) (by decide), RK_c hK ha hb (by decide) (by decide) (gro_c ha (by decide)) (gro_c ha (by decide)) (gro_c ha (by decide)) (gro_c ha (by decide)), RG_c hG ha hb (by decide) (by decide), RO_c hO ha hb (by decide) (by decide), RZ_c hZ ha hb (by decide) (by decide)⟩
  have ht' : Tx a' b' := by
    obtain ⟨i13, -, -, -, z13, c13⟩ := ca 13 (by simp)
    obtain ⟨i84, -⟩ := cb 84 (by simp)
    have ht := h.2.2
    unfold Tx at *
    rw [z13, c13]
    refine ⟨ht.1, ht.2.1, ht.2.2.1, fun k hk => ?_⟩
    rw [i13 0 k (by simp [FsA]), i84 0 k (by simp [FsB])]
    exact ht.2.2.2 k hk
  exact Core_kT h hR1 ca cb (by decide) (by simp) (by decide) (groQ_c cb (by decide +kernel)) ht'
/-- the reference's tables of words, and the length of the text -/
def Tw (a b : TS) : Prop := tI b 92 0 3 = Int32.ofNat (tZ a 13 0) ∧ ∀ c, c < 16 → tI b 83 0 c = Int32.ofNat (nN c) ∧ tR b 82 0 c = some (0, 10 + (c + 1))
/-- what holds between calls; n: how many there were -/
def IvH (a b : TS) (n : Nat) : Prop := ∃ C, Core a b C ∧ PcA a ∧ Tw a b ∧ 8 * C + tZ a 13 0 ≤ 8 * n
/-- what a public method and the reference's say, whatever they do -/
def PubT {α : Type} (mv : α → AV) (cm : Nat) (ca : List AV) (rm : Nat) (ra : List AV) (kf : Nat → Nat) (a b : TS) (n : Nat) : Prop :=
  (∃ r v a' b', 1 ≤ r ∧ r ≤ 3 ∧ kf (r + 10) ≠ 99 ∧ (∀ z, Zk z → Ex cm ca (enc 1 a z) = some (.inr (exN r), enc 1 (aC a' 1 6) z)) ∧ (∀ z, Zk z → Ex rm ra (enc 2 b z) = some (.inl (some (mv v)), enc 2 b' z)) ∧ tI b' 97 0 8 = Int32.ofNat (kf r) ∧ IvH a' b' (n + 1) ∧ Wr a a' ∧ Wr b b') ∨
  (∃ v a' b', (∀ z, Zk z → Ex cm ca (enc 1 a z) = some (.inl (some (mv v)), enc 1 a' z)) ∧ (∀ z, Zk z → Ex rm ra (enc 2 b z) = some (.inl (some (mv v)), enc 2 b' z)) ∧ tI b' 97 0 8 = 0 ∧ IvH a' b' (n + 1) ∧ Wr a a' ∧ Wr b b')
theorem Tw_s {a a' b b' : TS} (h : Tw a b) (ha : sam0 txA a a') (hb : sam0 txB b b') : Tw a' b' := by
  obtain ⟨-, -, -, z13, -⟩ := ha 13 (by simp [txA])
  obtain ⟨i92, -⟩ := hb 92 (by simp [txB])
  obtain ⟨i83, -⟩ := hb 83 (by simp [txB])
  obtain ⟨-, r82, -⟩ := hb 82 (by simp [txB])
  refine ⟨by rw [i92, z13]; exact h.1, fun c hc => ?_⟩
  rw [i83, r82]
  exact h.2 c hc
theorem pub_T {α : Type} {mv : α → AV} {cm : Nat} {ca : List AV} {rm : Nat} {ra : List AV} {kf : Nat → Nat} {a b : TS} {C C' n : Nat} (hp : PcA a) (ht : Tw a b) (hB : 8 * C + tZ a 13 0 ≤ 8 * n) (hC : C' ≤ C + 1) (h : PubR mv cm ca rm ra kf a b C C') : PubT mv cm ca rm ra kf a b n := by
  rcases h with ⟨r, v, b', r1, r3, hok, hx, hy, hk, hc, hw, hs⟩ | ⟨v, a', b', hx, hy, hk, hc, hw, hw', hs, hs'⟩
  · exact Or.inl ⟨r, v, a, b', r1, r3, hok, fun z _ => hx z, fun z _ => hy z, hk, ⟨C, hc, hp, Tw_s ht (sam0_r _ _) hs.1, by omega⟩, Wr.rf _, hw⟩
  · have z13 : tZ a' 13 0 = tZ a 13 0 := (hs.1 13 (by simp [txA])).2.2.2.1 0
    exact Or.inr ⟨v, a', b', fun z _ => hx z, fun z _ => hy z, hk, ⟨C', hc, hs.2 rfl hp, Tw_s ht hs.1 hs'.1, by omega⟩, hw, hw'⟩
/-- the signs of the text -/
def gOf (a : TS) (k : Nat) : Nat := (tI a 13 0 k).toNatClampNeg
theorem Sn_AB {a b : TS} {C : Nat} (h : Core a b C) (ht : Tw a b) : SnA a (gOf a) (tZ a 13 0) ∧ SnB b (gOf a) (tZ a 13 0) := by
  obtain ⟨t1, t2, t3, t4⟩ := h.2.2
  have key : ∀ k, k < tZ a 13 0 → tI a 13 0 k = Int32.ofNat (gOf a k) ∧ tI b 84 0 k = Int32.ofNat (gOf a k) ∧ 32 ≤ gOf a k ∧ gOf a k ≤ 126 := fun k hk => by
    obtain ⟨n, n1, n2, n3, n4⟩ := t4 k hk
    have : gOf a k = n := by
      unfold gOf
      rw [n3]
      exact o_ix (by omega)
    rw [this]
    exact ⟨n3, n4, n1, n2⟩
  refine ⟨⟨r_FC h.1.1, rfl, t1, fun k hk => ?_⟩, ⟨r_FR h.1.1, t1, ht.1, fun k hk => ?_, ht.2⟩⟩
  · obtain ⟨k1, k2, k3⟩ := key k hk
    exact ⟨k1, k3⟩
  · obtain ⟨k1, k2, k3⟩ := key k hk
    exact ⟨k2, k3⟩
theorem Tw_w {a a' b b' : TS} (h : Tw a b) (ca : chF [] FsA a a') (cb : chF [85] FsB b b') : Tw a' b' := by
  obtain ⟨-, -, -, -, z13, -⟩ := ca 13 (by simp)
  obtain ⟨i92, -⟩ := cb 92 (by simp)
  obtain ⟨i83, -⟩ := cb 83 (by simp)
  obtain ⟨-, -, r82, -⟩ := cb 82 (by simp)
  refine ⟨by rw [i92 0 3 (by decide), z13]; exact h.1, fun c hc => ?_⟩
  rw [i83 0 c (by simp [FsB]), r82]
  exact h.2 c hc
theorem Tw_th {a b b' : TS} (h : Tw a b) (cb : chF [] FtH b b') : Tw a b' := by
  obtain ⟨i92, -⟩ := cb 92 (by simp)
  obtain ⟨i83, -⟩ := cb 83 (by simp)
  obtain ⟨-, -, r82, -⟩ := cb 82 (by simp)
  refine ⟨by rw [i92 0 3 (by decide)]; exact h.1, fun c hc => ?_⟩
  rw [i83 0 c (by simp [FtH]), r82]
  exact h.2 c hc
/-- the first fault of the text -/
theorem t_fault {a b : TS} {n : Nat} {kf : Nat → Nat} (h : IvH a b n) : PubT aI 78 [aR (some (96, 0))] 259 [aR (some (97, 0))] kf a b n := by
  obtain ⟨C, hc, hp, ht, hB⟩ := h
  obtain ⟨sa, sb⟩ := Sn_AB hc ht
  obtain ⟨a', e1, e2, e3⟩ := x52 sa
  obtain ⟨b', d1, d2, d3, -⟩ := y222 sb
  have hc1 := Core_w hc e2 e3 d2 d3
  have hF := r_FC hc.1.1
  have hFR := r_FR hc.1.1
  have hFR' := r_FR hc1.1.1
  have f252 := fun v z => y252 (b := b') (z := z) (v := v) hFR'
  have ct : chF [] FtH b' (sI b' 97 0 8 0) := th_c
  have z13 : tZ a' 13 0 = tZ a 13 0 := (e2 13 (by simp)).2.2.2.2.1 0
  refine Or.inr ⟨ffV (rdA (gOf a) (tZ a 13 0) 601 0), a', sI b' 97 0 8 0, fun z hz => ?_, fun z hz => ?_, th_v, ⟨C, Core_th hc1 ct th_w, PcA_c e2 (by decide) (by decide) hp, Tw_th (Tw_w ht e2 d2) ct, by omega⟩, e3, d3.t th_w⟩
  · refine (X_in (by decide +kernel) (fcN_96 hF) rfl).trans ((lf_78_0 ..).trans ?_)
    simp (config := {decide := true}) only [gfI_enc, gfL_enc, gfR_enc, pfI_enc, pfL_enc, pfR_enc, Option.bind_some, cI_v, cL_v, cF_v, cD_v, cR_v, cV_v, cI_x, cL_x, cR_x, cV_x, gz_0, gz_1, acc_enc, tI_sI, tL_sI, tR_sI, tN_sI, tZ_sI, tC_sI, tc_sI, tz_sI, tI_sL, tL_sL, tR_sL, tN_sL, tZ_sL, tC_sL, tc_sL, tz_sL, tI_sR, tL_sR, tR_sR, tN_sR, tZ_sR, tC_sR, tc_sR, tz_sR, tI_sZ, tL_sZ, tR_sZ, tN_sZ, tZ_sZ, tC_sZ, tc_sZ, tz_sZ, tI_sC, tL_sC, tR_sC, tN_sC, tZ_sC, tC_sC, tc_sC, tz_sC, tI_aC, tL_aC, tR_aC, tN_aC, tZ_aC, tC_aC, tc_aC, tz_aC, tI_rmL, tL_rmL, tR_rmL, tN_rmL, tZ_rmL, tC_rmL, tc_rmL, tz_rmL, tI_mk, tL_mk, tR_mk, tN_mk, tZ_mk, tC_mk, tc_mk, tz_mk, tI_pushL, tL_pushL, tR_pushL, tN_pushL, tZ_pushL, tC_pushL, tc_pushL, tz_pushL, tI_pushB, tL_pushB, tR_pushB, tN_pushB, tZ_pushB, tC_pushB, tc_pushB, tz_pushB, tI_cpL, tL_cpL, tR_cpL, tN_cpL, tZ_cpL, tC_cpL, tc_cpL, tz_cpL, eq_self, true_and, and_true, false_and, and_false, if_true, if_false, reduceIte, ite_true, ite_false, not_true_eq_false, not_false_eq_true, fcN_96 hF, fcR_96_0 hF, e1 z hz]
  · refine (X_in (by decide +kernel) (frN_97 hFR) rfl).trans ((lf_259_0 ..).trans ?_)
    simp (config := {decide := true}) only [gfI_enc, gfL_enc, gfR_enc, pfI_enc, pfL_enc, pfR_enc, Option.bind_some, cI_v, cL_v, cF_v, cD_v, cR_v, cV_v, cI_x, cL_x, cR_x, cV_x, gz_0, gz_1, acc_enc, tI_sI, tL_sI, tR_sI, tN_sI, tZ_sI, tC_sI, tc_sI, tz_sI, tI_sL, tL_sL, tR_sL, tN_sL, tZ_sL, tC_sL, tc_sL, tz_sL, tI_sR, tL_sR, tR_sR, tN_sR, tZ_sR, tC_sR, tc_sR, tz_sR, tI_sZ, tL_sZ, tR_sZ, tN_sZ, tZ_sZ, tC_sZ, tc_sZ, tz_sZ, tI_sC, tL_sC, tR_sC, tN_sC, tZ_sC, tC_sC, tc_sC, tz_sC, tI_aC, tL_aC, tR_aC, tN_aC, tZ_aC, tC_aC, tc_aC, tz_aC, tI_rmL, tL_rmL, tR_rmL, tN_rmL, tZ_rmL, tC_rmL, tc_rmL, tz_rmL, tI_mk, tL_mk, tR_mk, tN_mk, tZ_mk, tC_mk, tc_mk, tz_mk, tI_pushL, tL_pushL, tR_pushL, tN_pushL, tZ_pushL, tC_pushL, tc_pushL, tz_pushL, tI_pushB, tL_pushB, tR_pushB, tN_pushB, tZ_pushB, tC_pushB, tc_pushB, tz_pushB, tI_cpL, tL_cpL, tR_cpL, tN_cpL, tZ_cpL, tC_cpL, tc_cpL, tz_cpL, eq_self, true_and, and_true, false_and, and_false, if_true, if_false, reduceIte, ite_true, ite_false, not_true_eq_false, not_false_eq_true, frN_97 hFR, frR_97_1 hFR, d1 z hz, f252]
