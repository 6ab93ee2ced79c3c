/-! ===== a DONE is heard alike by its terminal ===== -/
/-- both sides see the same key -/
theorem key_eq {a b : TS} {s c i : Nat} {q' : Nat × Nat} {d0 d1 d11 e8 : Int32} (h : upM a b s (mv a c i) (qv b (some q'))) (hk : kcd a b s (mv a c i)) (hd : d0 = 2 ∧ e8 = 1 ∨ d0 = 3 ∧ e8 = 2 ∨ d0 = 4 ∧ e8 = 3) :
    (tI b q'.1 q'.2 0 = e8 ∧ tI b q'.1 q'.2 1 = d1 ∧ tI b q'.1 q'.2 7 = d11) ↔ (tI a c i 0 = d0 ∧ tI a c i 1 = d1 ∧ tI a c i 11 = d11) := by
  have e0 : mv a c i 0 = tI a c i 0 := mv_at (Or.inl ⟨by decide, by decide⟩)
  have e1 : mv a c i 1 = tI a c i 1 := mv_at (Or.inl ⟨by decide, by decide⟩)
  have e11 : mv a c i 11 = tI a c i 11 := mv_at (Or.inl ⟨by decide, by decide⟩)
  have f0 : qv b (some q') 0 = tI b q'.1 q'.2 0 := qv_at (by decide)
  have f1 : qv b (some q') 1 = tI b q'.1 q'.2 1 := qv_at (by decide)
  have f7 : qv b (some q') 7 = tI b q'.1 q'.2 7 := qv_at (by decide)
  obtain ⟨u1, u2, u3, u4, u5⟩ := h
  rw [f7, e11] at u3
  rw [f1, e1] at u4
  rw [u3, u4]
  have h0 : (tI b q'.1 q'.2 0 = e8) ↔ (tI a c i 0 = d0) := by
    rw [e0, f0] at u5
    rcases u5 with ⟨v1, -⟩ | ⟨v1, v2, -⟩ | ⟨v1, v2, -⟩ | ⟨v1, v2, -⟩
    · unfold kcd at hk
      rw [e0, v1] at hk
      rcases hk with ⟨e, -⟩ | ⟨e, -⟩ | ⟨e, -⟩ <;> exact absurd e (by decide)
    all_goals
      rw [v1, v2]
      rcases hd with ⟨x, y⟩ | ⟨x, y⟩ | ⟨x, y⟩ <;> subst x <;> subst y <;> decide
  rw [h0]
theorem keyA_at (a : TS) (c i : Nat) (d0 d1 d11 : Int32) : keyA a (some (c, i)) = (d0, d1, d11) ↔ (tI a c i 0 = d0 ∧ tI a c i 1 = d1 ∧ tI a c i 11 = d11) := by
  unfold keyA
  dsimp only
  rw [Prod.mk.injEq, Prod.mk.injEq]
/-- the rows after one of the kept is forgotten -/
def fgB (b : TS) (sh j n : Nat) : TS := sI (itr (shf1 67 0 66 0 (500 * sh + j)) (n - 1 - j) b) 68 0 sh (Int32.ofNat (n - 1))
theorem fgB_eq (b : TS) (sh j n : Nat) (hj : j < n) : (∀ k, tI (fgB b sh j n) 67 0 k = if 500 * sh + j ≤ k ∧ k < 500 * sh + (n - 1) then tI b 67 0 (k + 1) else tI b 67 0 k) ∧ (∀ k, tR (fgB b sh j n) 66 0 k = if 500 * sh + j ≤ k ∧ k < 500 * sh + (n - 1) then tR b 66 0 (k + 1) else tR b 66 0 k) ∧ (∀ k, tI (fgB b sh j n) 68 0 k = if k = sh then Int32.ofNat (n - 1) else tI b 68 0 k) ∧ chF [66, 67, 68] [] b (fgB b sh j n) ∧ Wr b (fgB b sh j n) := by
  obtain ⟨i1, i2, i3, i4⟩ := itr_shf (ds := 67) (di := 0) (ms := 66) (mi := 0) (p := 500 * sh + j) (m := b) (by decide) (n - 1 - j)
  have hw : Wr b (fgB b sh j n) := by
    unfold fgB
    exact (itr_stp (fun m k => ((Wr.rf m).cI _ _ _ _).cR _ _ _ _) _ _).cI _ _ _ _
  have hc : chF [66, 67, 68] [] b (fgB b sh j n) := by
    unfold fgB
    exact chF_I (by simp) (chF_g (itr_chg (fun M k => chg_sR (by simp) (chg_sI (by simp) (chg_r _ _))) _ _))
  refine ⟨fun k => ?_, fun k => ?_, fun k => ?_, hc, hw⟩
  · unfold fgB
    rw [tI_sI, if_neg (fun q => absurd q.1 (by decide)), i1]
    by_cases e : 500 * sh + j ≤ k ∧ k < 500 * sh + (n - 1)
    · rw [if_pos e, if_pos ⟨rfl, rfl, by omega, by omega⟩]
    · rw [if_neg e, if_neg (fun q => e ⟨q.2.2.1, by omega⟩)]
  · unfold fgB
    rw [tR_sI, i2]
    by_cases e : 500 * sh + j ≤ k ∧ k < 500 * sh + (n - 1)
    · rw [if_pos e, if_pos ⟨rfl, rfl, by omega, by omega⟩]
    · rw [if_neg e, if_neg (fun q => e ⟨q.2.2.1, by omega⟩)]
  · unfold fgB
    rw [tI_sI]
    by_cases e : k = sh
    · rw [if_pos e, if_pos ⟨rfl, rfl, e⟩]
    · rw [if_neg e, if_neg (fun q => e q.2.2), i1, if_neg (fun q => absurd q.1 (by decide))]
set_option maxHeartbeats 4000000 in
theorem sim_fgt {a b : TS} {sh r : Nat} {q : Nat × Nat} {d0 d1 d11 e8 : Int32} (hR : R0 a b) (hK : Kp a b) (hsh : sh < tZ a 27 0) (hr : r < tN a 10) (hq : isQ q.1) (hqi : q.2 < tN b q.1) (m0 : tI a 10 r 0 = d0) (m1 : tI a 10 r 1 = d1) (m11 : tI a 10 r 11 = d11)
    (hd : d0 = 2 ∧ e8 = 1 ∨ d0 = 3 ∧ e8 = 2 ∨ d0 = 4 ∧ e8 = 3) (q8 : tI b q.1 q.2 8 = e8) (q1 : tI b q.1 q.2 1 = d1) (q7 : tI b q.1 q.2 7 = d11) :
    ∃ a' b', (∀ z, Ex 73 [aR (some (36, sh)), aR (some (10, r))] (enc 1 a z) = some (.inl none, enc 1 a' z)) ∧ (∀ z, Ex 210 [aR (some (95, 0)), aI (Int32.ofNat sh), aR (some q)] (enc 2 b z) = some (.inl none, enc 2 b' z)) ∧
      R0 a' b' ∧ Kp a' b' ∧ chF [19] [] a a' ∧ chF [66, 67, 68] [] b b' ∧ PS a a' b b' ∧ Wr a a' ∧ Wr b b' ∧ (∀ s, tN a' s = tN a s) ∧ (∀ s, tN b' s = tN b s) ∧ (∀ s, s < tZ a 27 0 → Ers (KTs a b s) (KTs a' b' s))  ∧ FgtP a b a' b' sh (d0, d1, d11) := by
  have hfr := r_FR hR
  have hK1 := hK.1 sh hsh
  obtain ⟨S1, S2, ⟨S3, S4, S5', S6, S7, S8⟩, S9, S10⟩ := r_S hR
  obtain ⟨T1, T2, T3, T4, T5, T6, T7, T8, T9, T10, T11⟩ := S10 sh hsh
  obtain ⟨K1, K2, K3, K4, K5⟩ := hK1
  generalize hn : tZ a 19 sh = n at *
  have h36 : sh < tN a 36 := by omega
  have h19 : sh < tN a 19 := by omega
  -- what a kept one looks like
  have at' : ∀ k, k < n → ∃ c i q', tR a 19 sh k = some (c, i) ∧ isM c ∧ i < tN a c ∧ tR b 66 0 (500 * sh + k) = some q' ∧ isQ q'.1 ∧ q'.2 < tN b q'.1 ∧ ((tI b q'.1 q'.2 0 = e8 ∧ tI b q'.1 q'.2 1 = d1 ∧ tI b q'.1 q'.2 7 = d11) ↔ (tI a c i 0 = d0 ∧ tI a c i 1 = d1 ∧ tI a c i 11 = d11)) ∧ (keyA a (tR a 19 sh k) = (d0, d1, d11) ↔ (tI a c i 0 = d0 ∧ tI a c i 1 = d1 ∧ tI a c i 11 = d11)) := fun k hk => by
    obtain ⟨c, i, q', k1, k2, k3, k4, k5, k6, -, k8, k9, k10⟩ := K4 k hk
    exact ⟨c, i, q', k1, isKp_M k3, k4, k2, k5, k6, key_eq k8 k10 hd, by rw [k1]; exact keyA_at a c i d0 d1 d11⟩
  have goA : ∀ z, Ex 73 [aR (some (36, sh)), aR (some (10, r))] (enc 1 a z) = Ru 73 2 [(0, aR (some (36, sh))), (1, aR (some (10, r))), (2, aI 0)] [] (enc 1 a z) := fun z => (X_in (by decide +kernel) h36 rfl).trans (lf_73_0 ..)
  have goB : ∀ z, Ex 210 [aR (some (95, 0)), aI (Int32.ofNat sh), aR (some q)] (enc 2 b z) = Ru 210 12 [(0, aR (some (95, 0))), (1, aI (Int32.ofNat sh)), (2, aR (some q)), (3, aI (Int32.ofNat (500 * sh))), (4, aI 0), (5, aI 0)] [] (enc 2 b z) := fun z => by
    refine (X_in (by decide +kernel) (frN_95 hfr) rfl).trans ((lf_210_0 ..).trans ?_)
    rw [o_500]
  have toA : ∀ z j, j ≤ n → (∀ k, k < j → keyA a (tR a 19 sh k) ≠ (d0, d1, d11)) → Ru 73 2 [(0, aR (some (36, sh))), (1, aR (some (10, r))), (2, aI 0)] [] (enc 1 a z) = Ru 73 2 [(0, aR (some (36, sh))), (1, aR (some (10, r))), (2, aI (Int32.ofNat j))] [] (enc 1 a z) := by
    intro z j
    induction j with
    | zero => exact fun _ _ => rfl
    | succ j ih =>
      intro hj hne
      rw [ih (by omega) (fun k hk => hne k (by omega))]
      obtain ⟨c, i, q', k1, k2, k3, k4, k5, k6, k7, k8⟩ := at' j (by omega)
      rw [x73_2 h36 T9 h19 hn K3 (by omega) k1 k2 k3 hr m0 m1 m11, if_neg (fun e => hne j (by omega) (k8.mpr e))]
  have toB : ∀ z j, j ≤ n → (∀ k, k < j → keyA a (tR a 19 sh k) ≠ (d0, d1, d11)) → Ru 210 12 [(0, aR (some (95, 0))), (1, aI (Int32.ofNat sh)), (2, aR (some q)), (3, aI (Int32.ofNat (500 * sh))), (4, aI 0), (5, aI 0)] [] (enc 2 b z) = Ru 210 12 [(0, aR (some (95, 0))), (1, aI (Int32.ofNat sh)), (2, aR (some q)), (3, aI (Int32.ofNat (500 * sh))), (4, aI (Int32.ofNat j)), (5, aI (Int32.ofNat j))] [] (enc 2 b z) := by
    intro z j
    induction j with
    | zero => exact fun _ _ => rfl
    | succ j ih =>
      intro hj hne
      rw [ih (by omega) (fun k hk => hne k (by omega))]
      obtain ⟨c, i, q', k1, k2, k3, k4, k5, k6, k7, k8⟩ := at' j (by omega)
      rw [y210_12 hfr (by omega) (Nat.le_refl j) (by omega) K3 K2 k4 k5 k6 hq hqi q8 q1 q7, if_neg (fun e => hne j (by omega) (k8.mpr (k7.mp e))), sR_self k4, sI_self _ _ _ _ rfl]
  by_cases hx : ∃ j, j < n ∧ keyA a (tR a 19 sh j) = (d0, d1, d11)
  · obtain ⟨j, j1, j2⟩ := hx
    have first : ∀ k, k < j → keyA a (tR a 19 sh k) ≠ (d0, d1, d11) := fun k hk e => K5 k j hk j1 (congrArg kN (e.trans j2.symm))
    have after : ∀ k, j < k → k < n → keyA a (tR a 19 sh k) ≠ (d0, d1, d11) := fun k hk hkn e => K5 j k hk hkn (congrArg kN (j2.trans e.symm))
    -- the reference's second half
    have run : ∀ z m, m ≤ n - 1 - j → Ru 210 12 [(0, aR (some (95, 0))), (1, aI (Int32.ofNat sh)), (2, aR (some q)), (3, aI (Int32.ofNat (500 * sh))), (4, aI (Int32.ofNat j)), (5, aI (Int32.ofNat (j + 1)))] [] (enc 2 b z) = Ru 210 12 [(0, aR (some (95, 0))), (1, aI (Int32.ofNat sh)), (2, aR (some q)), (3, aI (Int32.ofNat (500 * sh))), (4, aI (Int32.ofNat (j + m))), (5, aI (Int32.ofNat (j + 1 + m)))] [] (enc 2 (itr (shf1 67 0 66 0 (500 * sh + j)) m b) z) := by
      intro z m
      induction m with
      | zero => exact fun _ => rfl
      | succ m ih =>
        intro hm
        rw [ih (by omega)]
        obtain ⟨i1, i2, i3, i4⟩ := itr_shf (ds := 67) (di := 0) (ms := 66) (mi := 0) (p := 500 * sh + j) (m := b) (by decide) m
        obtain ⟨c, i, q', k1, k2, k3, k4, k5, k6, k7, k8⟩ := at' (j + 1 + m) (by omega)
        have w : Wr b (itr (shf1 67 0 66 0 (500 * sh + j)) m b) := itr_stp (fun m k => ((Wr.rf m).cI _ _ _ _).cR _ _ _ _) _ _
        have wc : chF [66, 67] [] b (itr (shf1 67 0 66 0 (500 * sh + j)) m b) := chF_g (itr_chg (fun M k => chg_sR (by simp) (chg_sI (by simp) (chg_r _ _))) _ _)
        have hf : FxR (itr (shf1 67 0 66 0 (500 * sh + j)) m b) := FxR_s hfr w wc (by decide)
        have qI : ∀ (x : Nat × Nat), isQ x.1 → ∀ f, tI (itr (shf1 67 0 66 0 (500 * sh + j)) m b) x.1 x.2 f = tI b x.1 x.2 f := fun x hx f => by
          rw [i1, if_neg (fun y => isO_ne hx (t := 67) (by decide +kernel) y.1)]
        have e0 : itr (shf1 67 0 66 0 (500 * sh + j)) (m + 1) b = shf1 67 0 66 0 (500 * sh + j) (itr (shf1 67 0 66 0 (500 * sh + j)) m b) m := rfl
        have r66 : tR (itr (shf1 67 0 66 0 (500 * sh + j)) m b) 66 0 (500 * sh + (j + 1 + m)) = some q' := by rw [i2, if_neg (fun y => by omega)]; exact k4
        have r66' : tR (itr (shf1 67 0 66 0 (500 * sh + j)) m b) 66 0 (500 * sh + j + m + 1) = some q' := by rw [show 500 * sh + j + m + 1 = 500 * sh + (j + 1 + m) by omega]; exact r66
        rw [e0]
        have st := fun z => y210_12 (z := z) (sh := sh) (l := j + m) (k := j + 1 + m) hf (by omega) (by omega) (by omega) K3 (by rw [i1, if_neg (fun y => absurd y.1 (by decide))]; exact K2) r66 k5 (by rw [i3]; exact k6) hq (by rw [i3]; exact hqi) ((qI q hq 8).trans q8) ((qI q hq 1).trans q1) ((qI q hq 7).trans q7)
        rw [qI q' k5, qI q' k5, qI q' k5] at st
        generalize itr (shf1 67 0 66 0 (500 * sh + j)) m b = M at *
        rw [st, if_neg (fun e => after (j + 1 + m) (by omega) (by omega) (k8.mpr (k7.mp e))), sIsR]
        unfold shf1
        rw [r66', show 500 * sh + (j + m) = 500 * sh + j + m by omega, show 500 * sh + (j + 1 + m) = 500 * sh + j + m + 1 by omega]
        rfl
    obtain ⟨v1, v2, v3, cb, wb⟩ := fgB_eq b sh j n j1
    obtain ⟨c, i, q', k1, k2, k3, k4, k5, k6, k7, k8⟩ := at' j j1
    have yB : ∀ z, Ex 210 [aR (some (95, 0)), aI (Int32.ofNat sh), aR (some q)] (enc 2 b z) = some (.inl none, enc 2 (fgB b sh j n) z) := fun z => by
      rw [goB, toB z j (by omega) first, y210_12 hfr (by omega) (Nat.le_refl j) j1 K3 K2 k4 k5 k6 hq hqi q8 q1 q7, if_pos (k7.mpr (k8.mp j2)), run z (n - 1 - j) (Nat.le_refl _), show j + (n - 1 - j) = n - 1 by omega, show j + 1 + (n - 1 - j) = n by omega]
      obtain ⟨i1, i2, i3, i4⟩ := itr_shf (ds := 67) (di := 0) (ms := 66) (mi := 0) (p := 500 * sh + j) (m := b) (by decide) (n - 1 - j)
      have w : Wr b (itr (shf1 67 0 66 0 (500 * sh + j)) (n - 1 - j) b) := itr_stp (fun m k => ((Wr.rf m).cI _ _ _ _).cR _ _ _ _) _ _
      have wc : chF [66, 67] [] b (itr (shf1 67 0 66 0 (500 * sh + j)) (n - 1 - j) b) := chF_g (itr_chg (fun M k => chg_sR (by simp) (chg_sI (by simp) (chg_r _ _))) _ _)
      exact y210_end (FxR_s hfr w wc (by decide)) (by omega) (by rw [i1, if_neg (fun y => absurd y.1 (by decide))]; exact K2)
    have xA : ∀ z, Ex 73 [aR (some (36, sh)), aR (some (10, r))] (enc 1 a z) = some (.inl none, enc 1 (rmL a 19 sh j) z) := fun z => by
      rw [goA, toA z j (by omega) first, x73_2 h36 T9 h19 hn K3 j1 k1 k2 k3 hr m0 m1 m11, if_pos (k8.mp j2)]
    have ca : chF [19] [] a (rmL a 19 sh j) := chF_g (chg_rmL (by simp) (chg_r _ _))
    have wa : Wr a (rmL a 19 sh j) := (Wr.rf _).cX _ _ _ (by decide +kernel)
    have fN : ∀ s, tN (fgB b sh j n) s = tN b s := fun s => by
      unfold fgB
      rw [tN_sI]
      exact (itr_shf (ds := 67) (di := 0) (ms := 66) (mi := 0) (p := 500 * sh + j) (m := b) (by decide) (n - 1 - j)).2.2.1 s
    generalize fgB b sh j n = b' at *
    have hR' : R0 (rmL a 19 sh j) b' := by
      have ha := ca
      have hb := cb
      obtain ⟨hFC, hFR, hB, hS, hM, hW, hV, hC, hD, hE, hP, hQ, hH, hK, hG, hO, hZ⟩ := hR
      have hS2 : RS (rmL a 19 sh j) b' := RS_w hS ha hb (by decide) (by decide) rfl rfl rfl rfl rfl (fun _ => rfl)
      exact ⟨FxC_s hFC wa ha (by decide), FxR_s hFR wb hb (by decide), RB_c hB ha hb (by decide) (by decide), hS2, RM_c hM ha hb (by decide) (by decide), RW_c hW ha hb (by decide) (by decide), RV_c hV ha hb (by decide) (by decide), RC_c hC ha hb (by decide) (by decide), RD_c hD ha hb (by decide) (by decide), RE_c hE ha hb (by decide) (by decide), RP_c hP ha hb (by decide) (by decide), RQ_c hQ ha hb (by decide) (by decide), RH_c hH ha hb (by decide) (by decide), RK_c hK ha hb (by decide) (by decide) (gro_c ha (by decide)) (gro_c ha (by decide)) (gro_c ha (by decide)) (gro_c ha (by decide)), RG_c hG ha hb (by decide) (by decide), RO_c hO ha hb (by decide) (by decide), RZ_c hZ ha hb (by decide) (by decide)⟩
    have hP : PS a (rmL a 19 sh j) b b' := PS_c ca cb (by decide) (by decide)
    have hst : Kst a (rmL a 19 sh j) b b' := ⟨hP, gro_c ca (by decide), gro_c ca (by decide), gro_c ca (by decide), groQ_c cb (by decide +kernel), fun p _ h => by rw [dIS cb (S := [87]) (P := []) (s := 87) (by decide) (by simp)]; exact h, fun p _ h => by rw [dIS cb (S := [70]) (P := []) (s := 70) (by decide) (by simp)]; exact h, fun s m _ h h' => ⟨m, by rw [dIS cb (S := [69]) (P := []) (s := 69) (by decide) (by simp)]; exact h, Nat.le_refl _, h'⟩⟩
    have out : ∀ s, tZ (rmL a 19 sh j) 27 0 ≤ s → tI b' 68 0 s = 0 := fun s hs => by
      have hs : tZ a 27 0 ≤ s := hs
      rw [v3, if_neg (by omega)]
      exact hK.2 s hs
    have hFg : FgtP a b (rmL a 19 sh j) b' sh (d0, d1, d11) := by
      refine ⟨fun s hs e => kL_eq (by rw [tZ_rmL, if_neg (fun q => e q.2)]) (fun k hk => ?_), Or.inl ⟨j, by rw [hn]; exact j1, j2, kL_er hn j1 (by rw [tZ_rmL, if_pos ⟨rfl, rfl⟩, hn]) (fun k hk => ?_)⟩⟩
      · have h5 := (hK.1 s hs).2.2.1
        unfold kR3
        rw [tR_rmL, if_neg (fun q => e q.2), v1, v2, if_neg (by omega), if_neg (by omega)]
      · unfold kR3
        rw [tR_rmL, if_pos ⟨rfl, rfl⟩, v1, v2]
        by_cases l : k < j
        · rw [if_pos l, if_pos l, if_neg (by omega), if_neg (by omega)]
        · rw [if_neg l, if_neg l, if_pos (by omega), if_pos (by omega)]
          rfl
    refine ⟨_, _, xA, yB, hR', ⟨fun s hs => ?_, out⟩, ca, cb, hP, wa, wb, fun _ => rfl, fN, fun s hs => ?_, hFg⟩
    · have hs : s < tZ a 27 0 := hs
      by_cases e : s = sh
      · subst e
        have src : ∀ k, k < n - 1 → tR (rmL a 19 s j) 19 s k = tR a 19 s (if k < j then k else k + 1) ∧ tR b' 66 0 (500 * s + k) = tR b 66 0 (500 * s + (if k < j then k else k + 1)) ∧ tI b' 67 0 (500 * s + k) = tI b 67 0 (500 * s + (if k < j then k else k + 1)) := fun k hk => by
          rw [tR_rmL, if_pos ⟨rfl, rfl⟩, v1, v2]
          by_cases l : k < j
          · rw [if_pos l, if_pos l, if_neg (by omega), if_neg (by omega)]
            exact ⟨rfl, rfl, rfl⟩
          · rw [if_neg l, if_neg l, if_pos (by omega), if_pos (by omega)]
            exact ⟨rfl, rfl, rfl⟩
        have z19 : tZ (rmL a 19 s j) 19 s = n - 1 := by rw [tZ_rmL, if_pos ⟨rfl, rfl⟩, hn]
        refine ⟨?_, by rw [v3, if_pos rfl, z19], by rw [z19]; omega, fun k hk => ?_, fun k k' l hk' => ?_⟩
        · unfold capOK at *
          rw [z19]
          show n - 1 ≤ tC a 19 s ∧ tC a 19 s < 3000 ∧ (tC a 19 s = 0 ∨ 10 ≤ tC a 19 s)
          omega
        · rw [z19] at hk
          obtain ⟨w1, w2, w3⟩ := src k hk
          exact keptM_c (K4 (if k < j then k else k + 1) (by split <;> omega)) hs hst w1 w2 w3
        · rw [z19] at hk'
          show kN (keyA a (tR (rmL a 19 s j) 19 s k)) ≠ kN (keyA a (tR (rmL a 19 s j) 19 s k'))
          rw [(src k (by omega)).1, (src k' hk').1]
          exact K5 _ _ (by split <;> split <;> omega) (by split <;> omega)
      · refine Kp1_c (hK.1 s hs) hs hst (by rw [tZ_rmL, if_neg (fun q => e q.2)]) rfl (fun k => by rw [tR_rmL, if_neg (fun q => e q.2)]) (by rw [v3, if_neg e]) (fun k hk => by rw [v2, if_neg (by omega)]) (fun k hk => by rw [v1, if_neg (by omega)])
    · by_cases e : s = sh
      · subst e
        have : KTs (rmL a 19 s j) b' s = (KTs a b s).eraseIdx j := by
          unfold KTs
          rw [tZ_rmL, if_pos ⟨rfl, rfl⟩, hn]
          apply List.ext_getElem?
          intro k
          rw [List.getElem?_eraseIdx]
          by_cases hk : k < j
          · rw [if_pos hk, List.getElem?_map, List.getElem?_map, List.getElem?_range (by omega), List.getElem?_range (by omega), Option.map_some, Option.map_some, v1, if_neg (by omega)]
          · rw [if_neg hk]
            by_cases hk2 : k < n - 1
            · rw [List.getElem?_map, List.getElem?_map, List.getElem?_range hk2, List.getElem?_range (by omega), Option.map_some, Option.map_some, v1, if_pos (by omega)]
              rfl
            · rw [List.getElem?_eq_none (by rw [List.length_map, List.length_range]; omega), List.getElem?_eq_none (by rw [List.length_map, List.length_range]; omega)]
        rw [this]
        exact Ers_i _ _
      · rw [KTs_eq (a := a) (b := b) (a' := rmL a 19 sh j) (b' := b') (s := s) (by rw [tZ_rmL, if_neg (fun q => e q.2)]) (fun k hk => by
          have := (hK.1 s hs).2.2.1
          rw [v1, if_neg (by omega)])]
        exact Ers_r _
  · have none : ∀ k, k < n → keyA a (tR a 19 sh k) ≠ (d0, d1, d11) := fun k hk e => hx ⟨k, hk, e⟩
    refine ⟨a, b, fun z => ?_, fun z => ?_, hR, hK, chF_r _ _ _, chF_r _ _ _, PS_r a b, Wr.rf _, Wr.rf _, fun _ => rfl, fun _ => rfl, fun _ _ => Ers_r _, fun _ _ _ => rfl, Or.inr ⟨by rw [hn]; exact none, rfl⟩⟩
    · rw [goA, toA z n (Nat.le_refl _) none, x73_end h36 T9 h19 hn]
    · rw [goB, toB z n (Nat.le_refl _) none, y210_end hfr (by omega) K2, sI_self _ _ _ _ K2]
