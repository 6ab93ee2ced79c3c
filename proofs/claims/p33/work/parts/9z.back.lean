/-! ===== a BACK MONEY is sent ===== -/
def bmA (a : TS) (p : Nat) (v m : Int32) : TS := sI (sI (cpL (mk a 39 0 0 15) 39 (tN a 39) (iniM 4 (Int32.ofNat p)) [2, 3, 4, 5, 6, 7, 8, 9, 10, 11, 12, 13, 14, 0, 1]) 39 (tN a 39) 5 v) 39 (tN a 39) 11 m
def bmB (b : TS) (p : Nat) (v m : Int32) : TS := sI (sI (sI (sI (mk b 78 0 0 14) 78 (tN b 78) 0 3) 78 (tN b 78) 1 (Int32.ofNat p)) 78 (tN b 78) 4 v) 78 (tN b 78) 7 m
theorem bmA_eq (a : TS) (p : Nat) (v m : Int32) : chF [39] [] a (bmA a p v m) ∧ Wr a (bmA a p v m) ∧ (∀ s, tN (bmA a p v m) s = if s = 39 then tN a 39 + 1 else tN a s) ∧ gro a (bmA a p v m) 39 ∧ (∀ f, mv (bmA a p v m) 39 (tN a 39) f = if f = 0 then 4 else if f = 1 then Int32.ofNat p else if f = 2 then -1 else if f = 5 then v else if f = 11 then m else 0) := by
  have ha : chF [39] [] a (bmA a p v m) := by
    unfold bmA
    exact chF_I (by simp) (chF_I (by simp) (chF_cp (by simp) (chF_mk (by simp) (chF_r _ _ _))))
  have hw : Wr a (bmA a p v m) := by
    unfold bmA
    exact ((Wr.cpL (Wr.cM _ _ _ (by decide +kernel) (by decide) (Wr.rf _)) _ _ _ _).cI _ _ _ _).cI _ _ _ _
  have hN : ∀ s, tN (bmA a p v m) s = if s = 39 then tN a 39 + 1 else tN a s := fun s => by
    unfold bmA
    rw [tN_sI, tN_sI, tN_cpL, tN_mk]
  refine ⟨ha, hw, hN, ⟨by rw [hN, if_pos rfl]; omega, fun i hi k => ?_⟩, fun f => ?_⟩
  · unfold bmA
    rw [tI_sI, if_neg (fun q => by omega), tI_sI, if_neg (fun q => by omega), tI_cpL, if_neg (fun q => by omega), tI_mk, if_neg (fun q => by omega)]
  · unfold mv
    by_cases e : (f < 12 ∧ f ≠ 3) ∨ f = 14
    · rw [if_pos e]
      unfold bmA
      have : f = 0 ∨ f = 1 ∨ f = 2 ∨ f = 4 ∨ f = 5 ∨ f = 6 ∨ f = 7 ∨ f = 8 ∨ f = 9 ∨ f = 10 ∨ f = 11 ∨ f = 14 := by omega
      simp only [tI_sI, tI_cpL, true_and]
      rcases this with q | q | q | q | q | q | q | q | q | q | q | q <;> subst q <;> simp (config := {decide := true}) only [if_true, if_false] <;> rfl
    · rw [if_neg e]
      have : f ≠ 0 ∧ f ≠ 1 ∧ f ≠ 2 ∧ f ≠ 5 ∧ f ≠ 11 := by omega
      rw [if_neg this.1, if_neg this.2.1, if_neg this.2.2.1, if_neg this.2.2.2.1, if_neg this.2.2.2.2]
theorem bmB_eq (b : TS) (p : Nat) (v m : Int32) : chF [78] [] b (bmB b p v m) ∧ Wr b (bmB b p v m) ∧ (∀ s, tN (bmB b p v m) s = if s = 78 then tN b 78 + 1 else tN b s) ∧ groQ b (bmB b p v m) ∧ (∀ f, qv (bmB b p v m) (some (78, tN b 78)) f = if f = 0 then 3 else if f = 1 then Int32.ofNat p else if f = 4 then v else if f = 7 then m else 0) := by
  have ha : chF [78] [] b (bmB b p v m) := by
    unfold bmB
    exact chF_I (by simp) (chF_I (by simp) (chF_I (by simp) (chF_I (by simp) (chF_mk (by simp) (chF_r _ _ _)))))
  have hw : Wr b (bmB b p v m) := by
    unfold bmB
    exact ((((Wr.cM _ _ _ (by decide +kernel) (by decide) (Wr.rf _)).cI _ _ _ _).cI _ _ _ _).cI _ _ _ _).cI _ _ _ _
  have hN : ∀ s, tN (bmB b p v m) s = if s = 78 then tN b 78 + 1 else tN b s := fun s => by
    unfold bmB
    rw [tN_sI, tN_sI, tN_sI, tN_sI, tN_mk]
  refine ⟨ha, hw, hN, fun s hs => ?_, fun f => ?_⟩
  · by_cases e : s = 78
    · subst e
      refine ⟨by rw [hN, if_pos rfl]; omega, fun i hi k => ?_⟩
      unfold bmB
      rw [tI_sI, if_neg (fun q => by omega), tI_sI, if_neg (fun q => by omega), tI_sI, if_neg (fun q => by omega), tI_sI, if_neg (fun q => by omega), tI_mk, if_neg (fun q => by omega)]
    · obtain ⟨c1, c2, c3, c4, c5, c6⟩ := ha s (by simp [e])
      exact ⟨Nat.le_of_eq c4.symm, fun i _ k => c1 i k (by simp)⟩
  · unfold qv
    dsimp only
    by_cases e : f < 14
    · rw [if_pos e]
      unfold bmB
      simp only [tI_sI, tI_mk, true_and, and_self, if_true]
      have : f = 0 ∨ f = 1 ∨ f = 2 ∨ f = 3 ∨ f = 4 ∨ f = 5 ∨ f = 6 ∨ f = 7 ∨ f = 8 ∨ f = 9 ∨ f = 10 ∨ f = 11 ∨ f = 12 ∨ f = 13 := by omega
      rcases this with q | q | q | q | q | q | q | q | q | q | q | q | q | q <;> subst q <;> simp (config := {decide := true}) only [if_true, if_false]
    · rw [if_neg e, if_neg (by omega), if_neg (by omega), if_neg (by omega), if_neg (by omega)]
/-- the number of BACK MONEYs goes up -/
def bnA (a : TS) (s m : Nat) : TS := sI a 36 s 9 (Int32.ofNat m)
def bnB (b : TS) (s m : Nat) : TS := sI b 69 0 s (Int32.ofNat m)
theorem bn_eq (a b : TS) (s m : Nat) : chF [] [(36, 9)] a (bnA a s m) ∧ chF [69] [] b (bnB b s m) ∧ Wr a (bnA a s m) ∧ Wr b (bnB b s m) := ⟨chF_I (by simp) (chF_r _ _ _), chF_I (by simp) (chF_r _ _ _), (Wr.rf _).cI _ _ _ _, (Wr.rf _).cI _ _ _ _⟩
theorem bn_R {a b : TS} {s m : Nat} (hR : R0 a b) (hs : s < tZ a 27 0) (hm : m ≤ 100) : R0 (bnA a s m) (bnB b s m) := by
  obtain ⟨ha, hb, wa, wb⟩ := bn_eq a b s m
  obtain ⟨hFC, hFR, hB, hS, hM, hW, hV, hC, hD, hE, hP, hQ, hH, hK, hG, hO, hZ⟩ := hR
  have hM' : RM (bnA a s m) (bnB b s m) := by
    obtain ⟨e1, e2⟩ := hM
    unfold bnA bnB at *
    refine ⟨fun k hk => ⟨?_, ?_⟩, fun k hk => ?_⟩
    · obtain ⟨⟨n, n1, n2, n3⟩, -⟩ := e1 k hk
      rw [tI_sI, tI_sI]
      by_cases e : k = s
      · exact ⟨m, hm, if_pos ⟨rfl, rfl, e⟩, if_pos ⟨rfl, e, rfl⟩⟩
      · exact ⟨n, n1, by rw [if_neg (fun q => e q.2.2)]; exact n2, by rw [if_neg (fun q => e q.2.1)]; exact n3⟩
    · rw [tI_sI, if_neg (fun q => absurd q.2.2 (by decide)), tI_sI, if_neg (fun q => absurd q.1 (by decide))]
      exact (e1 k hk).2
    · have hk : tZ a 27 0 ≤ k := hk
      rw [tI_sI, if_neg (fun q => by omega), tI_sI, if_neg (fun q => absurd q.1 (by decide))]
      exact e2 k hk
  exact ⟨FxC_s hFC wa ha (by decide), FxR_s hFR wb hb (by decide), RB_c hB ha hb (by decide) (by decide), RS_c hS ha hb (by decide) (by decide), hM', RW_c hW ha hb (by decide) (by decide), RV_c hV ha hb (by decide) (by decide), RC_c hC ha hb (by decide) (by decide), RD_c hD ha hb (by decide) (by decide), RE_c hE ha hb (by decide) (by decide), RP_c hP ha hb (by decide) (by decide), RQ_c hQ ha hb (by decide) (by decide), RH_c hH ha hb (by decide) (by decide), RK_c hK ha hb (by decide) (by decide) (gro_c ha (by decide)) (gro_c ha (by decide)) (gro_c ha (by decide)) (gro_c ha (by decide)), RG_c hG ha hb (by decide) (by decide), RO_c hO ha hb (by decide) (by decide), RZ_c hZ ha hb (by decide) (by decide)⟩
