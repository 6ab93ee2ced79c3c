/-! ===== a payment is given up: alike ===== -/
def gvA (a : TS) (p cd : Nat) (m st : Int32) (G : Prop) [Decidable G] : TS := if G then paA a p cd m st else sI a 38 p 7 4
def gvB (b : TS) (p cd : Nat) (m st : Int32) (G : Prop) [Decidable G] : TS := if G then paB b p cd m st else sI b 87 0 (10 * p + 0) 4
theorem PqP_s {a a1 a2 b b1 b2 : TS} {p : Nat} (h1 : PqS a a1 b b1) (h2 : PqP a1 a2 b1 b2 p) : PqP a a2 b b2 p := by
  obtain ⟨-, x2, x3, x4, x5, x6, x7, x8⟩ := h1
  obtain ⟨y1, y2, y3, y4, y5, y6, y7, y8⟩ := h2
  exact ⟨y1, chF_t x2 y2, chF_t x3 y3, PS_t x4 y4, W87_t x5 y5, fun p h => (y6 p h).trans (x6 p), x7.t y7, x8.t y8⟩
theorem paid_R0 {a b : TS} {p cd : Nat} {m st : Int32} (hR : R0 a b) (hp : p < tZ a 29 0) (hcd : cd < tZ a 28 0) (hs : tI b 87 0 (10 * p) = 1) (hst : st = pst b p 1) : PqP a (paA a p cd m st) b (paB b p cd m st) p := by
  obtain ⟨e1, e2, e3, e4, e5, e6, e7, e8, -⟩ := (r_D hR).1 cd hcd
  have h1 := cd1 (f := 9) (g := 3) (v := tI a 37 cd 9 + 1) hR hcd (by decide) ⟨fun q => absurd q (by decide), fun q => absurd q (by decide), fun q => absurd q (by decide)⟩
  have h2 := cd1 (f := 10) (g := 4) (v := tI a 37 cd 10 + m) h1.1 hcd (by decide) ⟨fun q => absurd q (by decide), fun q => absurd q (by decide), fun q => absurd q (by decide)⟩
  have h12 := PqS_t h1 h2
  have h3 := st5_R0 (p := p) (n := 0) (st := st) h12.1 hp ((h12.2.2.2.2.2.1 p).trans hs) (Or.inl rfl) (by rw [W87_pst h12.2.2.2.2.1]; exact hst)
  have h := PqP_s h12 h3
  unfold paA paB
  rw [← e5, ← e6]
  exact h
theorem gv_R0 {a b : TS} {p cd : Nat} {m st : Int32} {G : Prop} [Decidable G] (hR : R0 a b) (hp : p < tZ a 29 0) (hcd : cd < tZ a 28 0) (hs : tI b 87 0 (10 * p) = 1) (hst : st = pst b p 1) : PqP a (gvA a p cd m st G) b (gvB b p cd m st G) p ∧ tI (gvB b p cd m st G) 87 0 (10 * p) ≠ 1 ∧ (tI (gvB b p cd m st G) 87 0 (10 * p) = 0 ∨ tI (gvB b p cd m st G) 87 0 (10 * p) = 4) := by
  unfold gvA gvB
  by_cases g : G
  · rw [if_pos g, if_pos g]
    refine ⟨paid_R0 hR hp hcd hs hst, ?_⟩
    unfold paB
    rw [tI_sI, if_neg (fun q => by omega), tI_sI, if_pos ⟨rfl, rfl, rfl⟩]
    decide
  · rw [if_neg g, if_neg g]
    obtain ⟨e1, e2, e3, e4, e5, e6, n0, n1, n2, n3, n4, n5⟩ := (r_Q hR).1 p hp
    have hn0 : n0 = 1 := i32_1 n1 (n2.symm.trans hs)
    subst hn0
    have h3 := st5_R0 (p := p) (n := 4) (st := tI b 87 0 (10 * p + 5)) hR hp hs (Or.inr rfl) n5
    rw [sI_self (sI a 38 p 7 (Int32.ofNat 4)) 38 p 5 (by rw [tI_sI, if_neg (fun q => absurd q.2.2 (by decide))]; exact e1), sI_self (sI b 87 0 (10 * p + 0) (Int32.ofNat 4)) 87 0 (10 * p + 5) (by rw [tI_sI, if_neg (fun q => by omega)])] at h3
    refine ⟨h3, ?_⟩
    rw [tI_sI, if_pos ⟨rfl, rfl, rfl⟩]
    decide
theorem gvA_N (a : TS) (p cd : Nat) (m st : Int32) (G : Prop) [Decidable G] (s : Nat) : tN (gvA a p cd m st G) s = tN a s := by unfold gvA; split <;> rfl
theorem gvB_N (b : TS) (p cd : Nat) (m st : Int32) (G : Prop) [Decidable G] (s : Nat) : tN (gvB b p cd m st G) s = tN b s := by unfold gvB; split <;> rfl
theorem gvA_rm (a : TS) (p cd : Nat) (m st : Int32) (G : Prop) [Decidable G] (s i j : Nat) : gvA (rmL a s i j) p cd m st G = rmL (gvA a p cd m st G) s i j := by unfold gvA; split <;> rfl
/-- a payment that asked is decided, and goes from the list -/
theorem As_gone {a a1 b b1 : TS} {sh j p : Nat} (hA : As a b) (hsh : sh < tZ a 27 0) (h4 : tZ a 27 0 ≤ 4) (hp : p < tZ a 29 0) (hj : (askL b (tZ a 29 0) sh)[j]? = some p) (g2 : chF [] FpA a a1) (g3 : chF [86, 87] [] b b1) (g5 : W87 b b1) (g6 : ∀ p', p' ≠ p → tI b1 87 0 (10 * p') = tI b 87 0 (10 * p')) (h1' : tI b1 87 0 (10 * p) ≠ 1) : As (rmL a1 18 sh j) b1 := by
  have hd : dpk [] FpA [18, 27, 29] [(36, 0), (38, 0)] = true := by decide
  have z18 : ∀ s, tZ a1 18 s = tZ a 18 s := dZ g2 hd (s := 18) (by decide)
  have r18 : ∀ s k, tR a1 18 s k = tR a 18 s k := dR g2 hd (s := 18) (by decide)
  have k18 : ∀ s, tC a1 18 s = tC a 18 s := dC g2 hd (s := 18) (by decide)
  have z27 : tZ a1 27 0 = tZ a 27 0 := dZ g2 hd (s := 27) (by decide) 0
  have z29 : tZ a1 29 0 = tZ a 29 0 := dZ g2 hd (s := 29) (by decide) 0
  have hps : tI b 87 0 (10 * p + 2) = Int32.ofNat sh := (askL_mem.mp (List.mem_of_getElem? hj)).2.1
  refine ⟨fun s hs => ?_, fun p' hp' => by rw [g5.2.2.2.2.1 p', dI g3 (S := []) (P := [(95, 1)]) (s := 95) (k := 1) (by decide) (by simp)]; exact hA.2 p' (by rw [← z29]; exact hp')⟩
  have hs : s < tZ a1 27 0 := hs
  rw [z27] at hs
  have hA2 := hA.1 s hs
  by_cases e : s = sh
  · subst e
    have hjz : j < tZ a 18 s := by
      rw [As_len hA2]
      exact (List.getElem?_eq_some_iff.mp hj).1
    refine ⟨?_, ?_⟩
    · obtain ⟨x1, x2, x3⟩ := hA2.1
      unfold capOK
      rw [tZ_rmL, if_pos ⟨rfl, rfl⟩]
      show tZ a1 18 s - 1 ≤ tC a1 18 s ∧ tC a1 18 s < 3000 ∧ (tC a1 18 s = 0 ∨ 10 ≤ tC a1 18 s)
      rw [z18, k18]
      exact ⟨by omega, x2, x3⟩
    · rw [rm_map a1 18 s j (by rw [z18]; exact hjz), z18, show tR a1 18 s = tR a 18 s from funext (r18 s), hA2.2]
      show _ = List.map (fun p => some (38, p)) (askL b1 (tZ a1 29 0) s)
      rw [z29, askL_rm (fun p' _ => g5.2.1 p') g6 h1', ← nodup_er (askL_nodup b _ s) hj, map_er]
  · unfold As1 capOK at *
    rw [tZ_rmL, if_neg (fun q => e q.2)]
    have t1 : tR (rmL a1 18 sh j) 18 s = tR a 18 s := funext fun k => by rw [tR_rmL, if_neg (fun q => e q.2)]; exact r18 s k
    rw [t1]
    show (tZ a1 18 s ≤ tC a1 18 s ∧ tC a1 18 s < 3000 ∧ (tC a1 18 s = 0 ∨ 10 ≤ tC a1 18 s)) ∧ (List.range (tZ a1 18 s)).map (tR a 18 s) = List.map (fun p => some (38, p)) (askL b1 (tZ a1 29 0) s)
    rw [z18, k18, z29, askL_eq (b := b) (b' := b1) (fun p' _ => g5.2.1 p') (fun p' hp' e' => by
      have : p' ≠ p := fun q => by
        subst q
        rw [hps] at e'
        exact e (o_inj (by omega) (by omega) e').symm
      rw [g6 p' this])]
    exact hA2
/-- the messages of a TAKE BACK -/
def tbA (a : TS) (p : Nat) : TS := cpL (mk a 23 0 0 15) 23 (tN a 23) (iniM 2 (Int32.ofNat p)) [2, 3, 4, 5, 6, 7, 8, 9, 10, 11, 12, 13, 14, 0, 1]
def tbB (b : TS) (p : Nat) : TS := sI (sI (mk b 76 0 0 14) 76 (tN b 76) 0 1) 76 (tN b 76) 1 (Int32.ofNat p)
theorem tbA_eq (a : TS) (p : Nat) : chF [23] [] a (tbA a p) ∧ Wr a (tbA a p) ∧ (∀ s, tN (tbA a p) s = if s = 23 then tN a 23 + 1 else tN a s) ∧ gro a (tbA a p) 23 ∧ (∀ f, mv (tbA a p) 23 (tN a 23) f = if f = 0 then 2 else if f = 1 then Int32.ofNat p else if f = 2 then -1 else 0) := by
  have ha : chF [23] [] a (tbA a p) := by
    unfold tbA
    exact chF_cp (by simp) (chF_mk (by simp) (chF_r _ _ _))
  have hw : Wr a (tbA a p) := by
    unfold tbA
    exact Wr.cpL (Wr.cM _ _ _ (by decide +kernel) (by decide) (Wr.rf _)) _ _ _ _
  have hN : ∀ s, tN (tbA a p) s = if s = 23 then tN a 23 + 1 else tN a s := fun s => by
    unfold tbA
    rw [tN_cpL, tN_mk]
  refine ⟨ha, hw, hN, ⟨by rw [hN, if_pos rfl]; omega, fun i hi k => ?_⟩, fun f => ?_⟩
  · unfold tbA
    rw [tI_cpL, if_neg (fun q => by omega), tI_mk, if_neg (fun q => by omega)]
  · unfold mv
    by_cases e : (f < 12 ∧ f ≠ 3) ∨ f = 14
    · rw [if_pos e]
      unfold tbA
      rw [tI_cpL, if_pos ⟨rfl, rfl, by simp only [List.mem_cons, List.not_mem_nil, or_false]; omega⟩]
      unfold iniM
      have : f = 0 ∨ f = 1 ∨ f = 2 ∨ f = 4 ∨ f = 5 ∨ f = 6 ∨ f = 7 ∨ f = 8 ∨ f = 9 ∨ f = 10 ∨ f = 11 ∨ f = 14 := by omega
      rcases this with q | q | q | q | q | q | q | q | q | q | q | q <;> subst q <;> rfl
    · rw [if_neg e]
      have : f ≠ 0 ∧ f ≠ 1 ∧ f ≠ 2 := by omega
      rw [if_neg this.1, if_neg this.2.1, if_neg this.2.2]
theorem tbB_eq (b : TS) (p : Nat) : chF [76] [] b (tbB b p) ∧ Wr b (tbB b p) ∧ (∀ s, tN (tbB b p) s = if s = 76 then tN b 76 + 1 else tN b s) ∧ groQ b (tbB b p) ∧ (∀ f, qv (tbB b p) (some (76, tN b 76)) f = if f = 0 then 1 else if f = 1 then Int32.ofNat p else 0) := by
  have ha : chF [76] [] b (tbB b p) := by
    unfold tbB
    exact chF_I (by simp) (chF_I (by simp) (chF_mk (by simp) (chF_r _ _ _)))
  have hw : Wr b (tbB b p) := by
    unfold tbB
    exact Wr.cI _ _ _ _ (Wr.cI _ _ _ _ (Wr.cM _ _ _ (by decide +kernel) (by decide) (Wr.rf _)))
  have hN : ∀ s, tN (tbB b p) s = if s = 76 then tN b 76 + 1 else tN b s := fun s => by
    unfold tbB
    rw [tN_sI, tN_sI, tN_mk]
  refine ⟨ha, hw, hN, fun s hs => ?_, fun f => ?_⟩
  · by_cases e : s = 76
    · subst e
      refine ⟨by rw [hN, if_pos rfl]; omega, fun i hi k => ?_⟩
      unfold tbB
      rw [tI_sI, if_neg (fun q => by omega), tI_sI, if_neg (fun q => by omega), tI_mk, if_neg (fun q => by omega)]
    · obtain ⟨c1, c2, c3, c4, c5, c6⟩ := ha s (by simp [e])
      exact ⟨Nat.le_of_eq c4.symm, fun i _ k => c1 i k (by simp)⟩
  · unfold qv
    dsimp only
    by_cases e : f < 14
    · rw [if_pos e]
      unfold tbB
      simp only [tI_sI, tI_mk, true_and, and_self, if_true]
      by_cases e0 : f = 0
      · rw [if_neg (by omega), if_pos e0, if_pos e0]
      · rw [if_neg e0, if_neg e0]
    · rw [if_neg e, if_neg (by omega), if_neg (by omega)]
theorem y197_x {b : TS} {z : Hp} {p : Nat} (sh : Int32) (hF : FxR b) : Ex 197 [aR (some (95, 0)), aI sh, aI (Int32.ofNat p)] (enc 2 b z) = cV (Ex 195 [aR (some (95, 0)), aI sh, aR (some (76, tN b 76))] (enc 2 (tbB b p) z)) (fun h => some (.inl none, h)) xT := by
  have o76 : isO 2 17 76 := ⟨by decide +kernel, by decide +kernel⟩
  have hnF : nF 17 = 14 := rfl
  have f214 := fun z => y214 (b := mk b 76 0 0 14) (z := z) (s := 76) (i := tN b 76) 1 (Int32.ofNat p) o76 (by rw [tN_mk, if_pos rfl]; omega)
  refine (X_in (by decide +kernel) (frN_95 hF) rfl).trans ((lf_197_0 ..).trans ?_)
  rw [nob_enc (by decide +kernel), hnF]
  dsimp only
  rw [f214, cV_v]
  rfl
