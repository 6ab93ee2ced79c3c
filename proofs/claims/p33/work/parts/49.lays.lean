/-! ===== what a lay does to the cables ===== -/
def CbQ (b : TS) (cb s f n ds di ms mi cap : Nat) : Prop := CbP b cb s f n ds di ms mi cap ∧ (ds = 49 ∨ ds = 51) ∧ (ms = 50 ∨ ms = 52)
/-- what one lay does -/
def LyP (b b' : TS) (cb s f n ds di ms mi : Nat) (d : Int32) (q : Nat × Nat) : Prop :=
  (∃ ds' di' ms' mi' cap', CbQ b' cb s f (n + 1) ds' di' ms' mi' cap' ∧ vR b' ds' di' ms' mi' (n + 1) = vR b ds di ms mi n ++ [(d, qv b (some q))] ∧ ((ds' = ds ∧ di' = di) ∨ (ds' = 51 ∧ di' = tN b 51)) ∧ ((ms' = ms ∧ mi' = mi) ∨ (ms' = 52 ∧ mi' = tN b 52))) ∧
  chg [49, 50, 51, 52, cb] b b' ∧ (∀ t, tN b t ≤ tN b' t) ∧ (∀ t, t ≠ 51 → t ≠ 52 → tN b' t = tN b t) ∧
  (∀ i k, ¬ (i = s ∧ k = 1) → tI b' cb i k = tI b cb i k) ∧ (∀ i k, ¬ (i = s ∧ (k = 2 ∨ k = 3)) → tR b' cb i k = tR b cb i k) ∧
  (∀ t i, i < tN b t → tZ b' t i = tZ b t i) ∧
  (∀ t i k, (t = 49 ∨ t = 51) → i < tN b t → ¬ (t = ds ∧ i = di) → tI b' t i k = tI b t i k) ∧ (∀ t i k, (t = 50 ∨ t = 52) → i < tN b t → ¬ (t = ms ∧ i = mi) → tR b' t i k = tR b t i k)
theorem qv_congr {b b' : TS} {q : Nat × Nat} (h : ∀ k, tI b' q.1 q.2 k = tI b q.1 q.2 k) : qv b' (some q) = qv b (some q) := by
  unfold qv
  funext f
  dsimp only
  rw [h]
theorem lays_P {b : TS} {cb s f n ds di ms mi cap : Nat} {d : Int32} {q : Nat × Nat} (hP : CbQ b cb s f n ds di ms mi cap) (hq : isQ q.1) (hqi : q.2 < tN b q.1) (hn : n < 100000) : LyP b (lays b cb s n ds di ms mi cap d q) cb s f n ds di ms mi d q := by
  obtain ⟨⟨p1, p2, p3, p4, p5, p6, p7, p8, p9, p10, p11, p12, p13, p14, p15, p16, p17, p18⟩, hds, hms⟩ := hP
  have c48 : ¬ cb = 48 := isO_ne p1 (by decide +kernel)
  have c51 : ¬ cb = 51 := isO_ne p1 (by decide +kernel)
  have c52 : ¬ cb = 52 := isO_ne p1 (by decide +kernel)
  have c49 : ¬ cb = 49 := isO_ne p1 (by decide +kernel)
  have c50 : ¬ cb = 50 := isO_ne p1 (by decide +kernel)
  have qn : ∀ t, (Nat.beq (kd t) 17 && Nat.beq (ow t) 2) = false → ¬ q.1 = t := fun t ht => isO_ne hq ht
  have q51 := qn 51 (by decide +kernel)
  have q52 := qn 52 (by decide +kernel)
  have qcb : ¬ q.1 = cb := fun e => by
    have h1 := hq.2
    rw [e, p1.2] at h1
    exact absurd h1 (by decide)
  have mq : ∀ q' : Nat × Nat, isQ q'.1 → ¬ q'.1 = cb ∧ ¬ q'.1 = 49 ∧ ¬ q'.1 = 51 ∧ ¬ q'.1 = 52 ∧ ¬ q'.1 = 50 := fun q' h => ⟨fun e => by
    have h1 := h.2
    rw [e, p1.2] at h1
    exact absurd h1 (by decide), isO_ne h (by decide +kernel), isO_ne h (by decide +kernel), isO_ne h (by decide +kernel), isO_ne h (by decide +kernel)⟩
  have dc : ¬ ds = cb := fun e => by
    have h1 := p8.2
    rw [e, p1.2] at h1
    exact absurd h1 (by decide)
  have mc : ¬ ms = cb := fun e => by
    have h1 := p12.2
    rw [e, p1.2] at h1
    exact absurd h1 (by decide)
  unfold lays
  by_cases e : n = cap
  · rw [if_pos e]
    have ne1 : ¬ (ds = 51 ∧ di = tN b 51) := fun q => by rw [q.1, q.2] at p9; exact Nat.lt_irrefl _ p9
    have ne2 : ¬ (ms = 52 ∧ mi = tN b 52) := fun q => by rw [q.1, q.2] at p13; exact Nat.lt_irrefl _ p13
    have o51 : isO 2 1000 51 := ⟨by decide +kernel, by decide +kernel⟩
    have o52 : isO 2 1028 52 := ⟨by decide +kernel, by decide +kernel⟩
    let m0 := mk (mk b 51 (2 * n) 0 (2 * n)) 52 (2 * n) 0 (2 * n)
    let m1 := itr (cpy1 (tN b 51) (tN b 52) ds di ms mi) n m0
    have hN : ∀ t, tN m1 t = if t = 52 then tN b 52 + 1 else if t = 51 then tN b 51 + 1 else tN b t := fun t => by
      show tN (itr (cpy1 (tN b 51) (tN b 52) ds di ms mi) n m0) t = _
      rw [itr_cpyN]
      show tN (mk (mk b 51 (2 * n) 0 (2 * n)) 52 (2 * n) 0 (2 * n)) t = _
      rw [tN_mk, tN_mk, tN_mk, if_neg (c := (52 : Nat) = 51) (by decide)]
    have hZ : ∀ t i, tZ m1 t i = if t = 52 ∧ i = tN b 52 then 2 * n else if t = 51 ∧ i = tN b 51 then 2 * n else tZ b t i := fun t i => by
      show tZ (itr (cpy1 (tN b 51) (tN b 52) ds di ms mi) n m0) t i = _
      rw [itr_cpyZ]
      show tZ (mk (mk b 51 (2 * n) 0 (2 * n)) 52 (2 * n) 0 (2 * n)) t i = _
      rw [tZ_mk, tZ_mk, tN_mk, if_neg (c := (52 : Nat) = 51) (by decide)]
    have hI0 : ∀ t i k, ¬ (t = 51 ∧ i = tN b 51) → ¬ (t = 52 ∧ i = tN b 52) → tI m0 t i k = tI b t i k := fun t i k g1 g2 => by
      show tI (mk (mk b 51 (2 * n) 0 (2 * n)) 52 (2 * n) 0 (2 * n)) t i k = _
      rw [tI_mk, tN_mk, if_neg (c := (52 : Nat) = 51) (by decide), if_neg g2, tI_mk, if_neg g1]
    have hR0 : ∀ t i k, ¬ (t = 51 ∧ i = tN b 51) → ¬ (t = 52 ∧ i = tN b 52) → tR m0 t i k = tR b t i k := fun t i k g1 g2 => by
      show tR (mk (mk b 51 (2 * n) 0 (2 * n)) 52 (2 * n) 0 (2 * n)) t i k = _
      rw [tR_mk, tN_mk, if_neg (c := (52 : Nat) = 51) (by decide), if_neg g2, tR_mk, if_neg g1]
    have hI : ∀ t i j, tI m1 t i j = if t = 51 ∧ i = tN b 51 ∧ j < n then tI m0 ds di j else tI m0 t i j := (itr_cpy ne1 ne2 n).1
    have hR : ∀ t i j, tR m1 t i j = if t = 52 ∧ i = tN b 52 ∧ j < n then tR m0 ms mi j else tR m0 t i j := (itr_cpy ne1 ne2 n).2.1
    have hC : chg [49, 50, 51, 52, cb] b m1 := by
      have h0 : chg [49, 50, 51, 52, cb] b m0 := chg_mk (by simp) (chg_mk (by simp) (chg_r _ _))
      have : ∀ k, chg [49, 50, 51, 52, cb] b (itr (cpy1 (tN b 51) (tN b 52) ds di ms mi) k m0) := fun k => by
        induction k with
        | zero => exact h0
        | succ k ih => exact chg_sR (by simp) (chg_sI (by simp) ih)
      exact this n
    -- reads of the last store
    have eI : ∀ t i k, tI (sI (sR (sI (grow b cb s n ds di ms mi) 51 (tN b 51) n d) 52 (tN b 52) n (some q)) cb s 1 (Int32.ofNat (n + 1))) t i k = if t = cb ∧ i = s ∧ k = 1 then Int32.ofNat (n + 1) else if t = 51 ∧ i = tN b 51 ∧ k = n then d else tI m1 t i k := fun t i k => rfl
    have eR : ∀ t i k, tR (sI (sR (sI (grow b cb s n ds di ms mi) 51 (tN b 51) n d) 52 (tN b 52) n (some q)) cb s 1 (Int32.ofNat (n + 1))) t i k = if t = 52 ∧ i = tN b 52 ∧ k = n then some q else if t = cb ∧ i = s ∧ k = 3 then some (52, tN b 52) else if t = cb ∧ i = s ∧ k = 2 then some (51, tN b 51) else tR m1 t i k := fun t i k => rfl
    have eN : ∀ t, tN (sI (sR (sI (grow b cb s n ds di ms mi) 51 (tN b 51) n d) 52 (tN b 52) n (some q)) cb s 1 (Int32.ofNat (n + 1))) t = tN m1 t := fun t => rfl
    have eZ : ∀ t i, tZ (sI (sR (sI (grow b cb s n ds di ms mi) 51 (tN b 51) n d) 52 (tN b 52) n (some q)) cb s 1 (Int32.ofNat (n + 1))) t i = tZ m1 t i := fun t i => rfl
    generalize hG : sI (sR (sI (grow b cb s n ds di ms mi) 51 (tN b 51) n d) 52 (tN b 52) n (some q)) cb s 1 (Int32.ofNat (n + 1)) = b' at *
    have hC' : chg [49, 50, 51, 52, cb] b b' := by
      rw [← hG]
      exact chg_sI (by simp) (chg_sR (by simp) (chg_sI (by simp) (chg_sR (by simp) (chg_sR (by simp) hC))))
    have old51 : ∀ t i k, i < tN b t → ¬ (t = cb ∧ i = s ∧ k = 1) → tI b' t i k = tI b t i k := fun t i k hi hk => by
      rw [eI, if_neg hk, if_neg (fun q => by rw [q.1, q.2.1] at hi; exact Nat.lt_irrefl _ hi), hI, if_neg (fun q => by rw [q.1, q.2.1] at hi; exact Nat.lt_irrefl _ hi), hI0 _ _ _ (fun q => by rw [q.1, q.2] at hi; exact Nat.lt_irrefl _ hi) (fun q => by rw [q.1, q.2] at hi; exact Nat.lt_irrefl _ hi)]
    have old52 : ∀ t i k, i < tN b t → ¬ (t = cb ∧ i = s ∧ (k = 2 ∨ k = 3)) → tR b' t i k = tR b t i k := fun t i k hi hk => by
      rw [eR, if_neg (fun q => by rw [q.1, q.2.1] at hi; exact Nat.lt_irrefl _ hi), if_neg (fun q => hk ⟨q.1, q.2.1, Or.inr q.2.2⟩), if_neg (fun q => hk ⟨q.1, q.2.1, Or.inl q.2.2⟩), hR, if_neg (fun q => by rw [q.1, q.2.1] at hi; exact Nat.lt_irrefl _ hi), hR0 _ _ _ (fun q => by rw [q.1, q.2] at hi; exact Nat.lt_irrefl _ hi) (fun q => by rw [q.1, q.2] at hi; exact Nat.lt_irrefl _ hi)]
    have nd : ∀ j, j < n → tI b' 51 (tN b 51) j = tI b ds di j := fun j hj => by
      rw [eI, if_neg (fun q => c51 q.1.symm), if_neg (fun q => by omega), hI, if_pos ⟨rfl, rfl, hj⟩, hI0 _ _ _ ne1 (fun q => isO_ne p8 (t := 52) (by decide +kernel) q.1)]
    have nm : ∀ j, j < n → tR b' 52 (tN b 52) j = tR b ms mi j := fun j hj => by
      rw [eR, if_neg (fun q => by omega), if_neg (fun q => c52 q.1.symm), if_neg (fun q => c52 q.1.symm), hR, if_pos ⟨rfl, rfl, hj⟩, hR0 _ _ _ (fun q => isO_ne p12 (t := 51) (by decide +kernel) q.1) ne2]
    refine ⟨⟨51, tN b 51, 52, tN b 52, 2 * n, ⟨⟨p1, ?_, ?_, ?_, ?_, ?_, ?_, o51, ?_, ?_, ?_, o52, ?_, ?_, by omega, by omega, by omega, fun k hk => ?_⟩, Or.inr rfl, Or.inr rfl⟩, ?_, Or.inr ⟨rfl, rfl⟩, Or.inr ⟨rfl, rfl⟩⟩, hC', fun t => ?_, fun t h1 h2 => ?_, fun i k h => ?_, fun i k h => ?_, fun t i hi => ?_, fun t i k ht hi h => ?_, fun t i k ht hi h => ?_⟩
    · rw [eN, hN, if_neg c52, if_neg c51]; exact p2
    · rw [old52 _ _ _ p2 (fun q => by omega)]; exact p3
    · rw [eN, hN, if_neg (by decide), if_neg (by decide)]; exact p4
    · rw [eZ, hZ, if_neg (fun q => absurd q.1 (by decide)), if_neg (fun q => absurd q.1 (by decide))]; exact p5
    · rw [eI, if_pos ⟨rfl, rfl, rfl⟩]
    · rw [eR, if_neg (fun q => c52 q.1), if_neg (fun q => absurd q.2.2 (by decide)), if_pos ⟨rfl, rfl, rfl⟩]
    · rw [eN, hN, if_neg (by decide), if_pos rfl]; omega
    · rw [eZ, hZ, if_neg (fun q => absurd q.1 (by decide)), if_pos ⟨rfl, rfl⟩]
    · rw [eR, if_neg (fun q => c52 q.1), if_pos ⟨rfl, rfl, rfl⟩]
    · rw [eN, hN, if_pos rfl]; omega
    · rw [eZ, hZ, if_pos ⟨rfl, rfl⟩]
    · by_cases hk2 : k = n
      · refine ⟨q, by rw [eR, if_pos ⟨rfl, rfl, hk2⟩], hq, ?_⟩
        rw [eN, hN, if_neg q52, if_neg q51]
        exact hqi
      · obtain ⟨q', r1, r2, r3⟩ := p18 k (by omega)
        obtain ⟨-, -, g1, g2, -⟩ := mq q' r2
        exact ⟨q', by rw [nm k (by omega)]; exact r1, r2, by rw [eN, hN, if_neg g2, if_neg g1]; exact r3⟩
    · unfold vR
      rw [List.range_succ, List.map_append]
      congr 1
      · refine List.map_congr_left (fun k hk => ?_)
        have hk := List.mem_range.mp hk
        obtain ⟨q', r1, r2, r3⟩ := p18 k hk
        rw [nd k hk, nm k hk, r1]
        congr 1
        exact qv_congr (fun g => old51 _ _ _ r3 (fun h => (mq q' r2).1 h.1))
      · show [_] = [_]
        congr 1
        refine Prod.ext ?_ ?_
        · show tI b' 51 (tN b 51) n = d
          rw [eI, if_neg (fun q => c51 q.1.symm), if_pos ⟨rfl, rfl, rfl⟩]
        · show qv b' (tR b' 52 (tN b 52) n) = _
          rw [eR, if_pos ⟨rfl, rfl, rfl⟩]
          exact qv_congr (fun g => old51 _ _ _ hqi (fun h => qcb h.1))
    · rw [eN, hN]
      repeat' split
      all_goals first | (rename_i h; rw [h]; omega) | (rename_i h1 h2; rw [h2]; omega) | omega
    · rw [eN, hN, if_neg h2, if_neg h1]
    · by_cases hi : i < tN b cb
      · exact old51 _ _ _ hi (fun q => h ⟨q.2.1, q.2.2⟩)
      · rw [eI, if_neg (fun q => h ⟨q.2.1, q.2.2⟩), if_neg (fun q => c51 q.1), hI, if_neg (fun q => c51 q.1), hI0 _ _ _ (fun q => c51 q.1) (fun q => c52 q.1)]
    · rw [eR, if_neg (fun q => c52 q.1), if_neg (fun q => h ⟨q.2.1, Or.inr q.2.2⟩), if_neg (fun q => h ⟨q.2.1, Or.inl q.2.2⟩), hR, if_neg (fun q => c52 q.1), hR0 _ _ _ (fun q => c51 q.1) (fun q => c52 q.1)]
    · rw [eZ, hZ, if_neg (fun q => by rw [q.1, q.2] at hi; exact Nat.lt_irrefl _ hi), if_neg (fun q => by rw [q.1, q.2] at hi; exact Nat.lt_irrefl _ hi)]
    · exact old51 _ _ _ hi (fun q => by omega)
    · exact old52 _ _ _ hi (fun q => by omega)
  · rw [if_neg e]
    have eI : ∀ t i k, tI (sI (sR (sI b ds di n d) ms mi n (some q)) cb s 1 (Int32.ofNat (n + 1))) t i k = if t = cb ∧ i = s ∧ k = 1 then Int32.ofNat (n + 1) else if t = ds ∧ i = di ∧ k = n then d else tI b t i k := fun t i k => rfl
    have eR : ∀ t i k, tR (sI (sR (sI b ds di n d) ms mi n (some q)) cb s 1 (Int32.ofNat (n + 1))) t i k = if t = ms ∧ i = mi ∧ k = n then some q else tR b t i k := fun t i k => rfl
    have eN : ∀ t, tN (sI (sR (sI b ds di n d) ms mi n (some q)) cb s 1 (Int32.ofNat (n + 1))) t = tN b t := fun t => rfl
    have eZ : ∀ t i, tZ (sI (sR (sI b ds di n d) ms mi n (some q)) cb s 1 (Int32.ofNat (n + 1))) t i = tZ b t i := fun t i => rfl
    generalize hG : sI (sR (sI b ds di n d) ms mi n (some q)) cb s 1 (Int32.ofNat (n + 1)) = b' at *
    have hC' : chg [49, 50, 51, 52, cb] b b' := by
      rw [← hG]
      exact chg_sI (by simp) (chg_sR (by simp; omega) (chg_sI (by simp; omega) (chg_r _ _)))
    have mqd : ∀ q' : Nat × Nat, isQ q'.1 → ∀ g, tI b' q'.1 q'.2 g = tI b q'.1 q'.2 g := fun q' h g => by
      obtain ⟨g0, g1, g2, -, -⟩ := mq q' h
      rw [eI, if_neg (fun q => g0 q.1), if_neg (fun q => by omega)]
    refine ⟨⟨ds, di, ms, mi, cap, ⟨⟨p1, ?_, ?_, ?_, ?_, ?_, ?_, p8, ?_, ?_, ?_, p12, ?_, ?_, by omega, p16, p17, fun k hk => ?_⟩, hds, hms⟩, ?_, Or.inl ⟨rfl, rfl⟩, Or.inl ⟨rfl, rfl⟩⟩, hC', fun t => ?_, fun t h1 h2 => eN t, fun i k h => ?_, fun i k h => ?_, fun t i hi => eZ t i, fun t i k ht hi h => ?_, fun t i k ht hi h => ?_⟩
    · rw [eN]; exact p2
    · rw [eR, if_neg (fun q => mc q.1.symm)]; exact p3
    · rw [eN]; exact p4
    · rw [eZ]; exact p5
    · rw [eI, if_pos ⟨rfl, rfl, rfl⟩]
    · rw [eR, if_neg (fun q => mc q.1.symm)]; exact p7
    · rw [eN]; exact p9
    · rw [eZ]; exact p10
    · rw [eR, if_neg (fun q => mc q.1.symm)]; exact p11
    · rw [eN]; exact p13
    · rw [eZ]; exact p14
    · by_cases hk2 : k = n
      · exact ⟨q, by rw [eR, if_pos ⟨rfl, rfl, hk2⟩], hq, by rw [eN]; exact hqi⟩
      · obtain ⟨q', r1, r2, r3⟩ := p18 k (by omega)
        exact ⟨q', by rw [eR, if_neg (fun q => hk2 q.2.2)]; exact r1, r2, by rw [eN]; exact r3⟩
    · unfold vR
      rw [List.range_succ, List.map_append]
      congr 1
      · refine List.map_congr_left (fun k hk => ?_)
        have hk := List.mem_range.mp hk
        obtain ⟨q', r1, r2, r3⟩ := p18 k hk
        rw [eI, if_neg (fun q => dc q.1), if_neg (fun q => by omega), eR, if_neg (fun q => by omega), r1]
        congr 1
        exact qv_congr (mqd q' r2)
      · show [_] = [_]
        congr 1
        refine Prod.ext ?_ ?_
        · show tI b' ds di n = d
          rw [eI, if_neg (fun q => dc q.1), if_pos ⟨rfl, rfl, rfl⟩]
        · show qv b' (tR b' ms mi n) = _
          rw [eR, if_pos ⟨rfl, rfl, rfl⟩]
          exact qv_congr (mqd q hq)
    · rw [eN]; exact Nat.le_refl _
    · rw [eI, if_neg (fun q => h ⟨q.2.1, q.2.2⟩), if_neg (fun q => dc q.1.symm)]
    · rw [eR, if_neg (fun q => mc q.1.symm)]
    · rw [eI, if_neg (fun q => by omega), if_neg (fun q => h ⟨q.1, q.2.1⟩)]
    · rw [eR, if_neg (fun q => h ⟨q.1, q.2.1⟩)]
theorem itr_stp {f : TS → Nat → TS} (hf : ∀ m k, Wr m (f m k)) : ∀ (k : Nat) (m : TS), Wr m (itr f k m)
  | 0, m => Wr.rf _
  | k + 1, m => (itr_stp hf k m).t (hf _ _)
theorem lays_stp (b : TS) (cb s n ds di ms mi cap : Nat) (d : Int32) (q : Nat × Nat) (h8 : 8 ≤ cap) : Wr b (lays b cb s n ds di ms mi cap d q) := by
  unfold lays
  split
  · rename_i hcap
    have h16 : 16 ≤ 2 * n := by omega
    have d51 : dyS 51 (2 * n) = true := by
      show (_ || ((true || _) && Nat.ble 16 (2 * n) || _)) = true
      rw [ble_tt h16, Bool.true_or, Bool.true_and, Bool.true_or, Bool.or_true]
    have d52 : dyS 52 (2 * n) = true := by
      show (_ || ((_ || true) && Nat.ble 16 (2 * n) || _)) = true
      rw [ble_tt h16, Bool.or_true, Bool.true_and, Bool.true_or, Bool.or_true]
    unfold grow
    refine (((Wr.cR _ _ _ _ (Wr.cR _ _ _ _ (Wr.t ?_ (itr_stp (fun m k => ((Wr.rf m).cI _ _ _ _).cR _ _ _ _) _ _)))).cI _ _ _ _).cR _ _ _ _).cI _ _ _ _
    exact Wr.cM _ _ _ (by unfold szN; rw [if_neg (by decide +kernel), if_neg (by decide +kernel), if_neg (by decide +kernel)]) d52 (Wr.cM _ _ _ (by unfold szN; rw [if_neg (by decide +kernel), if_neg (by decide +kernel), if_neg (by decide +kernel)]) d51 (Wr.rf _))
  · exact (((Wr.rf _).cI _ _ _ _).cR _ _ _ _).cI _ _ _ _
