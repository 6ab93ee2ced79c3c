/-! ===== a message is put on a line ===== -/
/-- what some lays on a line do: n entries before, n' behind, add between -/
def LayP (a a' : TS) (sl j c n n' : Nat) (add : List (Int32 × (Nat → Int32))) : Prop :=
  LO a' ∧ chg [9, 10, sl] a a' ∧ (∀ sl' j' c' f', LnP a sl' j' c' f' → LnP a' sl' j' c' f') ∧ tI a' sl j 3 = Int32.ofNat n' ∧ n' ≤ tZ a' 9 c ∧
  (∀ s' i' k, s' ≠ 10 → ¬ (s' = sl ∧ i' = j ∧ k = 3) → tI a' s' i' k = tI a s' i' k) ∧ vL a' c n' = vL a c n ++ add ∧
  (∀ c', c' < tN a 9 → c' ≠ c → tZ a' 9 c' = tZ a 9 c' ∧ ∀ k, k < tZ a 9 c' → tR a' 9 c' k = tR a 9 c' k ∧ ∃ r', r' < tN a 10 ∧ tR a 9 c' k = some (10, r') ∧ ∀ f, tI a' 10 r' f = tI a 10 r' f) ∧
  (∀ s' i' k, s' ≠ 10 → s' ≠ 9 → tR a' s' i' k = tR a s' i' k) ∧ (∀ s', s' ≠ 10 → tN a' s' = tN a s') ∧ tN a 10 ≤ tN a' 10 ∧ tN a' 10 + tZ a 9 c = tN a 10 + tZ a' 9 c ∧ tZ a' 9 c = max (tZ a 9 c) n'
theorem lay_mv {a : TS} {sl j c n s i : Nat} {late : Int32} (hs : isO 1 5 sl) (hM : isM s) (hi : i < tN a s) : mv (lay a sl j c n s i late) s i = mv a s i ∧ i < tN (lay a sl j c n s i late) s ∧ tI (lay a sl j c n s i late) s i 14 = tI a s i 14 := by
  have e1 : ¬ sl = 10 := isO_ne hs (by decide +kernel)
  have e2 : ¬ s = sl := fun e => by
    have h1 := hM.2
    rw [e, hs.2] at h1
    exact absurd h1 (by decide)
  have key : ∀ f, f < 12 ∨ f = 14 → tI (lay a sl j c n s i late) s i f = tI a s i f := by
    intro f hf
    have h3 : ¬ (s = 10 ∧ i = tN a 10) := fun q => by rw [q.1, q.2] at hi; exact Nat.lt_irrefl _ hi
    by_cases h : s = 10 ∧ i = rsl a c n
    · rw [lay_eq, tI_sI, if_neg (fun q => e2 q.1), tI_sI, if_neg (fun q => by omega), tI_cpL, if_pos ⟨h.1, h.2, mem13.mpr hf⟩, slot_tI _ _ _ h3]
    · exact lay_tI (fun q => e2 q.1) h h3
  refine ⟨?_, ?_, key 14 (Or.inr rfl)⟩
  · funext f
    unfold mv
    by_cases hf : (f < 12 ∧ f ≠ 3) ∨ f = 14
    · rw [if_pos hf, if_pos hf, key f (by omega)]
    · rw [if_neg hf, if_neg hf]
  · rw [lay_tN]
    split
    · rename_i q
      rw [q.1] at hi
      omega
    · exact hi
theorem lay_P {a : TS} {sl j c n s i : Nat} {late : Int32} (hs : isO 1 5 sl) (hL : LO a) (hc : c < tN a 9) (hn : n ≤ tZ a 9 c) (hz : tZ a 9 c < 29999) (hi : i < tN a s) : LayP a (lay a sl j c n s i late) sl j c n (n + 1) [(tI a 25 0 0 + tI a 25 0 2 + late, mv a s i)] := by
  have e1 : ¬ sl = 10 := isO_ne hs (by decide +kernel)
  have zz := lay_tZ a sl j c n s i late (s' := 9) c (by decide)
  have n10 := lay_tN a sl j c n s i late 10
  refine ⟨lay_LO hL hc hn hz, lay_chg _ _ _ _ _ _ _ _, fun _ _ _ _ h => lay_LnP hs h, lay_cnt _ _ _ _ _ _ _ _, ?_, fun s' i' k h1 h2 => lay_tI h2 (fun q => h1 q.1) (fun q => h1 q.1), lay_vL hs hL hc hn hi, fun c' hc' hne => ⟨?_, fun k hk => lay_slot hs hL hc hn hc' hk (fun q => hne q.1)⟩, fun s' i' k h1 h2 => lay_tR h1 (fun q => h2 q.1), fun s' h1 => ?_, ?_, ?_, ?_⟩
  · rw [zz]
    by_cases e : n < tZ a 9 c
    · rw [if_neg (fun q => q.2.2 e)]; omega
    · rw [if_pos ⟨rfl, rfl, e⟩]; omega
  · rw [lay_tZ _ _ _ _ _ _ _ _ _ (by decide), if_neg (fun q => hne q.2.1)]
  · rw [lay_tN, if_neg (fun q => h1 q.1)]
  · rw [n10]; split <;> omega
  · rw [n10, zz]
    by_cases e : n < tZ a 9 c
    · rw [if_neg (fun q => q.2 e), if_neg (fun q => q.2.2 e)]
    · rw [if_pos ⟨rfl, e⟩, if_pos ⟨rfl, rfl, e⟩]; omega
  · rw [zz]
    by_cases e : n < tZ a 9 c
    · rw [if_neg (fun q => q.2.2 e)]; omega
    · rw [if_pos ⟨rfl, rfl, e⟩]; omega
theorem LayP_r {a : TS} {sl j c n : Nat} (hL : LO a) (hn : tI a sl j 3 = Int32.ofNat n) (hz : n ≤ tZ a 9 c) : LayP a a sl j c n n [] := by
  refine ⟨hL, chg_r _ _, fun _ _ _ _ h => h, hn, hz, fun _ _ _ _ _ => rfl, (List.append_nil _).symm, fun c' hc' _ => ⟨rfl, fun k hk => ⟨rfl, ?_⟩⟩, fun _ _ _ _ _ => rfl, fun _ _ => rfl, Nat.le_refl _, rfl, by omega⟩
  obtain ⟨r, r1, r2⟩ := hL.1 c' hc' k hk
  exact ⟨r, r1, r2, fun _ => rfl⟩
theorem LayP_t {a b d : TS} {sl j c n n' n'' : Nat} {l l' : List (Int32 × (Nat → Int32))} (hn : n' ≤ n'') (h1 : LayP a b sl j c n n' l) (h2 : LayP b d sl j c n' n'' l') : LayP a d sl j c n n'' (l ++ l') := by
  obtain ⟨a1, a2, a3, a4, a5, a6, a7, a8, a9, a10, a11, a12, a13⟩ := h1
  obtain ⟨b1, b2, b3, b4, b5, b6, b7, b8, b9, b10, b11, b12, b13⟩ := h2
  have n9 : tN b 9 = tN a 9 := a10 9 (by decide)
  refine ⟨b1, chg_t a2 b2, fun _ _ _ _ h => b3 _ _ _ _ (a3 _ _ _ _ h), b4, b5, fun s' i' k q1 q2 => (b6 s' i' k q1 q2).trans (a6 s' i' k q1 q2), by rw [b7, a7, List.append_assoc], fun c' hc' hne => ?_, fun s' i' k q1 q2 => (b9 s' i' k q1 q2).trans (a9 s' i' k q1 q2), fun s' q => (b10 s' q).trans (a10 s' q), Nat.le_trans a11 b11, by omega, by omega⟩
  obtain ⟨c1, c2⟩ := a8 c' hc' hne
  obtain ⟨d1, d2⟩ := b8 c' (by rw [n9]; exact hc') hne
  refine ⟨d1.trans c1, fun k hk => ?_⟩
  obtain ⟨c3, r, c4, c5, c6⟩ := c2 k hk
  obtain ⟨d3, r', d4, d5, d6⟩ := d2 k (by rw [c1]; exact hk)
  rw [c3, c5] at d5
  have er : r = r' := (Prod.mk.inj (Option.some.inj d5)).2
  subst er
  exact ⟨d3.trans c3, r, c4, c5, fun f => (d6 f).trans (c6 f)⟩
/-- the copies of a message, by the fault that takes it -/
def laid (k d : Int32) (m : Nat → Int32) : List (Int32 × (Nat → Int32)) := if k = 0 then [] else if k = 1 then [(d, m), (d, m)] else [(if k = 2 then d + 4 else d, m)]
def putC (a : TS) (sl j c f n s i : Nat) : TS :=
  if fltK a f = 0 then fltS a f else if fltK a f = 1 then lay (lay (fltS a f) sl j c n s i 0) sl j c (n + 1) s i 0 else lay (fltS a f) sl j c n s i (if fltK a f = 2 then 4 else 0)
def putN (k : Int32) (n : Nat) : Nat := if k = 0 then n else if k = 1 then n + 2 else n + 1
theorem fltS_chg (a : TS) (f : Nat) : chg [8] a (fltS a f) := by
  unfold fltS
  repeat' split
  all_goals first | exact chg_r _ _ | exact chg_sI (by simp) (chg_r _ _)
theorem fltS_tI {a : TS} {f s i : Nat} (h : ¬ (s = 8 ∧ i = f)) (k : Nat) : tI (fltS a f) s i k = tI a s i k := by
  unfold fltS
  repeat' split
  all_goals first | rfl | exact (tI_sI ..).trans (if_neg (fun q => h ⟨q.1, q.2.1⟩))
theorem fltS_rest (a : TS) (f : Nat) : (fltS a f).2 = a.2 := by
  unfold fltS
  repeat' split
  all_goals rfl
theorem fltS_LO {a : TS} {f : Nat} (h : LO a) : LO (fltS a f) := by
  unfold fltS
  repeat' split
  all_goals exact h
theorem fltS_LnP {a : TS} {f sl j c f' : Nat} (h : LnP a sl j c f') : LnP (fltS a f) sl j c f' := by
  unfold fltS
  repeat' split
  all_goals exact h
theorem x37 {a : TS} {z : Hp} {sl j c f n s i : Nat} (hP : LnP a sl j c f) (hL : LO a) (hn : tI a sl j 3 = Int32.ofNat n) (hn2 : n ≤ tZ a 9 c) (hz : tZ a 9 c < 29998) (hs : isM s) (hi : i < tN a s) (hb : bitOk (tI a s i 14) = true) :
    Ex 37 [aR (some (sl, j)), aR (some (s, i))] (enc 1 a z) = some (.inl none, enc 1 (putC a sl j c f n s i) z) := by
  have hP0 := hP
  obtain ⟨p1, p2, p3, p4, p5, p6, p7, p8, p9⟩ := hP
  have e8 : ¬ sl = 8 := isO_ne p1 (by decide +kernel)
  have e10 : ¬ sl = 10 := isO_ne p1 (by decide +kernel)
  have s8 : ¬ s = 8 := fun e => by rw [e] at hs; exact absurd hs.2 (by decide +kernel)
  have hr := fltS_rest a f
  have hi0 : i < tN (fltS a f) s := by unfold tN; rw [hr]; exact hi
  have hz0 : tZ (fltS a f) 9 c = tZ a 9 c := by unfold tZ; rw [hr]
  have hn0 : tI (fltS a f) sl j 3 = Int32.ofNat n := by rw [fltS_tI (fun q => e8 q.1)]; exact hn
  have hb0 : bitOk (tI (fltS a f) s i 14) = true := by rw [fltS_tI (fun q => s8 q.1)]; exact hb
  have hL0 : LO (fltS a f) := fltS_LO hL
  have hP1 : LnP (fltS a f) sl j c f := fltS_LnP hP0
  have n9 : c < tN (fltS a f) 9 := by unfold tN; rw [hr]; exact p9
  refine (X_o p1 (by decide +kernel) p2 rfl).trans ((lf_37_0 ..).trans ?_)
  rw [x38 p1 p2 p5 p6 p7, cI_v]
  unfold putC
  by_cases k0 : fltK a f = 0
  · rw [if_pos k0, if_pos k0, lf_37_27, if_pos (by decide)]
  · rw [if_neg k0, if_neg k0]
    by_cases k1 : fltK a f = 1
    · rw [if_pos k1, if_pos k1, k1]
      rw [lay_x hP1 hL0 hn0 (by omega) (by omega) hs hi0 hb0 (by decide), if_neg (c := (1 : Int32) = 2) (by decide)]
      obtain ⟨q1, q2, q3, q4, q5, q6, q7, q8, q9, q10, q11, q12, q13⟩ := lay_P (j := j) (late := 0) p1 hL0 n9 (show n ≤ tZ (fltS a f) 9 c by omega) (by omega) hi0
      obtain ⟨m1, m2, m3⟩ := lay_mv (j := j) (c := c) (n := n) (late := 0) p1 hs hi0
      rw [lay_x (q3 _ _ _ _ hP1) q1 q4 q5 (by omega) hs m2 (by rw [m3]; exact hb0) (by decide), if_neg (c := (1 : Int32) = 2) (by decide), lf_37_27, if_pos (by decide)]
    · rw [if_neg k1, if_neg k1]
      rw [lay_x hP1 hL0 hn0 (by omega) (by omega) hs hi0 hb0 (by decide), lf_37_27, if_pos (by decide)]
/-- what a put does -/
def PutP (a a' : TS) (sl j c f n n' : Nat) (add : List (Int32 × (Nat → Int32))) : Prop :=
  LO a' ∧ chg [8, 9, 10, sl] a a' ∧ (∀ sl' j' c' f', LnP a sl' j' c' f' → LnP a' sl' j' c' f') ∧ tI a' sl j 3 = Int32.ofNat n' ∧ n' ≤ tZ a' 9 c ∧
  (∀ s' i' k, s' ≠ 10 → s' ≠ 8 → ¬ (s' = sl ∧ i' = j ∧ k = 3) → tI a' s' i' k = tI a s' i' k) ∧ vL a' c n' = vL a c n ++ add ∧
  (∀ c', c' < tN a 9 → c' ≠ c → tZ a' 9 c' = tZ a 9 c' ∧ ∀ k, k < tZ a 9 c' → tR a' 9 c' k = tR a 9 c' k ∧ ∃ r', r' < tN a 10 ∧ tR a 9 c' k = some (10, r') ∧ ∀ f, tI a' 10 r' f = tI a 10 r' f) ∧
  (∀ s' i' k, s' ≠ 10 → s' ≠ 9 → tR a' s' i' k = tR a s' i' k) ∧ (∀ s', s' ≠ 10 → tN a' s' = tN a s') ∧ tN a 10 ≤ tN a' 10 ∧ tN a' 10 + tZ a 9 c = tN a 10 + tZ a' 9 c ∧ tZ a' 9 c = max (tZ a 9 c) n' ∧
  (∀ f' h, tI a' 8 f' h = tI (fltS a f) 8 f' h)
theorem put_P {a : TS} {sl j c f n s i : Nat} (hP : LnP a sl j c f) (hL : LO a) (hn : tI a sl j 3 = Int32.ofNat n) (hn2 : n ≤ tZ a 9 c) (hz : tZ a 9 c < 29998) (hs : isM s) (hi : i < tN a s) :
    PutP a (putC a sl j c f n s i) sl j c f n (putN (fltK a f) n) (laid (fltK a f) (tI a 25 0 0 + tI a 25 0 2) (mv a s i)) := by
  obtain ⟨p1, p2, p3, p4, p5, p6, p7, p8, p9⟩ := hP
  have e8 : ¬ sl = 8 := isO_ne p1 (by decide +kernel)
  have s8 : ¬ s = 8 := fun e => by rw [e] at hs; exact absurd hs.2 (by decide +kernel)
  have hr := fltS_rest a f
  have tn : ∀ s', tN (fltS a f) s' = tN a s' := fun s' => by unfold tN; rw [hr]
  have tz9 : ∀ s' i', tZ (fltS a f) s' i' = tZ a s' i' := fun s' i' => by unfold tZ; rw [hr]
  have tr : ∀ s' i' k, tR (fltS a f) s' i' k = tR a s' i' k := fun s' i' k => by unfold tR; rw [hr]
  have hi0 : i < tN (fltS a f) s := by rw [tn]; exact hi
  have n9 : c < tN (fltS a f) 9 := by rw [tn]; exact p9
  have hn0 : tI (fltS a f) sl j 3 = Int32.ofNat n := by rw [fltS_tI (fun q => e8 q.1)]; exact hn
  have h25 : ∀ k, tI (fltS a f) 25 0 k = tI a 25 0 k := fltS_tI (fun q => absurd q.1 (by decide))
  have hmv : mv (fltS a f) s i = mv a s i := by
    funext g
    unfold mv
    rw [fltS_tI (fun q => s8 q.1)]
  have hvl : vL (fltS a f) c n = vL a c n := by
    unfold vL
    refine List.map_congr_left (fun x hx => ?_)
    rw [tr]
    have hx := List.mem_range.mp hx
    obtain ⟨r, r1, r2⟩ := hL.1 c p9 x (by omega)
    rw [r2]
    exact eC_congr (fun g => fltS_tI (fun q => absurd q.1 (by decide)) g)
  -- from LayP over the faults' store
  have lift : ∀ (d : TS) (n' : Nat) (add : List (Int32 × (Nat → Int32))), LayP (fltS a f) d sl j c n n' add → PutP a d sl j c f n n' add := by
    intro d n' add hh
    obtain ⟨b1, b2, b3, b4, b5, b6, b7, b8, b9, b10, b11, b12, b13⟩ := hh
    rw [tn] at b11 b12
    rw [tz9] at b12 b13
    refine ⟨b1, chg_t (chg_m (fltS_chg a f) (by simp)) (chg_m b2 (by intro q hq; simp only [List.mem_cons, List.not_mem_nil, or_false] at hq ⊢; omega)), fun _ _ _ _ h => b3 _ _ _ _ (fltS_LnP h), b4, b5, fun s' i' k q1 q2 q3 => (b6 s' i' k q1 q3).trans (fltS_tI (fun q => q2 q.1) k), by rw [b7, hvl], fun c' hc' hne => ?_, fun s' i' k q1 q2 => (b9 s' i' k q1 q2).trans (tr _ _ _), fun s' q => (b10 s' q).trans (tn s'), b11, b12, b13, fun f' h => b6 8 f' h (by decide) (fun q => e8 q.1.symm)⟩
    obtain ⟨c1, c2⟩ := b8 c' (by rw [tn]; exact hc') hne
    rw [tz9] at c1 c2
    refine ⟨c1, fun k hk => ?_⟩
    obtain ⟨c3, r, c4, c5, c6⟩ := c2 k hk
    rw [tr] at c3 c5
    rw [tn] at c4
    exact ⟨c3, r, c4, c5, fun g => (c6 g).trans (fltS_tI (fun q => absurd q.1 (by decide)) g)⟩
  apply lift
  unfold putC putN laid
  by_cases k0 : fltK a f = 0
  · rw [if_pos k0, if_pos k0, if_pos k0]
    exact LayP_r (fltS_LO hL) hn0 (by rw [tz9]; exact hn2)
  · rw [if_neg k0, if_neg k0, if_neg k0]
    by_cases k1 : fltK a f = 1
    · rw [if_pos k1, if_pos k1, if_pos k1]
      have h1 := lay_P (j := j) (late := 0) p1 (fltS_LO (f := f) hL) n9 (show n ≤ tZ (fltS a f) 9 c by rw [tz9]; exact hn2) (by rw [tz9]; omega) hi0
      obtain ⟨m1, m2, m3⟩ := lay_mv (j := j) (c := c) (n := n) (late := 0) p1 hs hi0
      have h1' := h1
      obtain ⟨q1, q2, q3, q4, q5, q6, q7, q8, q9, q10, q11, q12, q13⟩ := h1
      rw [tz9] at q13
      have h2 := lay_P (j := j) (late := 0) p1 q1 (by rw [q10 9 (by decide)]; exact n9) q5 (by omega) m2
      have h3 := LayP_t (by omega) h1' h2
      rw [q6 25 0 0 (by decide) (fun q => (isO_ne p1 (t := 25) (by decide +kernel)) q.1.symm), q6 25 0 2 (by decide) (fun q => (isO_ne p1 (t := 25) (by decide +kernel)) q.1.symm), m1, h25, h25, hmv, Int32.add_zero] at h3
      exact h3
    · rw [if_neg k1, if_neg k1, if_neg k1]
      have h1 := lay_P (j := j) (late := if fltK a f = 2 then 4 else 0) p1 (fltS_LO (f := f) hL) n9 (show n ≤ tZ (fltS a f) 9 c by rw [tz9]; exact hn2) (by rw [tz9]; omega) hi0
      rw [h25, h25, hmv] at h1
      by_cases k2 : fltK a f = 2
      · rw [if_pos k2] at h1
        rw [if_pos k2, if_pos k2]
        exact h1
      · rw [if_neg k2, Int32.add_zero] at h1
        rw [if_neg k2, if_neg k2]
        exact h1
theorem fltS_stp (a : TS) (f : Nat) : Wr a (fltS a f) := by
  unfold fltS
  repeat' split
  all_goals first | exact Wr.rf _ | exact (Wr.rf _).cI _ _ _ _
theorem putC_stp {a : TS} {sl j c f n s i : Nat} (hP : LnP a sl j c f) (hL : LO a) (hn : tI a sl j 3 = Int32.ofNat n) (hn2 : n ≤ tZ a 9 c) (hz : tZ a 9 c < 29998) (hi : i < tN a s) : Wr a (putC a sl j c f n s i) := by
  obtain ⟨p1, p2, p3, p4, p5, p6, p7, p8, p9⟩ := hP
  have hr := fltS_rest a f
  have n9 : c < tN (fltS a f) 9 := by unfold tN; rw [hr]; exact p9
  have hz0 : tZ (fltS a f) 9 c = tZ a 9 c := by unfold tZ; rw [hr]
  have hi0 : i < tN (fltS a f) s := by unfold tN; rw [hr]; exact hi
  unfold putC
  split
  · exact fltS_stp a f
  · split
    · refine ((fltS_stp a f).t (lay_stp (fltS_LO hL) n9)).t (lay_stp ?_ ?_)
      · exact (lay_P (j := j) (late := 0) p1 (fltS_LO hL) n9 (show n ≤ tZ (fltS a f) 9 c by omega) (by omega) hi0).1
      · exact Nat.lt_of_lt_of_le n9 ((lay_stp (fltS_LO hL) n9).N 9)
    · exact (fltS_stp a f).t (lay_stp (fltS_LO hL) n9)
