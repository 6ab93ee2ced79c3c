/-! ===== the room: what is made is counted ===== -/
/-- sites at which something may be made after the start -/
def dyN (s : Nat) : Bool := [1, 2, 4, 5, 6, 7, 8, 9, 10, 11, 12, 16, 17, 18, 19, 20, 21, 22, 23, 35, 36, 37, 38, 39, 48, 49, 50, 51, 52, 61, 62, 63, 64, 74, 75, 76, 77, 78, 79, 80, 81].any (Nat.beq s)
theorem any_mem {l : List Nat} {s : Nat} (h : l.any (Nat.beq s) = true) : s ∈ l := by
  obtain ⟨x, hx, e⟩ := List.any_eq_true.mp h
  exact Nat.eq_of_beq_eq_true e ▸ hx
theorem mem_any {l : List Nat} {s : Nat} (h : s ∈ l) : l.any (Nat.beq s) = true := List.any_eq_true.mpr ⟨s, h, beq_tt rfl⟩
theorem dyS_N {s z : Nat} (h : dyS s z = true) : dyN s = true := by
  unfold dyS at h
  unfold dyN
  rw [Bool.or_eq_true, Bool.or_eq_true, Bool.and_eq_true, Bool.or_eq_true, Bool.and_eq_true, Bool.or_eq_true] at h
  rcases h with h | ⟨h | h, -⟩ | ⟨h | h, -⟩
  · have h := any_mem h
    refine mem_any ?_
    simp only [List.mem_cons, List.not_mem_nil, or_false] at h ⊢
    omega
  · rw [Nat.eq_of_beq_eq_true h]; rfl
  · rw [Nat.eq_of_beq_eq_true h]; rfl
  · rw [Nat.eq_of_beq_eq_true h]; rfl
  · rw [Nat.eq_of_beq_eq_true h]; rfl
theorem dyS_16 {s z : Nat} (h : dyS s z = true) (hs : s = 51 ∨ s = 52) : 16 ≤ z := by
  unfold dyS at h
  rw [Bool.or_eq_true, Bool.or_eq_true, Bool.and_eq_true, Bool.or_eq_true, Bool.and_eq_true, Bool.or_eq_true] at h
  rcases h with h | ⟨-, h⟩ | ⟨h | h, -⟩
  · have h := any_mem h
    simp only [List.mem_cons, List.not_mem_nil, or_false] at h
    omega
  · exact Nat.le_of_ble_eq_true h
  · have := Nat.eq_of_beq_eq_true h; omega
  · have := Nat.eq_of_beq_eq_true h; omega
theorem dyS_32 {s z : Nat} (h : dyS s z = true) (hs : s = 49 ∨ s = 50) : z ≤ 32 := by
  unfold dyS at h
  rw [Bool.or_eq_true, Bool.or_eq_true, Bool.and_eq_true, Bool.or_eq_true, Bool.and_eq_true, Bool.or_eq_true] at h
  rcases h with h | ⟨h | h, -⟩ | ⟨-, h⟩
  · have h := any_mem h
    simp only [List.mem_cons, List.not_mem_nil, or_false] at h
    omega
  · have := Nat.eq_of_beq_eq_true h; omega
  · have := Nat.eq_of_beq_eq_true h; omega
  · exact Nat.le_of_ble_eq_true h
theorem dy_kd {s : Nat} (h : dyN s = true) : kd s ≠ 1000000 := by
  have h := any_mem h
  simp only [List.mem_cons, List.not_mem_nil, or_false] at h
  rcases h with h | h | h | h | h | h | h | h | h | h | h | h | h | h | h | h | h | h | h | h | h | h | h | h | h | h | h | h | h | h | h | h | h | h | h | h | h | h | h | h | h <;> subst h <;> decide +kernel
/-- capacities of a site's lists -/
def Tl (x : TS) (s : Nat) : Nat := if kd s = 2000 ∨ kd s = 1000000 then sumS (tN x s) (tC x s) else 0
/-- slots of a site's cells -/
def Sl (x : TS) (s : Nat) : Nat := sumS (tN x s) (fun i => szN s (tZ x s i))
/-- what was made is counted: m0 the start, e exceptions -/
def AcP (m0 : TS) (e : Nat) (x : TS) : Prop :=
  5 * tc x ≤ 5 * (sumS 100 (tN x) + e) + sumS 100 (Tl x) ∧ 4 * tz x ≤ 4 * (sumS 100 (Sl x) + 6 * e) + 13 * sumS 100 (Tl x) ∧
  (∀ s i, kd s = 2000 → i < tN x s → tC x s i = 0 ∨ 10 ≤ tC x s i) ∧ (∀ s i, kd s = 1000000 → i < tN x s → 16 ≤ tC x s i) ∧
  (∀ s, dyN s = false → tN x s = tN m0 s) ∧ (∀ s i, dyN s = false → kd s ≠ 2000 → kd s ≠ 1000000 → tZ x s i = tZ m0 s i) ∧
  (∀ s i, (s = 49 ∨ s = 50) → i < tN x s → tZ x s i ≤ 32) ∧ ∀ s i, (s = 51 ∨ s = 52) → i < tN x s → 16 ≤ tZ x s i
theorem AcP_e {m0 x : TS} {e : Nat} (h : AcP m0 e x) : AcP m0 (e + 1) (aC x 1 6) := by
  obtain ⟨h1, h2, h3⟩ := h
  refine ⟨?_, ?_, h3⟩
  · show 5 * (tc x + 1) ≤ 5 * (sumS 100 (tN x) + (e + 1)) + sumS 100 (Tl x)
    omega
  · show 4 * (tz x + 6) ≤ 4 * (sumS 100 (Sl x) + 6 * (e + 1)) + 13 * sumS 100 (Tl x)
    omega
theorem AcP_m {m0 x : TS} {e : Nat} (h : AcP m0 e x) : AcP m0 (e + 1) x := by
  obtain ⟨h1, h2, h3⟩ := h
  exact ⟨by omega, by omega, h3⟩
theorem sumS_up {f f' : Nat → Nat} {s d n : Nat} (hs : s < n) (h : f' s = f s + d) (ho : ∀ t, t ≠ s → f' t = f t) : sumS n f' = sumS n f + d := by
  have h1 := sumS_at (f := f') (g := f) (s := s) (d := 0) (e := d) (by omega) n hs (fun t _ q => Nat.le_of_eq (ho t q))
  have h2 := sumS_at (f := f) (g := f') (s := s) (d := d) (e := 0) (by omega) n hs (fun t _ q => Nat.le_of_eq (ho t q).symm)
  omega
/-- only lengths of lists differ -/
theorem AcP_z {m0 x x' : TS} {e : Nat} (h : AcP m0 e x) (n : tN x' = tN x) (c : tC x' = tC x) (h1 : tc x' = tc x) (h2 : tz x' = tz x) (z : ∀ s i, kd s ≠ 2000 → kd s ≠ 1000000 → tZ x' s i = tZ x s i) : AcP m0 e x' := by
  have eT : Tl x' = Tl x := by
    funext s
    unfold Tl
    rw [n, c]
  have eS : Sl x' = Sl x := by
    funext s
    unfold Sl
    rw [n]
    refine sumS_eq _ (fun i _ => ?_)
    by_cases k1 : kd s = 2000
    · unfold szN
      rw [k1]
      rfl
    · by_cases k2 : kd s = 1000000
      · unfold szN
        rw [k2]
        rfl
      · rw [z s i k1 k2]
  obtain ⟨p1, p2, p3, p4, p5, p6, p7, p8⟩ := h
  refine ⟨by rw [h1, n, eT]; exact p1, by rw [h2, eS, eT]; exact p2, by rw [n, c]; exact p3, by rw [n, c]; exact p4, by rw [n]; exact p5, fun s i q k1 k2 => (z s i k1 k2).trans (p6 s i q k1 k2), fun s i q hi => ?_, fun s i q hi => ?_⟩
  · rw [n] at hi
    rw [z s i (by rcases q with q | q <;> subst q <;> decide +kernel) (by rcases q with q | q <;> subst q <;> decide +kernel)]
    exact p7 s i q hi
  · rw [n] at hi
    rw [z s i (by rcases q with q | q <;> subst q <;> decide +kernel) (by rcases q with q | q <;> subst q <;> decide +kernel)]
    exact p8 s i q hi
/-- a list grows: d more places, c slots for the new row -/
theorem AcP_g {m0 x x' : TS} {e s i c d : Nat} (h : AcP m0 e x) (hs : s < 100) (hk : kd s = 2000 ∨ kd s = 1000000) (hi : i < tN x s) (n : tN x' = tN x) (h1 : tc x' = tc x + 1) (h2 : tz x' = tz x + c)
    (hC : ∀ s' i', tC x' s' i' = if s' = s ∧ i' = i then tC x s i + d else tC x s' i') (z : ∀ s i, kd s ≠ 2000 → kd s ≠ 1000000 → tZ x' s i = tZ x s i) (hd : 5 ≤ d) (hd2 : 4 * c ≤ 13 * d) (hl : kd s = 2000 → 10 ≤ tC x s i + d) : AcP m0 e x' := by
  have eT : sumS 100 (Tl x') = sumS 100 (Tl x) + d := by
    refine sumS_up hs ?_ (fun t ht => ?_)
    · unfold Tl
      rw [if_pos hk, if_pos hk, n]
      exact sumS_up hi (by rw [hC, if_pos ⟨rfl, rfl⟩]) (fun j hj => by rw [hC, if_neg (fun q => hj q.2)])
    · unfold Tl
      rw [n, show tC x' t = tC x t from funext (fun j => by rw [hC, if_neg (fun q => ht q.1)])]
  have eS : Sl x' = Sl x := by
    funext s
    unfold Sl
    rw [n]
    refine sumS_eq _ (fun i _ => ?_)
    by_cases k1 : kd s = 2000
    · unfold szN
      rw [k1]
      rfl
    · by_cases k2 : kd s = 1000000
      · unfold szN
        rw [k2]
        rfl
      · rw [z s i k1 k2]
  obtain ⟨p1, p2, p3, p4, p5, p6, p7, p8⟩ := h
  refine ⟨by rw [h1, n, eT]; omega, by rw [h2, eS, eT]; omega, fun t j k hj => ?_, fun t j k hj => ?_, by rw [n]; exact p5, fun s i q k1 k2 => (z s i k1 k2).trans (p6 s i q k1 k2), fun s i q hi => ?_, fun s i q hi => ?_⟩
  · rw [n] at hj
    rw [hC]
    by_cases q : t = s ∧ j = i
    · rw [if_pos q]
      rw [q.1] at k
      exact Or.inr (hl k)
    · rw [if_neg q]
      exact p3 t j k hj
  · rw [n] at hj
    rw [hC]
    by_cases q : t = s ∧ j = i
    · rw [if_pos q]
      have := p4 t j k hj
      rw [q.1, q.2] at this
      omega
    · rw [if_neg q]
      exact p4 t j k hj
  · rw [n] at hi
    rw [z s i (by rcases q with q | q <;> subst q <;> decide +kernel) (by rcases q with q | q <;> subst q <;> decide +kernel)]
    exact p7 s i q hi
  · rw [n] at hi
    rw [z s i (by rcases q with q | q <;> subst q <;> decide +kernel) (by rcases q with q | q <;> subst q <;> decide +kernel)]
    exact p8 s i q hi
theorem AcP_mk {m0 x : TS} {e s z n : Nat} (hn : n = szN s z) (hs : dyS s z = true) (h : AcP m0 e x) : AcP m0 e (mk x s z 0 n) := by
  have s100 := dyS_lt hs
  have dN := dyS_N hs
  have k2 := dy_kd dN
  have eN : sumS 100 (tN (mk x s z 0 n)) = sumS 100 (tN x) + 1 := sumS_up s100 (by rw [tN_mk, if_pos rfl]) (fun t ht => by rw [tN_mk, if_neg ht])
  have eT : sumS 100 (Tl (mk x s z 0 n)) = sumS 100 (Tl x) := by
    refine sumS_eq _ (fun t _ => ?_)
    unfold Tl
    by_cases ht : t = s
    · subst ht
      split
      · rw [tN_mk, if_pos rfl, sumS_s, tC_mk, if_pos ⟨rfl, rfl⟩]
        exact sumS_eq _ (fun i hi => by rw [tC_mk, if_neg (fun q => by omega)])
      · rfl
    · rw [tN_mk, if_neg ht]
      split
      · exact sumS_eq _ (fun i _ => by rw [tC_mk, if_neg (fun q => ht q.1)])
      · rfl
  have eS : sumS 100 (Sl (mk x s z 0 n)) = sumS 100 (Sl x) + n := by
    refine sumS_up s100 ?_ (fun t ht => ?_)
    · unfold Sl
      have key : sumS (tN x s) (fun i => szN s (tZ (mk x s z 0 n) s i)) = sumS (tN x s) (fun i => szN s (tZ x s i)) := sumS_eq _ (fun i hi => by rw [tZ_mk, if_neg (fun q => by omega)])
      rw [tN_mk, if_pos rfl, sumS_s, key, tZ_mk, if_pos ⟨rfl, rfl⟩, ← hn]
    · unfold Sl
      rw [tN_mk, if_neg ht]
      exact sumS_eq _ (fun i _ => by rw [tZ_mk, if_neg (fun q => ht q.1)])
  obtain ⟨p1, p2, p3, p4, p5, p6, p7, p8⟩ := h
  refine ⟨by rw [eN, eT, tc_mk]; omega, by rw [eS, eT, tz_mk]; omega, fun t j k hj => ?_, fun t j k hj => ?_, fun t ht => ?_, fun t j ht q1 q2 => ?_, fun t j q hj => ?_, fun t j q hj => ?_⟩
  · rw [tC_mk]
    by_cases q : t = s ∧ j = tN x s
    · rw [if_pos q]; exact Or.inl rfl
    · rw [if_neg q]
      rw [tN_mk] at hj
      refine p3 t j k ?_
      by_cases ht : t = s
      · rw [if_pos ht] at hj
        subst ht
        have : j ≠ tN x t := fun w => q ⟨rfl, w⟩
        omega
      · rw [if_neg ht] at hj; exact hj
  · have ht : t ≠ s := fun w => k2 (w ▸ k)
    rw [tN_mk, if_neg ht] at hj
    rw [tC_mk, if_neg (fun q => ht q.1)]
    exact p4 t j k hj
  · have hts : t ≠ s := fun w => by rw [w, dN] at ht; cases ht
    rw [tN_mk, if_neg hts]
    exact p5 t ht
  · have hts : t ≠ s := fun w => by rw [w, dN] at ht; cases ht
    rw [tZ_mk, if_neg (fun q => hts q.1)]
    exact p6 t j ht q1 q2
  · rw [tZ_mk]
    by_cases w : t = s ∧ j = tN x s
    · rw [if_pos w]
      exact dyS_32 hs (w.1 ▸ q)
    · rw [if_neg w]
      rw [tN_mk] at hj
      refine p7 t j q ?_
      by_cases ht : t = s
      · rw [if_pos ht] at hj
        subst ht
        have : j ≠ tN x t := fun v => w ⟨rfl, v⟩
        omega
      · rw [if_neg ht] at hj; exact hj
  · rw [tZ_mk]
    by_cases w : t = s ∧ j = tN x s
    · rw [if_pos w]
      exact dyS_16 hs (w.1 ▸ q)
    · rw [if_neg w]
      rw [tN_mk] at hj
      refine p8 t j q ?_
      by_cases ht : t = s
      · rw [if_pos ht] at hj
        subst ht
        have : j ≠ tN x t := fun v => w ⟨rfl, v⟩
        omega
      · rw [if_neg ht] at hj; exact hj
theorem AcP_W (m0 : TS) (e : Nat) : WrC (AcP m0 e) := by
  refine ⟨fun x s i k v h => AcP_z h rfl rfl rfl rfl (fun _ _ _ _ => rfl), fun x s i k v h => AcP_z h rfl rfl rfl rfl (fun _ _ _ _ => rfl), fun x s i k v h => AcP_z h rfl rfl rfl rfl (fun _ _ _ _ => rfl), fun x s z n hn hs h => AcP_mk hn hs h, fun x s i v hk hs hi hc h => ?_, fun x s i k hk h => ?_, fun x s i hk h => ?_, fun x s i v hk hs hi hc h => ?_⟩
  · have zk : ∀ t j, kd t ≠ 2000 → kd t ≠ 1000000 → tZ (pushL x s i v) t j = tZ x t j := fun t j k1 k2 => by
      rw [tZ_pushL, if_neg (fun w : t = s ∧ j = i => k1 (by rw [w.1]; exact hk))]
    by_cases q : tZ x s i < tC x s i
    · refine AcP_z h (funext (fun t => tN_pushL ..)) (funext (fun t => funext (fun j => ?_))) (by rw [tc_pushL, if_pos q]; rfl) (by rw [tz_pushL, if_pos q]; rfl) zk
      rw [tC_pushL]
      by_cases w : t = s ∧ j = i
      · rw [if_pos w, if_pos q, w.1, w.2]
      · rw [if_neg w]
    · have cz : tC x s i = tZ x s i := by omega
      have c0 := h.2.2.1 s i hk hi
      have eL : liC (tC x s i) (tZ x s i) = if tC x s i = 0 then 10 else tC x s i + tC x s i / 2 := by
        unfold liC
        rw [if_neg q]
      by_cases z0 : tC x s i = 0
      · rw [if_pos z0] at eL
        refine AcP_g (s := s) (i := i) (c := 10) (d := 10) h hs (Or.inl hk) hi (funext (fun t => tN_pushL ..)) (by rw [tc_pushL, if_neg q]) (by rw [tz_pushL, if_neg q, eL]) (fun s' i' => ?_) zk (by omega) (by omega) (fun _ => by omega)
        rw [tC_pushL]
        by_cases w : s' = s ∧ i' = i
        · rw [if_pos w, if_neg q, eL, if_pos w, z0]
        · rw [if_neg w, if_neg w]
      · rw [if_neg z0] at eL
        refine AcP_g (s := s) (i := i) (c := tC x s i + tC x s i / 2) (d := tC x s i / 2) h hs (Or.inl hk) hi (funext (fun t => tN_pushL ..)) (by rw [tc_pushL, if_neg q]) (by rw [tz_pushL, if_neg q, eL]) (fun s' i' => ?_) zk (by omega) (by omega) (fun _ => by omega)
        rw [tC_pushL]
        by_cases w : s' = s ∧ i' = i
        · rw [if_pos w, if_neg q, eL, if_pos w]
        · rw [if_neg w, if_neg w]
  · refine AcP_z h rfl rfl rfl rfl (fun t j k1 k2 => ?_)
    rw [tZ_rmL, if_neg (fun w : t = s ∧ j = i => k1 (by rw [w.1]; exact hk))]
  · refine AcP_z h rfl rfl rfl rfl (fun t j k1 k2 => ?_)
    rw [tZ_sZ, if_neg (fun w : t = s ∧ j = i => by rw [← w.1] at hk; exact hk.elim k1 k2)]
  · have zk : ∀ t j, kd t ≠ 2000 → kd t ≠ 1000000 → tZ (pushB x s i v) t j = tZ x t j := fun t j k1 k2 => by
      rw [tZ_pushB, if_neg (fun w : t = s ∧ j = i => k2 (by rw [w.1]; exact hk))]
    by_cases q : tZ x s i < tC x s i
    · refine AcP_z h (funext (fun t => tN_pushB ..)) (funext (fun t => funext (fun j => ?_))) (by rw [tc_pushB, if_pos q]; rfl) (by rw [tz_pushB, if_pos q]; rfl) zk
      rw [tC_pushB]
      by_cases w : t = s ∧ j = i
      · rw [if_pos w, if_pos q, w.1, w.2]
      · rw [if_neg w]
    · have c0 := h.2.2.2.1 s i hk hi
      refine AcP_g (s := s) (i := i) (c := 2 * tC x s i + 2) (d := tC x s i + 2) h hs (Or.inr hk) hi (funext (fun t => tN_pushB ..)) (by rw [tc_pushB, if_neg q]) (by rw [tz_pushB, if_neg q]) (fun s' i' => ?_) zk (by omega) (by omega) (fun k => by rw [hk] at k; exact absurd k (by decide))
      rw [tC_pushB]
      by_cases w : s' = s ∧ i' = i
      · rw [if_pos w, if_neg q, if_pos w]
        omega
      · rw [if_neg w, if_neg w]
theorem AcP_Wr {m0 x y : TS} {e : Nat} (h : Wr x y) (hx : AcP m0 e x) : AcP m0 e y := h _ (AcP_W m0 e) hx
/-- nothing was made but at the sites l; lists are empty but at 13 -/
def NZ (l : List Nat) (m : TS) : Prop := (∀ s, s ∉ l → tN m s = 0) ∧ ∀ s i, s ≠ 13 → tC m s i = 0
theorem NZ_a : NZ [3, 13, 14, 15, 24, 25, 26, 27, 28, 29, 30, 31, 96] aS0 := by
  refine ⟨fun s hs => ?_, fun s i hs => ?_⟩
  · simp only [List.mem_cons, List.not_mem_nil, or_false, not_or] at hs
    obtain ⟨h3, h13, h14, h15, h24, h25, h26, h27, h28, h29, h30, h31, h96⟩ := hs
    unfold aS0 kk76 kk63 kk13 kk12 kk51
    simp (config := {decide := true}) only [tI_sI, tL_sI, tR_sI, tN_sI, tZ_sI, tC_sI, tc_sI, tz_sI, tI_sL, tL_sL, tR_sL, tN_sL, tZ_sL, tC_sL, tc_sL, tz_sL, tI_sR, tL_sR, tR_sR, tN_sR, tZ_sR, tC_sR, tc_sR, tz_sR, tI_sZ, tL_sZ, tR_sZ, tN_sZ, tZ_sZ, tC_sZ, tc_sZ, tz_sZ, tI_sC, tL_sC, tR_sC, tN_sC, tZ_sC, tC_sC, tc_sC, tz_sC, tI_aC, tL_aC, tR_aC, tN_aC, tZ_aC, tC_aC, tc_aC, tz_aC, tI_rmL, tL_rmL, tR_rmL, tN_rmL, tZ_rmL, tC_rmL, tc_rmL, tz_rmL, tI_mk, tL_mk, tR_mk, tN_mk, tZ_mk, tC_mk, tc_mk, tz_mk, tI_pushL, tL_pushL, tR_pushL, tN_pushL, tZ_pushL, tC_pushL, tc_pushL, tz_pushL, tI_pushB, tL_pushB, tR_pushB, tN_pushB, tZ_pushB, tC_pushB, tc_pushB, tz_pushB, tI_cpL, tL_cpL, tR_cpL, tN_cpL, tZ_cpL, tC_cpL, tc_cpL, tz_cpL, h3, h13, h14, h15, h24, h25, h26, h27, h28, h29, h30, h31, h96, eq_self, true_and, and_true, false_and, and_false, if_true, if_false, reduceIte, ite_true, ite_false, not_true_eq_false, not_false_eq_true]
    rfl
  · unfold aS0 kk76 kk63 kk13 kk12 kk51
    simp (config := {decide := true}) only [tI_sI, tL_sI, tR_sI, tN_sI, tZ_sI, tC_sI, tc_sI, tz_sI, tI_sL, tL_sL, tR_sL, tN_sL, tZ_sL, tC_sL, tc_sL, tz_sL, tI_sR, tL_sR, tR_sR, tN_sR, tZ_sR, tC_sR, tc_sR, tz_sR, tI_sZ, tL_sZ, tR_sZ, tN_sZ, tZ_sZ, tC_sZ, tc_sZ, tz_sZ, tI_sC, tL_sC, tR_sC, tN_sC, tZ_sC, tC_sC, tc_sC, tz_sC, tI_aC, tL_aC, tR_aC, tN_aC, tZ_aC, tC_aC, tc_aC, tz_aC, tI_rmL, tL_rmL, tR_rmL, tN_rmL, tZ_rmL, tC_rmL, tc_rmL, tz_rmL, tI_mk, tL_mk, tR_mk, tN_mk, tZ_mk, tC_mk, tc_mk, tz_mk, tI_pushL, tL_pushL, tR_pushL, tN_pushL, tZ_pushL, tC_pushL, tc_pushL, tz_pushL, tI_pushB, tL_pushB, tR_pushB, tN_pushB, tZ_pushB, tC_pushB, tc_pushB, tz_pushB, tI_cpL, tL_cpL, tR_cpL, tN_cpL, tZ_cpL, tC_cpL, tc_cpL, tz_cpL, hs, ite_self, show ∀ s i, tC eS0 s i = 0 from fun _ _ => rfl, eq_self, true_and, and_true, false_and, and_false, if_true, if_false, reduceIte, ite_true, ite_false, not_true_eq_false, not_false_eq_true]
theorem NZ_in {l : List Nat} {m : TS} {s i : Nat} (h : NZ l m) (hi : i < tN m s) : s ∈ l := by
  refine Classical.byContradiction (fun q => ?_)
  rw [h.1 s q] at hi
  exact Nat.not_lt_zero _ hi
theorem Ac_a : AcP aS0 0 aS0 := by
  refine ⟨by decide +kernel, by decide +kernel, fun s i k hi => ?_, fun s i k hi => ?_, fun _ _ => rfl, fun _ _ _ _ _ => rfl, fun s i q hi => ?_, fun s i q hi => ?_⟩
  · have hm := NZ_in NZ_a hi
    have k13 : kd 13 = 1000000 := by decide +kernel
    exact Or.inl (NZ_a.2 s i (fun e => by rw [e, k13] at k; exact absurd k (by decide)))
  · have hm := NZ_in NZ_a hi
    have kk : ∀ t ∈ [3, 13, 14, 15, 24, 25, 26, 27, 28, 29, 30, 31, 96], kd t = 1000000 → t = 13 := by decide +kernel
    have e := kk s hm k
    subst e
    have n13 : tN aS0 13 = 1 := by decide +kernel
    rw [n13] at hi
    have i0 : i = 0 := by omega
    subst i0
    decide +kernel
  · rcases q with q | q <;> subst q <;> exact v0 (by decide +kernel) hi
  · rcases q with q | q <;> subst q <;> exact v0 (by decide +kernel) hi
