/-! ===== the room of a shop's lines: what a tick does to it ===== -/
def tm (e : Ent) : Nat := e.1.toNatClampNeg
/-- when it comes is between these -/
def dok (lo hi : Nat) (e : Ent) : Prop := ∃ d, e.1 = Int32.ofNat d ∧ lo ≤ d ∧ d ≤ hi
theorem tm_of {e : Ent} {lo hi : Nat} (h : dok lo hi e) (hh : hi ≤ 4000) : e.1 = Int32.ofNat (tm e) ∧ lo ≤ tm e ∧ tm e ≤ hi := by
  obtain ⟨d, h1, h2, h3⟩ := h
  have : tm e = d := by unfold tm; rw [h1, o_ix (by omega)]
  rw [this]
  exact ⟨h1, h2, h3⟩
theorem dok_m {lo lo' hi hi' : Nat} {e : Ent} (h : dok lo hi e) (h1 : lo' ≤ lo) (h2 : hi ≤ hi') : dok lo' hi' e := by
  obtain ⟨d, a, b, c⟩ := h
  exact ⟨d, a, by omega, by omega⟩
theorem laid_dok {T n : Nat} (h1 : 1 ≤ n) (h5 : n ≤ 5) (k : Int32) (g : Nat → Int32) : ∀ e ∈ laid k (Int32.ofNat T + Int32.ofNat n) g, dok (T + 1) (T + 9) e := by
  intro e he
  rw [← Int32.ofNat_add] at he
  unfold laid at he
  split at he
  · simp at he
  · split at he
    · simp only [List.mem_cons, List.not_mem_nil, or_false, or_self] at he
      exact ⟨T + n, by rw [he], by omega, by omega⟩
    · simp only [List.mem_cons, List.not_mem_nil, or_false] at he
      by_cases hk : k = 2
      · exact ⟨T + n + 4, by rw [he]; dsimp only; rw [if_pos hk]; exact (Int32.ofNat_add (T + n) 4).symm, by omega, by omega⟩
      · exact ⟨T + n, by rw [he]; dsimp only; rw [if_neg hk], by omega, by omega⟩
theorem short_dok {T n : Nat} (h1 : 1 ≤ n) (h5 : n ≤ 5) {Y : List Ent} (h : shortY (Int32.ofNat T) (Int32.ofNat n) Y) : ∀ e ∈ Y, dok (T + 1) (T + 9) e := by
  intro e he
  rcases h.2 e he with q | q
  · exact ⟨T + n, by rw [q]; exact (Int32.ofNat_add T n).symm, by omega, by omega⟩
  · exact ⟨T + n + 4, by rw [q, ← Int32.ofNat_add]; exact (Int32.ofNat_add (T + n) 4).symm, by omega, by omega⟩
theorem clamp_dec {x : Int32} (h : ¬ x ≤ 0) : (x - 1).toNatClampNeg + 1 = x.toNatClampNeg := by
  rw [Int32.le_iff_toInt_le] at h
  have h : ¬ x.toInt ≤ 0 := h
  have hb := Int32.toInt_lt x
  rw [x_ix, x_ix, Int32.toInt_sub]
  have h1 : (1 : Int32).toInt = 1 := rfl
  rw [h1, Int.bmod_eq_of_le (by omega) (by omega)]
  omega
/-- how many are laid, and what is still to be doubled -/
theorem laid_len (f : Nat → Int32) (td : Int32) (g : Nat → Int32) : (laid (fK f) td g).length + (fR f 1).toNatClampNeg ≤ 1 + (f 1).toNatClampNeg ∧ (laid (fK f) td g).length ≤ 2 := by
  have L0 : (laid 0 td g).length = 0 := rfl
  have L1 : (laid 1 td g).length = 2 := rfl
  have L2' : (laid 2 td g).length = 1 := rfl
  have L3 : (laid (-1) td g).length = 1 := rfl
  by_cases e0 : f 0 ≤ 0
  · by_cases e1 : f 1 ≤ 0
    · have r : fR f 1 = f 1 := by
        unfold fR
        rw [if_pos e0, if_pos e1]
        split
        · rfl
        · exact if_neg (by decide)
      by_cases e2 : f 2 ≤ 0
      · have k : fK f = -1 := by unfold fK; rw [if_pos e0, if_pos e1, if_pos e2]
        rw [k, r, L3]
        omega
      · have k : fK f = 2 := by unfold fK; rw [if_pos e0, if_pos e1, if_neg e2]
        rw [k, r, L2']
        omega
    · have k : fK f = 1 := by unfold fK; rw [if_pos e0, if_neg e1]
      have r : fR f 1 = f 1 - 1 := by unfold fR; rw [if_pos e0, if_neg e1]; exact if_pos rfl
      have := clamp_dec e1
      rw [k, r, L1]
      omega
  · have k : fK f = 0 := by unfold fK; rw [if_neg e0]
    have r : fR f 1 = f 1 := by unfold fR; rw [if_neg e0]; exact if_neg (by decide)
    rw [k, r, L0]
    omega
/-- how often what is kept can still be put again -/
def sP (P : List Nat) : Nat := (P.map (fun p => (3000 - p) / 10)).sum
theorem sP_er {P P' : List Nat} (h : Ers P P') : sP P' ≤ sP P := by
  obtain ⟨R, r1, -⟩ := h
  have hp : P.Perm (P' ++ R) := List.perm_iff_count.mpr (fun g => by rw [r1, List.count_append])
  unfold sP
  rw [(hp.map _).sum_nat, List.map_append, List.sum_append]
  omega
theorem sP_add (P : List Nat) (T : Nat) : sP (P ++ [T]) ≤ sP P + 300 := by
  unfold sP
  rw [List.map_append, List.sum_append]
  simp only [List.map_cons, List.map_nil, List.sum_cons, List.sum_nil]
  omega
theorem sP_set : ∀ {P : List Nat} {k l T : Nat}, P[k]? = some l → l + 10 ≤ T → T ≤ 3000 → sP (P.set k T) + 1 ≤ sP P
  | [], _, _, _, h, _, _ => by simp at h
  | x :: P, 0, l, T, h, h1, h2 => by
    have e : x = l := by simpa using h
    subst e
    rw [List.set_cons_zero]
    unfold sP
    rw [List.map_cons, List.map_cons, List.sum_cons, List.sum_cons]
    omega
  | x :: P, k + 1, l, T, h, h1, h2 => by
    have := sP_set (P := P) (k := k) (l := l) (T := T) (by simpa using h) h1 h2
    rw [List.set_cons_succ]
    unfold sP at *
    rw [List.map_cons, List.map_cons, List.sum_cons, List.sum_cons]
    omega
/-- the room of a shop: its lines, and how long they ever were -/
def Rsh (T lo K : Nat) (P : List Nat) (U D : List Ent) (zU zD : Nat) : Prop := RmS T K P (U.map tm) (D.map tm) ∧ (∀ e ∈ U, dok lo (T + 9) e) ∧ (∀ e ∈ D, dok lo (T + 9) e) ∧ zU ≤ 2 * K ∧ zD ≤ 8 * K
theorem dok_map {lo hi T : Nat} {l : List Ent} (h : ∀ e ∈ l, dok lo hi e) (hh : hi ≤ 4000) (hT : T ≤ lo) : ∀ d ∈ l.map tm, T ≤ d := fun d hd => by
  obtain ⟨e, e1, e2⟩ := List.mem_map.mp hd
  have := (tm_of (h e e1) hh).2.1
  omega
theorem Rsh_U {T lo K : Nat} {P : List Nat} {U D : List Ent} {zU zD : Nat} (h : Rsh T lo K P U D zU zD) (hT : T ≤ 3000) (hlo : T ≤ lo) : U.length ≤ 2 * K := by
  have := RmS_U h.1 (dok_map h.2.1 (by omega) hlo)
  rwa [List.length_map] at this
theorem Rsh_D {T lo K : Nat} {P : List Nat} {U D : List Ent} {zU zD : Nat} (h : Rsh T lo K P U D zU zD) (hT : T ≤ 3000) (hlo : T ≤ lo) : D.length ≤ 8 * K := by
  have := RmS_D h.1 (dok_map h.2.2.1 (by omega) hlo)
  rwa [List.length_map] at this
theorem Rsh_K {T lo K K' : Nat} {P : List Nat} {U D : List Ent} {zU zD : Nat} (h : Rsh T lo K P U D zU zD) (hK : K ≤ K') : Rsh T lo K' P U D zU zD := ⟨RmS_K h.1 hK, h.2.1, h.2.2.1, by have := h.2.2.2.1; omega, by have := h.2.2.2.2; omega⟩
theorem Rsh_tick {T K : Nat} {P : List Nat} {U D : List Ent} {zU zD : Nat} (h : Rsh T (T + 1) K P U D zU zD) : Rsh (T + 1) (T + 1) K P U D zU zD := ⟨RmS_tick h.1, fun e he => dok_m (h.2.1 e he) (Nat.le_refl _) (by omega), fun e he => dok_m (h.2.2.1 e he) (Nat.le_refl _) (by omega), h.2.2.2.1, h.2.2.2.2⟩
/-! what is heard goes from the way up, and is answered on the way down -/
theorem RmS_hears {T K : Nat} {P : List Nat} : ∀ (u2 u1 D : List Nat) (Ys : List (List Nat)), Ys.length = u2.countP (fun x => decide (x = T)) → (∀ Y ∈ Ys, Y.length ≤ 2 ∧ ∀ y ∈ Y, y ≤ T + 9) → RmS T K P (u1 ++ u2) D → RmS T K P (u1 ++ u2.filter (fun x => decide (x ≠ T))) (D ++ Ys.flatten)
  | [], u1, D, Ys, h1, _, h3 => by
    have : Ys = [] := List.eq_nil_of_length_eq_zero h1
    subst this
    simpa using h3
  | x :: u2, u1, D, Ys, h1, h2, h3 => by
    by_cases e : x = T
    · subst e
      rw [List.countP_cons_of_pos (by simp)] at h1
      cases Ys with
      | nil => simp at h1
      | cons Y Ys =>
        have hY := h2 Y List.mem_cons_self
        have h4 := RmS_hear (u1 := u1) (u2 := u2) (Y := Y) h3 hY.1 hY.2
        have h5 := RmS_hears u2 u1 (D ++ Y) Ys (by simpa using h1) (fun Y' hY' => h2 Y' (List.mem_cons_of_mem _ hY')) h4
        rw [List.filter_cons_of_neg (by simp), List.flatten_cons, ← List.append_assoc]
        exact h5
    · rw [List.countP_cons_of_neg (by simpa using e)] at h1
      have h5 := RmS_hears u2 (u1 ++ [x]) D Ys h1 h2 (by rw [List.append_assoc]; exact h3)
      rw [List.filter_cons_of_pos (by simpa using e)]
      rw [List.append_assoc] at h5
      exact h5
theorem due_tm {T lo hi : Nat} (hh : hi ≤ 4000) (hT : T ≤ 3000) : ∀ (l : List Ent), (∀ e ∈ l, dok lo hi e) → (rst (Int32.ofNat T) l).map tm = (l.map tm).filter (fun x => decide (x ≠ T)) ∧ (due (Int32.ofNat T) l).length = (l.map tm).countP (fun x => decide (x = T)) ∧ (rst (Int32.ofNat T) l).length + (due (Int32.ofNat T) l).length = l.length
  | [], _ => ⟨rfl, rfl, rfl⟩
  | e :: l, h => by
    obtain ⟨i1, i2, i3⟩ := due_tm hh hT l (fun x hx => h x (List.mem_cons_of_mem _ hx))
    obtain ⟨t1, t2, t3⟩ := tm_of (h e List.mem_cons_self) hh
    unfold rst due at *
    by_cases q : e.1 = Int32.ofNat T
    · have qt : tm e = T := o_inj (by omega) (by omega) (t1.symm.trans q)
      rw [List.filter_cons_of_neg (by simp [q]), List.filter_cons_of_pos (by simp [q]), List.map_cons, List.filter_cons_of_neg (by simp [qt]), List.countP_cons_of_pos (by simp [qt]), List.length_cons, List.length_cons]
      exact ⟨i1, by omega, by omega⟩
    · have qt : tm e ≠ T := fun z => q (by rw [t1, z])
      rw [List.filter_cons_of_pos (by simp [q]), List.filter_cons_of_neg (by simp [q]), List.map_cons, List.map_cons, List.filter_cons_of_pos (by simpa using qt), List.countP_cons_of_neg (by simpa using qt), List.length_cons, List.length_cons, i1]
      exact ⟨rfl, i2, by omega⟩
theorem rst_dok {T lo hi : Nat} {l : List Ent} (h : ∀ e ∈ l, dok lo hi e) (hl : T ≤ lo) : ∀ e ∈ rst (Int32.ofNat T) l, dok (T + 1) hi e := fun e he => by
  unfold rst at he
  obtain ⟨h1, h2⟩ := List.mem_filter.mp he
  obtain ⟨d, d1, d2, d3⟩ := h e h1
  refine ⟨d, d1, ?_, d3⟩
  have : d ≠ T := fun q => by
    subst q
    simp [d1] at h2
  omega
theorem Rsh_hear {T K : Nat} {P P' : List Nat} {U D : List Ent} {zU zD n : Nat} {Ys : List (List Ent)} (h : Rsh T T K P U D zU zD) (hT : T ≤ 3000) (h1 : 1 ≤ n) (h5 : n ≤ 5) (hY : Ys.length = (due (Int32.ofNat T) U).length) (hYs : ∀ Y ∈ Ys, shortY (Int32.ofNat T) (Int32.ofNat n) Y) (hP : Ers P P') :
    Rsh T (T + 1) K P' (rst (Int32.ofNat T) U) (rst (Int32.ofNat T) (D ++ Ys.flatten)) zU (max zD (D ++ Ys.flatten).length) := by
  obtain ⟨r1, r2, r3, r4, r5⟩ := h
  obtain ⟨u1, u2, u3⟩ := due_tm (by omega) hT U r2
  have hD : ∀ e ∈ D ++ Ys.flatten, dok T (T + 9) e := fun e he => by
    rcases List.mem_append.mp he with q | q
    · exact r3 e q
    · obtain ⟨Y, y1, y2⟩ := List.mem_flatten.mp q
      exact dok_m (short_dok h1 h5 (hYs Y y1) e y2) (by omega) (Nat.le_refl _)
  have k := RmS_hears (U.map tm) [] (D.map tm) (Ys.map (fun Y => Y.map tm)) (by rw [List.length_map, hY, u2]) (fun Y hY' => by
    obtain ⟨Y0, y1, y2⟩ := List.mem_map.mp hY'
    subst y2
    refine ⟨by rw [List.length_map]; exact (hYs Y0 y1).1, fun y hy => ?_⟩
    obtain ⟨e, e1, e2⟩ := List.mem_map.mp hy
    have := (tm_of (short_dok h1 h5 (hYs Y0 y1) e e1) (by omega)).2.2
    omega) r1
  rw [List.nil_append, ← u1] at k
  have ef : D.map tm ++ (Ys.map (fun Y => Y.map tm)).flatten = (D ++ Ys.flatten).map tm := by rw [List.map_append, List.map_flatten]
  rw [ef] at k
  have kl := RmS_D k (dok_map hD (by omega) (Nat.le_refl _))
  rw [List.length_map] at kl
  have k2 := RmS_er (RmS_dn (fun x => decide (x ≠ T)) k) hP
  rw [← (due_tm (by omega) hT _ hD).1] at k2
  exact ⟨k2, rst_dok r2 (Nat.le_refl _), rst_dok hD (Nat.le_refl _), r4, by omega⟩
/-! what giving up and putting again do to the way up -/
def Qr (T K0 : Nat) (D : List Ent) (B A : Nat) : UpQ := fun n P U f z => RmS T (K0 + n) P (U.map tm) (D.map tm) ∧ (∀ e ∈ U, dok (T + 1) (T + 9) e) ∧ z ≤ 2 * (K0 + n) ∧ U.length + sP P + (f 1).toNatClampNeg ≤ B + 301 * n ∧ ask0 U = A
theorem laid_ask {k td : Int32} {g : Nat → Int32} (h : g 0 ≠ 0) (U : List Ent) : ask0 (U ++ laid k td g) = ask0 U := by
  unfold ask0
  rw [List.countP_append]
  have : (laid k td g).countP (fun e => decide (e.2 0 = 0)) = 0 := by
    unfold laid
    split
    · rfl
    · split <;> simp [h]
  omega
theorem laid_tm {T n : Nat} (hT : T ≤ 3000) (h1 : 1 ≤ n) (h5 : n ≤ 5) (k : Int32) (g : Nat → Int32) : ∀ y ∈ (laid k (Int32.ofNat T + Int32.ofNat n) g).map tm, y ≤ T + 9 := fun y hy => by
  obtain ⟨e, e1, e2⟩ := List.mem_map.mp hy
  have := (tm_of (laid_dok h1 h5 k g e e1) (by omega)).2.2
  omega
theorem Qr_put {T K n : Nat} {P : List Nat} {U D : List Ent} {f : Nat → Int32} {z : Nat} (hT : T ≤ 3000) (h1 : 1 ≤ n) (h5 : n ≤ 5) (g : Nat → Int32) (hU : ∀ e ∈ U, dok (T + 1) (T + 9) e) (hz : z ≤ 2 * K) (hR : RmS T K P ((U ++ laid (fK f) (Int32.ofNat T + Int32.ofNat n) g).map tm) (D.map tm)) :
    (∀ e ∈ U ++ laid (fK f) (Int32.ofNat T + Int32.ofNat n) g, dok (T + 1) (T + 9) e) ∧ max z (U ++ laid (fK f) (Int32.ofNat T + Int32.ofNat n) g).length ≤ 2 * K := by
  have hU' : ∀ e ∈ U ++ laid (fK f) (Int32.ofNat T + Int32.ofNat n) g, dok (T + 1) (T + 9) e := fun e he => by
    rcases List.mem_append.mp he with q | q
    · exact hU e q
    · exact laid_dok h1 h5 _ _ e q
  have := RmS_U hR (dok_map hU' (by omega) (Nat.le_succ T))
  rw [List.length_map] at this
  exact ⟨hU', by omega⟩
theorem Qr_rep {T K0 B A n : Nat} {D : List Ent} (hT : T ≤ 3000) (h1 : 1 ≤ n) (h5 : n ≤ 5) : RepOK T (Int32.ofNat T + Int32.ofNat n) (Qr T K0 D B A) := by
  intro j P U f z k l g hg ⟨q1, q2, q3, q4, q5⟩ hl hlT
  obtain ⟨l1, l2⟩ := laid_len f (Int32.ofNat T + Int32.ofNat n) g
  have r := RmS_rep (Y := (laid (fK f) (Int32.ofNat T + Int32.ofNat n) g).map tm) q1 hl hlT (by rw [List.length_map]; exact l2) (laid_tm hT h1 h5 _ _)
  rw [← List.map_append] at r
  obtain ⟨s1, s2⟩ := Qr_put hT h1 h5 g q2 q3 r
  have := sP_set hl hlT hT
  exact ⟨r, s1, s2, by rw [List.length_append]; omega, by rw [laid_ask hg]; exact q5⟩
theorem Qr_keep {T K0 B A n : Nat} {D : List Ent} (hT : T ≤ 3000) (h1 : 1 ≤ n) (h5 : n ≤ 5) : KeepOK T (Int32.ofNat T + Int32.ofNat n) (Qr T K0 D B A) := by
  intro j P U f z g hg ⟨q1, q2, q3, q4, q5⟩
  obtain ⟨l1, l2⟩ := laid_len f (Int32.ofNat T + Int32.ofNat n) g
  have r := RmS_keep (Y := (laid (fK f) (Int32.ofNat T + Int32.ofNat n) g).map tm) q1 (by rw [List.length_map]; exact l2) (laid_tm hT h1 h5 _ _)
  rw [← List.map_append] at r
  have q3' : z ≤ 2 * (K0 + j + 1) := by omega
  obtain ⟨s1, s2⟩ := Qr_put (K := K0 + j + 1) hT h1 h5 g q2 q3' r
  have := sP_add P T
  exact ⟨r, s1, s2, by rw [List.length_append]; omega, by rw [laid_ask hg]; exact q5⟩
theorem Qr_lim {T K0 B A N : Nat} {D : List Ent} (hT : T ≤ 3000) (h : 2 * (K0 + N) < 29998) : LimQ N (Qr T K0 D B A) := by
  intro n P U f z hn ⟨q1, q2, q3, q4, q5⟩
  have := RmS_U q1 (dok_map q2 (by omega) (Nat.le_succ T))
  rw [List.length_map] at this
  exact ⟨by omega, by omega⟩
