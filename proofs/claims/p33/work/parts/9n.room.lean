/-! ===== how full a shop's lines can be ===== -/
def sumS (n : Nat) (f : Nat → Nat) : Nat := ((List.range n).map f).sum
theorem sumS_s (n : Nat) (f : Nat → Nat) : sumS (n + 1) f = sumS n f + f n := by
  unfold sumS
  rw [List.range_succ, List.map_append, List.sum_append]
  simp only [List.map_cons, List.map_nil, List.sum_cons, List.sum_nil, Nat.add_zero]
theorem sumS_le {f g : Nat → Nat} : ∀ n, (∀ s, s < n → f s ≤ g s) → sumS n f ≤ sumS n g := by
  intro n
  induction n with
  | zero => exact fun _ => Nat.le_refl _
  | succ n ih =>
    intro h
    rw [sumS_s, sumS_s]
    have h1 := ih (fun s hs => h s (by omega))
    have h2 := h n (by omega)
    omega
theorem sumS_eq {f g : Nat → Nat} (n : Nat) (h : ∀ s, s < n → f s = g s) : sumS n f = sumS n g := by
  have h1 := sumS_le (f := f) (g := g) n (fun s hs => Nat.le_of_eq (h s hs))
  have h2 := sumS_le (f := g) (g := f) n (fun s hs => Nat.le_of_eq (h s hs).symm)
  omega
theorem sumS_at {f g : Nat → Nat} {s d e : Nat} (h2 : f s + d ≤ g s + e) : ∀ n, s < n → (∀ s', s' < n → s' ≠ s → f s' ≤ g s') → sumS n f + d ≤ sumS n g + e := by
  intro n
  induction n with
  | zero => exact fun h => absurd h (Nat.not_lt_zero _)
  | succ n ih =>
    intro hs h
    rw [sumS_s, sumS_s]
    by_cases q : s = n
    · subst q
      have := sumS_le (f := f) (g := g) s (fun s' hs' => h s' (by omega) (by omega))
      omega
    · have h1 := ih (by omega) (fun s' hs' hne => h s' (by omega) hne)
      have h3 := h n (by omega) (fun z => q z.symm)
      omega
theorem sumS_add (f g : Nat → Nat) : ∀ n, sumS n (fun k => f k + g k) = sumS n f + sumS n g := by
  intro n
  induction n with
  | zero => rfl
  | succ n ih => rw [sumS_s, sumS_s, sumS_s, ih]; omega
theorem sumS_mul (c : Nat) (f : Nat → Nat) : ∀ n, sumS n (fun k => c * f k) = c * sumS n f := by
  intro n
  induction n with
  | zero => rfl
  | succ n ih => rw [sumS_s, sumS_s, ih, Nat.mul_add]
theorem ind_sum (x g : Nat) : ∀ n, sumS n (fun k => if x = g + k then 1 else 0) = if g ≤ x ∧ x < g + n then 1 else 0 := by
  intro n
  induction n with
  | zero => rw [if_neg (by omega)]; rfl
  | succ n ih =>
    rw [sumS_s, ih]
    by_cases h1 : g ≤ x ∧ x < g + n
    · rw [if_pos h1, if_neg (by omega), if_pos (by omega)]
    · rw [if_neg h1]
      by_cases h2 : x = g + n
      · rw [if_pos h2, if_pos (by omega)]
      · rw [if_neg h2, if_neg (by omega)]
def sW (W : Nat → Nat) (g : Nat) : Nat := sumS 10 (fun k => W (g + k))
/-- T: the tick; K: how many messages there were at most; P: when the kept ones were put last; U, D: when what is on the way up and down comes -/
def RmS (T K : Nat) (P U D : List Nat) : Prop := ∃ (W : Nat → Nat) (X lu ld : List Nat), L2 (fun d g => d ≤ g + 9) U lu ∧ L2 (fun d g => d ≤ g + 18) D ld ∧ (∀ g, 2 * lu.count g + ld.count g ≤ 4 * W g) ∧ (∀ g, T < g → W g = 0) ∧ (∀ g, sW W g ≤ K) ∧ (∀ g, T < g + 10 → W g ≤ P.count g + X.count g) ∧ P.length + X.length ≤ K
theorem cnt_c (x : Nat) (l : List Nat) (h : Nat) : (x :: l).count h = l.count h + (if x = h then 1 else 0) := by
  rw [List.count_cons]
  by_cases e : x = h
  · rw [if_pos e, if_pos (by rw [e]; exact beq_self_eq_true h)]
  · rw [if_neg e, if_neg (fun q => e (eq_of_beq q))]
theorem cnt_s (x : Nat) (l : List Nat) (g : Nat) : sW (fun h => (x :: l).count h) g = sW (fun h => l.count h) g + (if g ≤ x ∧ x < g + 10 then 1 else 0) := by
  unfold sW
  rw [← ind_sum, ← sumS_add]
  exact sumS_eq _ (fun k _ => cnt_c x l (g + k))
theorem cnt_win : ∀ (l : List Nat) (g : Nat), sW (fun h => l.count h) g ≤ l.length
  | [], g => by
    have : sW (fun h => ([] : List Nat).count h) g = 0 := rfl
    omega
  | x :: l, g => by
    have ih := cnt_win l g
    rw [cnt_s, List.length_cons]
    split <;> omega
theorem len_win : ∀ (l : List Nat) (g : Nat), (∀ x ∈ l, g ≤ x ∧ x < g + 10) → l.length ≤ sW (fun h => l.count h) g
  | [], g, _ => Nat.zero_le _
  | x :: l, g, h => by
    have ih := len_win l g (fun y hy => h y (List.mem_cons_of_mem _ hy))
    rw [cnt_s, if_pos (h x List.mem_cons_self), List.length_cons]
    omega
theorem sW_mono {W W' : Nat → Nat} {g : Nat} (h : ∀ k, k < 10 → W (g + k) ≤ W' (g + k)) : sW W g ≤ sW W' g := sumS_le 10 h
theorem sW_mul (c : Nat) (W : Nat → Nat) (g : Nat) : sW (fun h => c * W h) g = c * sW W g := sumS_mul c (fun k => W (g + k)) 10
theorem L2_split {α β : Type} {R : α → β → Prop} : ∀ {l1 : List α} {l2 : List α} {m : List β}, L2 R (l1 ++ l2) m → ∃ m1 m2, m = m1 ++ m2 ∧ L2 R l1 m1 ∧ L2 R l2 m2
  | [], l2, m, h => ⟨[], m, rfl, trivial, h⟩
  | x :: l1, l2, y :: m, h => by
    obtain ⟨m1, m2, e, h1, h2⟩ := L2_split (l1 := l1) (l2 := l2) (m := m) h.2
    exact ⟨y :: m1, m2, by rw [e]; rfl, ⟨h.1, h1⟩, h2⟩
  | x :: l1, l2, [], h => h.elim
theorem L2_repl {α : Type} {R : α → Nat → Prop} {g : Nat} : ∀ {l : List α}, (∀ x ∈ l, R x g) → L2 R l (List.replicate l.length g)
  | [], _ => trivial
  | x :: l, h => ⟨h x List.mem_cons_self, L2_repl (fun y hy => h y (List.mem_cons_of_mem _ hy))⟩
/-- one put -/
theorem RmS_put {T K K' : Nat} {P P' U D Y : List Nat} (h : RmS T K P U D) (hY : Y.length ≤ 2) (hY2 : ∀ y ∈ Y, y ≤ T + 9) (hK : K ≤ K') (hP : ∀ X : List Nat, P.length + X.length ≤ K → ∃ X' : List Nat, P'.length + X'.length ≤ K' ∧ ∀ g, T < g + 10 → P.count g + X.count g + (if g = T then 1 else 0) ≤ P'.count g + X'.count g) : RmS T K' P' (U ++ Y) D := by
  obtain ⟨W, X, lu, ld, h1, h2, h3, h4, h5, h6, h7⟩ := h
  obtain ⟨X', x1, x2⟩ := hP X h7
  have b1 : ∀ g, 2 * (lu ++ List.replicate Y.length T).count g + ld.count g ≤ 4 * (W g + (if g = T then 1 else 0)) := fun g => by
    have := h3 g
    rw [List.count_append, List.count_replicate]
    by_cases e : g = T
    · subst e
      simp only [beq_self_eq_true, if_true]
      omega
    · have e' : ¬ (T == g) = true := fun q => e (eq_of_beq q).symm
      rw [if_neg e', if_neg e]
      omega
  have b2 : ∀ g, T < g → W g + (if g = T then 1 else 0) = 0 := fun g hg => by
    rw [h4 g hg, if_neg (by omega)]
  have b4 : ∀ g, T < g + 10 → W g + (if g = T then 1 else 0) ≤ P'.count g + X'.count g := fun g hg => by
    have y1 := h6 g hg
    have y2 := x2 g hg
    omega
  have b3 : ∀ g, sW (fun g => W g + (if g = T then 1 else 0)) g ≤ K' := fun g => by
    by_cases hw : g ≤ T ∧ T < g + 10
    · have : sW (fun g => W g + (if g = T then 1 else 0)) g ≤ sW (fun h => (P' ++ X').count h) g := sW_mono (fun k hk => by
        show W (g + k) + (if g + k = T then 1 else 0) ≤ (P' ++ X').count (g + k)
        rw [List.count_append]
        by_cases hT : T < g + k
        · rw [b2 _ hT]
          omega
        · exact b4 (g + k) (by omega))
      have c := cnt_win (P' ++ X') g
      rw [List.length_append] at c
      omega
    · have : sW (fun g => W g + (if g = T then 1 else 0)) g ≤ sW W g := sW_mono (fun k hk => by
        show W (g + k) + (if g + k = T then 1 else 0) ≤ W (g + k)
        rw [if_neg (by omega)]
        exact Nat.le_refl _)
      have := h5 g
      omega
  exact ⟨fun g => W g + (if g = T then 1 else 0), X', lu ++ List.replicate Y.length T, ld, L2_app h1 (L2_repl hY2), h2, b1, b2, b3, b4, x1⟩
theorem RmS_keep {T K : Nat} {P U D Y : List Nat} (h : RmS T K P U D) (hY : Y.length ≤ 2) (hY2 : ∀ y ∈ Y, y ≤ T + 9) : RmS T (K + 1) (P ++ [T]) (U ++ Y) D := by
  refine RmS_put h hY hY2 (Nat.le_succ _) (fun X hX => ⟨X, by rw [List.length_append, List.length_singleton]; omega, fun g _ => ?_⟩)
  rw [List.count_append, List.count_singleton]
  by_cases e : g = T
  · subst e; simp only [beq_self_eq_true, if_true]; omega
  · rw [if_neg e]; omega
theorem RmS_oth {T K : Nat} {P U D Y : List Nat} (h : RmS T K P U D) (hY : Y.length ≤ 2) (hY2 : ∀ y ∈ Y, y ≤ T + 9) : RmS T (K + 1) P (U ++ Y) D := by
  refine RmS_put h hY hY2 (Nat.le_succ _) (fun X hX => ⟨X ++ [T], by rw [List.length_append, List.length_singleton]; omega, fun g _ => ?_⟩)
  rw [List.count_append, List.count_singleton]
  by_cases e : g = T
  · subst e; simp only [beq_self_eq_true, if_true]; omega
  · rw [if_neg e]; omega
theorem cnt_set : ∀ {P : List Nat} {k l T : Nat}, P[k]? = some l → ∀ g, (P.set k T).count g + (if g = l then 1 else 0) = P.count g + (if g = T then 1 else 0)
  | [], k, l, T, h => by simp at h
  | x :: P, 0, l, T, h => fun g => by
    have e : x = l := by simpa using h
    subst e
    rw [List.set_cons_zero, List.count_cons, List.count_cons]
    have b : ∀ y : Nat, (if (y == g) = true then 1 else 0) = (if g = y then 1 else 0) := fun y => by
      by_cases e : g = y
      · subst e; simp
      · have : ¬ (y == g) = true := fun q => e (eq_of_beq q).symm
        rw [if_neg this, if_neg e]
    rw [b, b]
    omega
  | x :: P, k + 1, l, T, h => fun g => by
    have := cnt_set (P := P) (k := k) (l := l) (T := T) (by simpa using h) g
    rw [List.set_cons_succ, List.count_cons, List.count_cons]
    omega
theorem RmS_rep {T K k l : Nat} {P U D Y : List Nat} (h : RmS T K P U D) (hl : P[k]? = some l) (hlT : l + 10 ≤ T) (hY : Y.length ≤ 2) (hY2 : ∀ y ∈ Y, y ≤ T + 9) : RmS T K (P.set k T) (U ++ Y) D := by
  refine RmS_put h hY hY2 (Nat.le_refl _) (fun X hX => ⟨X, by rw [List.length_set]; exact hX, fun g hg => ?_⟩)
  have := cnt_set (T := T) hl g
  rw [if_neg (show ¬ g = l by omega)] at this
  omega
/-- what comes up is heard, and answered down -/
theorem RmS_hear {T K : Nat} {P u1 u2 D Y : List Nat} (h : RmS T K P (u1 ++ T :: u2) D) (hY : Y.length ≤ 2) (hY2 : ∀ y ∈ Y, y ≤ T + 9) : RmS T K P (u1 ++ u2) (D ++ Y) := by
  obtain ⟨W, X, lu, ld, h1, h2, h3, h4, h5, h6, h7⟩ := h
  obtain ⟨m1, m2, e, a1, a2⟩ := L2_split h1
  cases m2 with
  | nil => exact a2.elim
  | cons g m2 =>
    subst e
    obtain ⟨a3, a4⟩ := a2
    refine ⟨W, X, m1 ++ m2, ld ++ List.replicate Y.length g, L2_app a1 a4, L2_app h2 (L2_repl (fun y hy => by have := hY2 y hy; omega)), fun g' => ?_, h4, h5, h6, h7⟩
    have := h3 g'
    rw [List.count_append, List.count_cons] at this
    rw [List.count_append, List.count_append, List.count_replicate]
    by_cases e : (g == g') = true
    · rw [if_pos e] at this ⊢
      omega
    · rw [if_neg e] at this ⊢
      omega
theorem L2_filt {α : Type} {R : α → Nat → Prop} (p : α → Bool) : ∀ {l : List α} {m : List Nat}, L2 R l m → ∃ m', L2 R (l.filter p) m' ∧ ∀ g, m'.count g ≤ m.count g
  | [], [], _ => ⟨[], trivial, fun _ => Nat.le_refl _⟩
  | x :: l, y :: m, h => by
    obtain ⟨m', h1, h2⟩ := L2_filt p h.2
    by_cases e : p x = true
    · refine ⟨y :: m', by rw [List.filter_cons_of_pos e]; exact ⟨h.1, h1⟩, fun g => ?_⟩
      rw [List.count_cons, List.count_cons]
      have := h2 g
      omega
    · refine ⟨m', by rw [List.filter_cons_of_neg e]; exact h1, fun g => ?_⟩
      rw [List.count_cons]
      have := h2 g
      omega
theorem RmS_dn {T K : Nat} {P U D : List Nat} (p : Nat → Bool) (h : RmS T K P U D) : RmS T K P U (D.filter p) := by
  obtain ⟨W, X, lu, ld, h1, h2, h3, h4, h5, h6, h7⟩ := h
  obtain ⟨m', a1, a2⟩ := L2_filt p h2
  exact ⟨W, X, lu, m', h1, a1, fun g => by have := h3 g; have := a2 g; omega, h4, h5, h6, h7⟩
theorem RmS_er {T K : Nat} {P P' U D : List Nat} (h : RmS T K P U D) (he : Ers P P') : RmS T K P' U D := by
  obtain ⟨W, X, lu, ld, h1, h2, h3, h4, h5, h6, h7⟩ := h
  obtain ⟨R, r1, r2⟩ := he
  exact ⟨W, X ++ R, lu, ld, h1, h2, h3, h4, h5, fun g hg => by have := h6 g hg; rw [List.count_append]; have := r1 g; omega, by rw [List.length_append]; omega⟩
theorem RmS_tick {T K : Nat} {P U D : List Nat} (h : RmS T K P U D) : RmS (T + 1) K P U D := by
  obtain ⟨W, X, lu, ld, h1, h2, h3, h4, h5, h6, h7⟩ := h
  exact ⟨W, X, lu, ld, h1, h2, h3, fun g hg => h4 g (by omega), h5, fun g hg => h6 g (by omega), h7⟩
theorem RmS_K {T K K' : Nat} {P U D : List Nat} (h : RmS T K P U D) (hK : K ≤ K') : RmS T K' P U D := by
  obtain ⟨W, X, lu, ld, h1, h2, h3, h4, h5, h6, h7⟩ := h
  exact ⟨W, X, lu, ld, h1, h2, h3, h4, fun g => Nat.le_trans (h5 g) hK, h6, by omega⟩
theorem L2_mem {α β : Type} {R : α → β → Prop} : ∀ {l : List α} {m : List β}, L2 R l m → ∀ y ∈ m, ∃ x ∈ l, R x y
  | x :: l, y' :: m, h, y, hy => by
    rcases List.mem_cons.mp hy with e | e
    · exact ⟨x, List.mem_cons_self, e ▸ h.1⟩
    · obtain ⟨x', h1, h2⟩ := L2_mem h.2 y e
      exact ⟨x', List.mem_cons_of_mem _ h1, h2⟩
  | [], [], _, y, hy => absurd hy (by simp)
theorem RmS_U {T K : Nat} {P U D : List Nat} (h : RmS T K P U D) (hU : ∀ d ∈ U, T ≤ d) : U.length ≤ 2 * K := by
  obtain ⟨W, X, lu, ld, h1, h2, h3, h4, h5, h6, h7⟩ := h
  rw [L2_len h1]
  have hw : ∀ x ∈ lu, T - 9 ≤ x ∧ x < T - 9 + 10 := fun x hx => by
    obtain ⟨d, d1, d2⟩ := L2_mem h1 x hx
    have e1 := hU d d1
    have e2 := h3 x
    have e3 : 0 < lu.count x := List.count_pos_iff.mpr hx
    have e4 : x ≤ T := by
      by_cases q : T < x
      · rw [h4 x q] at e2; omega
      · omega
    omega
  have l1 := len_win lu (T - 9) hw
  have l2 : sW (fun h => lu.count h) (T - 9) ≤ sW (fun h => 2 * W h) (T - 9) := sW_mono (fun k _ => by have := h3 (T - 9 + k); show lu.count (T - 9 + k) ≤ 2 * W (T - 9 + k); omega)
  have l3 : sW (fun h => 2 * W h) (T - 9) = 2 * sW W (T - 9) := sW_mul 2 W (T - 9)
  have l4 := h5 (T - 9)
  omega
theorem flt_len (l : List Nat) (q : Nat → Bool) : l.length = (l.filter q).length + (l.filter (fun x => !q x)).length := by
  induction l with
  | nil => rfl
  | cons x l ih =>
    by_cases e : q x = true
    · rw [List.filter_cons_of_pos e, List.filter_cons_of_neg (by simp [e]), List.length_cons, List.length_cons]; omega
    · rw [List.filter_cons_of_neg e, List.filter_cons_of_pos (by simpa using e), List.length_cons, List.length_cons]; omega
theorem RmS_D {T K : Nat} {P U D : List Nat} (h : RmS T K P U D) (hD : ∀ d ∈ D, T ≤ d) : D.length ≤ 8 * K := by
  obtain ⟨W, X, lu, ld, h1, h2, h3, h4, h5, h6, h7⟩ := h
  rw [L2_len h2]
  have hw : ∀ x ∈ ld, T - 18 ≤ x ∧ x ≤ T := fun x hx => by
    obtain ⟨d, d1, d2⟩ := L2_mem h2 x hx
    have e1 := hD d d1
    have e2 := h3 x
    have e3 : 0 < ld.count x := List.count_pos_iff.mpr hx
    have e4 : x ≤ T := by
      by_cases q : T < x
      · rw [h4 x q] at e2; omega
      · omega
    omega
  have part : ∀ (q : Nat → Bool) (g : Nat), (∀ x ∈ ld.filter q, g ≤ x ∧ x < g + 10) → (ld.filter q).length ≤ 4 * K := fun q g hq => by
    have l1 := len_win (ld.filter q) g hq
    have l2 : sW (fun h => (ld.filter q).count h) g ≤ sW (fun h => 4 * W h) g := sW_mono (fun k _ => by
      have := h3 (g + k)
      have c : (ld.filter q).count (g + k) ≤ ld.count (g + k) := (List.filter_sublist (p := q) (l := ld)).count_le _
      show (ld.filter q).count (g + k) ≤ 4 * W (g + k)
      omega)
    have l3 : sW (fun h => 4 * W h) g = 4 * sW W g := sW_mul 4 W g
    have l4 := h5 g
    omega
  have s := flt_len ld (fun x => decide (x < T - 18 + 10))
  have a1 := part (fun x => decide (x < T - 18 + 10)) (T - 18) (fun x hx => by
    obtain ⟨x1, x2⟩ := List.mem_filter.mp hx
    have := hw x x1
    simp only [decide_eq_true_iff] at x2
    omega)
  have a2 := part (fun x => !decide (x < T - 18 + 10)) (T - 18 + 10) (fun x hx => by
    obtain ⟨x1, x2⟩ := List.mem_filter.mp hx
    have := hw x x1
    simp only [Bool.not_eq_true', decide_eq_false_iff_not] at x2
    omega)
  omega
