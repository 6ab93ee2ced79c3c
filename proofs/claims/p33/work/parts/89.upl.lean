/-! ===== the loop over what comes up ===== -/
/-- the part of a list that comes at a tick, and the rest -/
def due (t : Int32) (l : List (Int32 × (Nat → Int32))) : List (Int32 × (Nat → Int32)) := l.filter (fun e => e.1 = t)
def rst (t : Int32) (l : List (Int32 × (Nat → Int32))) : List (Int32 × (Nat → Int32)) := l.filter (fun e => e.1 ≠ t)
/-- how many ASKs are among some mails -/
def ask0 (l : List (Int32 × (Nat → Int32))) : Nat := l.countP (fun e => e.2 0 = 0)
def shortY (t d : Int32) (Y : List (Int32 × (Nat → Int32))) : Prop := Y.length ≤ 2 ∧ ∀ e ∈ Y, e.1 = t + d ∨ e.1 = t + d + 4
/-- where the loop over what comes up stands -/
def UpI (a0 b0 a b : TS) (sh k : Nat) (Ys : List (List (Int32 × (Nat → Int32)))) : Prop :=
  (R0 a b ∧ Nt a b ∧ Ln0 a b ∧ LnD a b sh ∧ PS a0 a b0 b) ∧
  (∀ c', c' < 2 * tZ a0 27 0 → c' ≠ 2 * sh + 1 → vA a c' = vA a0 c' ∧ tZ a 9 c' = tZ a0 9 c' ∧ tI b 48 c' = tI b0 48 c') ∧ (∀ c', c' < 2 * tZ a0 27 0 → c' ≠ 2 * sh + 1 → c' ≠ 2 * sh → vQ b c' = vQ b0 c') ∧
  vQ b (2 * sh) = rst (tI b0 95 0 1) ((vQ b0 (2 * sh)).take k) ++ (vQ b0 (2 * sh)).drop k ∧
  vQ b (2 * sh + 1) = vQ b0 (2 * sh + 1) ++ Ys.flatten ∧ Ys.length = (due (tI b0 95 0 1) ((vQ b0 (2 * sh)).take k)).length ∧ (∀ Y ∈ Ys, shortY (tI b0 95 0 1) (tI b0 95 0 2) Y) ∧
  tZ a 9 (2 * sh + 1) = max (tZ a0 9 (2 * sh + 1)) (vA a (2 * sh + 1)).length ∧
  (chF DhA FhA a0 a ∧ chF DhB FhB b0 b ∧ groQ b0 b ∧ Wr a0 a ∧ Wr b0 b) ∧
  (∀ s ∈ [5, 6, 16, 17], tN a s ≤ tN a0 s + ask0 (due (tI b0 95 0 1) ((vQ b0 (2 * sh)).take k))) ∧ Mt b ≤ Mt b0 + Ys.length
theorem L2_at {α β : Type} {R : α → β → Prop} : ∀ {l : List α} {m : List β} {k : Nat} {x : α}, L2 R l m → l[k]? = some x → ∃ y, m[k]? = some y ∧ R x y
  | x' :: l, y :: m, 0, x, h, e => ⟨y, rfl, by have := Option.some.inj e; rw [← this]; exact h.1⟩
  | x' :: l, y :: m, k + 1, x, h, e => L2_at (k := k) h.2 (by simpa using e)
  | [], _, _, _, _, e => by simp at e
  | _ :: _, [], _, _, h, _ => h.elim
theorem take_s {α : Type} {l : List α} {k : Nat} {x : α} (h : l[k]? = some x) : l.take (k + 1) = l.take k ++ [x] := by
  rw [List.take_add_one, h]
  rfl
theorem drop_s {α : Type} {l : List α} {k : Nat} {x : α} (h : l[k]? = some x) : l.drop k = x :: l.drop (k + 1) := by
  obtain ⟨h1, h2⟩ := List.getElem?_eq_some_iff.mp h
  rw [List.drop_eq_getElem_cons h1, h2]
theorem rst_s (t : Int32) (l : List (Int32 × (Nat → Int32))) (e : Int32 × (Nat → Int32)) : rst t (l ++ [e]) = if e.1 = t then rst t l else rst t l ++ [e] := by
  unfold rst
  rw [List.filter_append]
  by_cases h : e.1 = t
  · rw [if_pos h, List.filter_cons_of_neg (by simp [h]), List.filter_nil, List.append_nil]
  · rw [if_neg h, List.filter_cons_of_pos (by simp [h]), List.filter_nil]
theorem due_s (t : Int32) (l : List (Int32 × (Nat → Int32))) (e : Int32 × (Nat → Int32)) : due t (l ++ [e]) = if e.1 = t then due t l ++ [e] else due t l := by
  unfold due
  rw [List.filter_append]
  by_cases h : e.1 = t
  · rw [if_pos h, List.filter_cons_of_pos (by simp [h]), List.filter_nil]
  · rw [if_neg h, List.filter_cons_of_neg (by simp [h]), List.filter_nil, List.append_nil]
theorem laid_short (k t d : Int32) (g : Nat → Int32) : shortY t d (laid k (t + d) g) := by
  unfold laid shortY
  split
  · exact ⟨by simp, by simp⟩
  · split
    · refine ⟨by simp, fun e he => ?_⟩
      simp only [List.mem_cons, List.not_mem_nil, or_false, or_self] at he
      rw [he]
      exact Or.inl rfl
    · refine ⟨by simp, fun e he => ?_⟩
      simp only [List.mem_cons, List.not_mem_nil, or_false] at he
      rw [he]
      dsimp only
      split
      · exact Or.inr rfl
      · exact Or.inl rfl
theorem flat_short {t d : Int32} : ∀ {Ys : List (List (Int32 × (Nat → Int32)))}, (∀ Y ∈ Ys, shortY t d Y) → Ys.flatten.length ≤ 2 * Ys.length
  | [], _ => Nat.le_refl _
  | Y :: Ys, h => by
    have h1 := (h Y (by simp)).1
    have h2 := flat_short (t := t) (d := d) (Ys := Ys) (fun Y' hY' => h Y' (List.mem_cons_of_mem _ hY'))
    rw [List.flatten_cons, List.length_append, List.length_cons]
    omega
theorem tick_of {a b : TS} (h : R0 a b) : tI a 25 0 0 = tI b 95 0 1 := by
  obtain ⟨⟨h1, -, h3, -⟩, -⟩ := r_H h
  rw [h1, h3]
theorem tick_B {b b' : TS} (h : chF DhB FhB b b') : tI b' 95 0 1 = tI b 95 0 1 ∧ tI b' 95 0 2 = tI b 95 0 2 := ⟨dI h (S := []) (P := [(95, 1), (95, 2)]) (s := 95) (k := 1) (by decide) (by simp) 0, dI h (S := []) (P := [(95, 1), (95, 2)]) (s := 95) (k := 2) (by decide) (by simp) 0⟩
theorem shop_A {a a' : TS} (h : chF DhA FhA a a') : tZ a' 27 0 = tZ a 27 0 := dZ h (S := [27]) (P := []) (s := 27) (by decide) (by simp) 0
/-- steps, one behind the other -/
def StpE (Ev : TS → TS → TS → TS → Prop) (a b a' b' : TS) : Prop := ∀ P : TS → TS → Prop, (∀ x y x' y', Ev x y x' y' → P x y → P x' y') → P a b → P a' b'
theorem StpE_r {Ev : TS → TS → TS → TS → Prop} (a b : TS) : StpE Ev a b a b := fun _ _ h => h
theorem StpE_1 {Ev : TS → TS → TS → TS → Prop} {a b a' b' : TS} (h : Ev a b a' b') : StpE Ev a b a' b' := fun _ hE => hE _ _ _ _ h
theorem StpE_t {Ev : TS → TS → TS → TS → Prop} {a b a' b' a'' b'' : TS} (h1 : StpE Ev a b a' b') (h2 : StpE Ev a' b' a'' b'') : StpE Ev a b a'' b'' := fun P hE h => h2 P hE (h1 P hE h)
theorem StpE_m {Ev Ev' : TS → TS → TS → TS → Prop} (hm : ∀ x y x' y', Ev x y x' y' → Ev' x y x' y') {a b a' b' : TS} (h : StpE Ev a b a' b') : StpE Ev' a b a' b' := fun P hE => h P (fun x y x' y' e => hE x y x' y' (hm x y x' y' e))
/-- a mail is heard -/
def EvH (a b a' b' : TS) : Prop := ∃ sh g q b1 pre post, sh < tZ a 27 0 ∧ vQ b (2 * sh) = pre ++ (tI b 95 0 1, q) :: post ∧ vQ b1 (2 * sh) = pre ++ post ∧ (∀ c', c' < 2 * tZ a 27 0 → c' ≠ 2 * sh → vQ b1 c' = vQ b c') ∧
  chF [49, 50, 51, 52, 74, 75] [] b b1 ∧ upM a b1 sh g q ∧ HrE a b1 a' b' sh g ∧ (R0 a b ∧ Nt a b ∧ Ln0 a b) ∧ (R0 a b1 ∧ Nt a b1 ∧ Ln0 a b1) ∧ ∃ n, Hrd a a' b1 b' sh n
/-- lines of the class's are cleared of what came -/
def EvD (a b a' b' : TS) : Prop := b' = b ∧ chF [9, 21, 22] [] a a' ∧ (R0 a b ∧ Nt a b ∧ Ln0 a b) ∧ R0 a' b ∧ Nt a' b ∧ Ln0 a' b
def EvU (a b a' b' : TS) : Prop := EvH a b a' b' ∨ EvD a b a' b'
set_option maxHeartbeats 4000000 in
/-- a step of both loops -/
theorem up_step {a0 b0 a b : TS} {sh k : Nat} {Ys : List (List (Int32 × (Nat → Int32)))} (hI : UpI a0 b0 a b sh k Ys) (hU : LnU a0 b0 sh) (hsh : sh < tZ a0 27 0) (hk : k < (vQ b0 (2 * sh)).length) (hz : tZ a0 9 (2 * sh + 1) < 29998) (hl : (vQ b0 (2 * sh + 1)).length + 2 * (vQ b0 (2 * sh)).length < 29998) :
    ∃ a' b' Ys', UpI a0 b0 a' b' sh (k + 1) Ys' ∧ (∀ z, Ru 107 13 [(0, aR (some (96, 0))), (1, aR (some (36, sh))), (2, aR (some (21, sh))), (3, aI (Int32.ofNat (vQ b0 (2 * sh)).length)), (4, aI (Int32.ofNat k))] [] (enc 1 a z) = Ru 107 13 [(0, aR (some (96, 0))), (1, aR (some (36, sh))), (2, aR (some (21, sh))), (3, aI (Int32.ofNat (vQ b0 (2 * sh)).length)), (4, aI (Int32.ofNat (k + 1)))] [] (enc 1 a' z)) ∧ (∀ z, RefU sh (tI b0 95 0 1) b z = RefU sh (tI b0 95 0 1) b' z) ∧ StpE EvU a b a' b' := by
  obtain ⟨⟨hR, hN, hL, hD, hP⟩, i1, i2, i3, i4, i5, i6, i7, ⟨j1, j2, j3, j4, j5⟩, i8, i9⟩ := hI
  have hfc := r_FC hR
  have z27 := shop_A j1
  have hsh' : sh < tZ a 27 0 := by omega
  obtain ⟨S1, S2, ⟨S3, S4, S5', S6, S7, S8⟩, S9, S10⟩ := r_S hR
  obtain ⟨T1, T2, T3, T4, T5, T6, T7, T8, T9, T10, T11⟩ := S10 sh hsh'
  have hU' : LnU a b0 sh ∨ True := Or.inr trivial
  have hv := (i1 (2 * sh) (by omega) (by omega)).1
  have hlen : (vA a (2 * sh)).length = (vQ b0 (2 * sh)).length := by rw [hv]; exact L2_len hU
  obtain ⟨hLP, m, hm, hmz⟩ := hL.1.2.2 (2 * sh) (by omega)
  have e1 : 21 + (2 * sh) % 2 = 21 := by omega
  have e2 : (2 * sh) / 2 = sh := by omega
  rw [e1, e2] at hLP hm
  have hvA : vA a (2 * sh) = vL a (2 * sh) m := vA_of hL.1 (by omega) (by rw [e1, e2]; exact hm) hmz
  have hmm : m = (vQ b0 (2 * sh)).length := by rw [← hlen, hvA, vL_len]
  subst hmm
  have h9 : 2 * sh < tN a 9 := by rw [hL.1.2.1]; omega
  obtain ⟨r, r1, r2⟩ := hL.1.1.1 (2 * sh) h9 k (by omega)
  have hat : (vA a0 (2 * sh))[k]? = some (tI a 10 r 12, mv a 10 r) := by
    rw [← hv, hvA]
    unfold vL
    rw [List.getElem?_map, List.getElem?_range hk, Option.map_some, r2]
    rfl
  obtain ⟨⟨d', g⟩, y1, y2, y3⟩ := L2_at hU hat
  have y2' : tI a 10 r 12 = d' := y2
  have tk := tick_of hR
  obtain ⟨tb, td⟩ := tick_B j2
  have st := fun z => x107_13 (z := z) (k := k) (r := r) (m := (vQ b0 (2 * sh)).length) hfc (by omega) T2 hLP hL.1.1 hk hmz r2 r1
  by_cases e : tI a 10 r 12 = tI a 25 0 0
  · -- it comes
    have ed : d' = tI b0 95 0 1 := by rw [← y2', e, tk, tb]
    have hq : vQ b (2 * sh) = rst (tI b0 95 0 1) ((vQ b0 (2 * sh)).take k) ++ (tI b0 95 0 1, g) :: (vQ b0 (2 * sh)).drop (k + 1) := by rw [i3, drop_s y1, ed]
    obtain ⟨b1, q, t1, t2, t3, t4, hK⟩ := x156_s (t := tI b0 95 0 1) (n := 2 * tZ a 27 0) (c := 2 * sh) hL.2.1 (by omega) hq (fun e he => by
      unfold rst at he
      have := (List.mem_filter.mp he).2
      simpa using this)
    have e3 : 74 + (2 * sh) % 2 = 74 := by omega
    rw [e3, e2] at t1
    obtain ⟨hR1, hN1, hL1, hP1, hq1, c1, w1⟩ := take_R hR hN hL hK
    obtain ⟨K1, K2, K3, K4, K5, K6, K7, K8, K9⟩ := hK
    have hqi : q.2 < tN b1 q.1 := by rw [K5]; exact t3
    have hqv : qv b1 (some q) = g := by rw [← t4]; exact qv_congr (fun f => (hq1 q.1 t2).2 q.2 t3 f)
    have hmu : upM a b1 sh (mv a 10 r) (qv b1 (some q)) := by
      rw [hqv]
      exact upM_c (upM_c y3 hP) hP1
    have hv1 : vQ b1 (2 * sh + 1) = vQ b (2 * sh + 1) := K3 (2 * sh + 1) (by omega) (by omega)
    have hD1 : LnD a b1 sh := LnD_c hD hP1 rfl hv1
    have ld : (vQ b (2 * sh + 1)).length ≤ (vQ b0 (2 * sh + 1)).length + 2 * Ys.length := by
      rw [i4, List.length_append]
      have := flat_short i6
      omega
    have lk : Ys.length ≤ k := by
      rw [i5]
      unfold due
      exact Nat.le_trans (List.length_filter_le _ _) (List.length_take_le _ _)
    have lD := L2_len hD
    obtain ⟨a2, b2, x, y, hHrd, hHrE⟩ := sim_hear hR1 hN1 hL1 hD1 hsh' r1 t2 hqi hmu (by rw [i7]; omega) (by rw [hv1]; omega)
    have hSt : StpE EvU a b a2 b2 := StpE_1 (Or.inl ⟨sh, mv a 10 r, g, b1, _, _, hsh', by rw [hq, tb], K2, fun c' hc hne => K3 c' hc hne, c1, by rw [← hqv]; exact hmu, hHrE, ⟨hR, hN, hL⟩, ⟨hR1, hN1, hL1⟩, _, hHrd⟩)
    obtain ⟨h1, h2, h3, h4, h5, h6, h7, h8, h9', h10, h11, h12, h13, h14, h15⟩ := hHrd
    have tb1 : tI b1 95 0 1 = tI b 95 0 1 ∧ tI b1 95 0 2 = tI b 95 0 2 := ⟨dI c1 (S := []) (P := [(95, 1), (95, 2)]) (s := 95) (k := 1) (by decide) (by simp) 0, dI c1 (S := []) (P := [(95, 1), (95, 2)]) (s := 95) (k := 2) (by decide) (by simp) 0⟩
    obtain ⟨tb2, td2⟩ := tick_B h10
    have hY : ∃ Y, vQ b2 (2 * sh + 1) = vQ b (2 * sh + 1) ++ Y ∧ shortY (tI b0 95 0 1) (tI b0 95 0 2) Y := by
      rcases h8 with h8 | ⟨k', g', h8⟩
      · exact ⟨[], by rw [h8, hv1, List.append_nil], by simp, by simp⟩
      · exact ⟨_, by rw [h8, hv1, tb1.1, tb1.2, tb, td], laid_short _ _ _ _⟩
    obtain ⟨Y, Y1, Y2⟩ := hY
    have z27a : tZ a2 27 0 = tZ a 27 0 := shop_A h9'
    have hdue : due (tI b0 95 0 1) ((vQ b0 (2 * sh)).take (k + 1)) = due (tI b0 95 0 1) ((vQ b0 (2 * sh)).take k) ++ [(d', g)] := by rw [take_s y1, due_s, if_pos ed]
    refine ⟨a2, b2, Ys ++ [Y], ⟨⟨h1, h2, h3, h4, PS_t hP (PS_t hP1 h5)⟩, fun c' hc hne => ?_, fun c' hc hne hne2 => ?_, ?_, ?_, ?_, fun Y' hY' => ?_, ?_, ⟨?_, ?_, ?_, j4.t h12, (j5.t w1).t h13⟩, fun s hs => ?_, ?_⟩, fun z => ?_, fun z => ?_, hSt⟩
    · obtain ⟨u1, u2, u3, u4⟩ := h6 c' (by omega) hne
      obtain ⟨v1, v2, v3⟩ := i1 c' hc hne
      exact ⟨u1.trans v1, u3.trans v2, u4.trans ((funext fun k => dIS c1 (S := [48]) (P := []) (s := 48) (by decide) (by simp) c' k).trans v3)⟩
    · rw [(h6 c' (by omega) hne).2.1, K3 c' (by omega) hne2]
      exact i2 c' hc hne hne2
    · rw [(h6 (2 * sh) (by omega) (by omega)).2.1, K2, take_s y1, rst_s, if_pos ed]
    · rw [Y1, i4, List.append_assoc, List.flatten_append]
      simp
    · rw [hdue, List.length_append, List.length_append, i5]
      rfl
    · rcases List.mem_append.mp hY' with q | q
      · exact i6 Y' q
      · rw [List.mem_singleton.mp q]; exact Y2
    · have l4 := L2_len h4
      rw [h7, i7, lD]
      rw [Y1, List.length_append] at l4
      omega
    · exact chF_t j1 h9'
    · exact chF_t (chF_t j2 (chF_m c1 (by decide) (by simp))) h10
    · exact groQ_t (groQ_t j3 hq1) h11
    · have h14' := h14 s hs
      have i8' := i8 s hs
      have hg : (mv a 10 r 0 = 1) ↔ g 0 = 0 := by
        obtain ⟨-, -, -, -, u⟩ := y3
        rcases u with ⟨u1, u2, -⟩ | ⟨u1, u2, -⟩ | ⟨u1, u2, -⟩ | ⟨u1, u2, -⟩ <;> rw [show mv a 10 r 0 = _ from u1, show g 0 = _ from u2] <;> decide
      have : ask0 (due (tI b0 95 0 1) ((vQ b0 (2 * sh)).take (k + 1))) = ask0 (due (tI b0 95 0 1) ((vQ b0 (2 * sh)).take k)) + (if mv a 10 r 0 = 1 then 1 else 0) := by
        rw [hdue]
        unfold ask0
        rw [List.countP_append]
        congr 1
        by_cases q : g 0 = 0
        · rw [if_pos (hg.mpr q)]
          simp [q]
        · rw [if_neg (fun w => q (hg.mp w))]
          simp [q]
      omega
    · have : Mt b1 = Mt b := Mt_c c1 (by decide)
      rw [List.length_append, List.length_singleton]
      omega
    · rw [st, if_pos e, x]
    · exact RefU_s (r_FR h1) (by omega) (h3.2.2.1 sh (by omega)).1 (by rw [tb2, tb1.1, tb]) t1 y
  · -- it doesn't
    have ed : ¬ d' = tI b0 95 0 1 := by rw [← y2', ← tb, ← tk]; exact e
    have hdue : due (tI b0 95 0 1) ((vQ b0 (2 * sh)).take (k + 1)) = due (tI b0 95 0 1) ((vQ b0 (2 * sh)).take k) := by rw [take_s y1, due_s, if_neg ed]
    refine ⟨a, b, Ys, ⟨⟨hR, hN, hL, hD, hP⟩, i1, i2, ?_, i4, by rw [hdue]; exact i5, i6, i7, ⟨j1, j2, j3, j4, j5⟩, by rw [hdue]; exact i8, i9⟩, fun z => ?_, fun z => rfl, StpE_r a b⟩
    · rw [i3, drop_s y1, take_s y1, rst_s, if_neg ed, List.append_assoc]
      rfl
    · rw [st, if_neg e]
