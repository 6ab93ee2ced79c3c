/-! ===== the law's wrappers ===== -/
/-- a step's stores come out of those before it; at most one exception -/
def LwS (a b : TS) (w : Hp) (a' b' : TS) (w' : Hp) : Prop := (∃ a1, Wr a a1 ∧ (a' = a1 ∨ a' = aC a1 1 6)) ∧ Wr b b' ∧ w'.2 = w.2
theorem IvH_x {a b : TS} {n : Nat} (h : IvH a b n) : IvH (aC a 1 6) b n := h
def LwP {α : Type} (mv : α → AV) (st : α → Int64) (wm : Nat) (wa : List AV) (rm : Nat) (ra : List AV) (a b : TS) (w : Hp) (sc : List Int32) (n : Nat) : Prop :=
  ∃ a' b' w' k v, Ex wm wa (JH a b w) = some (.inl (some (aI k)), JH a' b w') ∧ Ex rm ra (JH a' b w') = some (.inl (some (mv v)), JH a' b' w') ∧ tI b' 97 0 8 = k ∧ (k = 0 → gaL (JH a' b' w') (some (98, 0)) 1001 0 = some (st v)) ∧ IvH a' b' (n + 1) ∧ WK w' sc ∧ LwS a b w a' b' w'
theorem lp_L {α : Type} {mv : α → AV} (st : α → Int64) {cm rm wm : Nat} {ca ra wa : List AV} {kf : Nat → Nat} {a b : TS} {n : Nat} {w : Hp} {sc : List Int32} (hT : PubT mv cm ca rm ra kf a b n) (hW : WK w sc)
    (hr : ∀ v a1, Ex cm ca (JH a b w) = some (.inl (some (mv v)), JH a1 b w) → Ex wm wa (JH a b w) = (pa (JH a1 b w) (some (98, 0)) 1001 0 (aL (st v))).bind (fun h3 => some (.inl (some (aI 0)), h3)))
    (ht : ∀ r a1, 1 ≤ r → r ≤ 3 → kf (r + 10) ≠ 99 → Ex cm ca (JH a b w) = some (.inr (exN r), JH a1 b w) → ¬ Int32.ofNat (kf r) = 0 ∧ Ex wm wa (JH a b w) = some (.inl (some (aI (Int32.ofNat (kf r)))), hX (JH a1 b w) (exN r))) : LwP mv st wm wa rm ra a b w sc n := by
  rcases hT with ⟨r, v, a', b', r1, r3, hok, hx, hy, hk, hi, hw, hw'⟩ | ⟨v, a', b', hx, hy, hk, hi, hw, hw'⟩
  · obtain ⟨nz, e⟩ := ht r (aC a' 1 6) r1 r3 hok (hx _ (Zk_J1 hW))
    refine ⟨aC a' 1 6, b', hX w (exN r), Int32.ofNat (kf r), v, ?_, ?_, hk, fun q => absurd q nz, IvH_x hi, WK_X hW _, ⟨a', hw, Or.inr rfl⟩, hw', rfl⟩
    · rw [e, hX_J]
    · rw [JH_c, JH_c, hy _ (Zk_J2 (WK_X hW _))]
  · obtain ⟨w1, w2⟩ := WK_L hW (st v)
    refine ⟨a', b', hS w (98, 0) (1001, [aL (st v)]), 0, v, ?_, ?_, hk, fun _ => ga_L w2, hi, w1, ⟨a', hw, Or.inl rfl⟩, hw', rfl⟩
    · rw [hr v a' (hx _ (Zk_J1 hW)), pa_L hW]
      rfl
    · rw [JH_c, JH_c, hy _ (Zk_J2 w1)]
theorem xif_y {e c : Nat} {x y : Res} (h : e = c) : xif e c x y = x := by
  unfold xif
  rw [beq_tt h]
theorem xif_n {e c : Nat} {x y : Res} (h : e ≠ c) : xif e c x y = y := by
  unfold xif
  rw [beq_ff h]
/-- a wrapper's catches -/
theorem ct23 {h : Hp} {r : Nat} (r1 : 1 ≤ r) (r3 : r ≤ 3) (hk : k23 (r + 10) ≠ 99) : ¬ Int32.ofNat (k23 r) = 0 ∧ xif (exN r) 30 (some (.inl (some (aI (1 : Int32))), hX h (exN r))) (xif (exN r) 31 (some (.inl (some (aI (2 : Int32))), hX h (exN r))) (xT (exN r) h)) = some (.inl (some (aI (Int32.ofNat (k23 r)))), hX h (exN r)) := by
  rcases r123 r1 r3 with e | e | e <;> subst e
  · exact absurd rfl hk
  · exact ⟨by decide, rfl⟩
  · exact ⟨by decide, rfl⟩
theorem ct2 {h : Hp} {r : Nat} (r1 : 1 ≤ r) (r3 : r ≤ 3) (hk : k2 (r + 10) ≠ 99) : ¬ Int32.ofNat (k2 r) = 0 ∧ xif (exN r) 30 (some (.inl (some (aI (1 : Int32))), hX h (exN r))) (xT (exN r) h) = some (.inl (some (aI (Int32.ofNat (k2 r)))), hX h (exN r)) := by
  rcases r123 r1 r3 with e | e | e <;> subst e
  · exact absurd rfl hk
  · exact ⟨by decide, rfl⟩
  · exact absurd rfl hk
theorem ct12 {h : Hp} {r : Nat} (r1 : 1 ≤ r) (r3 : r ≤ 3) (hk : k12 (r + 10) ≠ 99) : ¬ Int32.ofNat (k12 r) = 0 ∧ xif (exN r) 32 (some (.inl (some (aI (1 : Int32))), hX h (exN r))) (xif (exN r) 30 (some (.inl (some (aI (2 : Int32))), hX h (exN r))) (xT (exN r) h)) = some (.inl (some (aI (Int32.ofNat (k12 r)))), hX h (exN r)) := by
  rcases r123 r1 r3 with e | e | e <;> subst e
  · exact ⟨by decide, rfl⟩
  · exact ⟨by decide, rfl⟩
  · exact absurd rfl hk
theorem ct1 {h : Hp} {r : Nat} (r1 : 1 ≤ r) (r3 : r ≤ 3) (hk : k1 (r + 10) ≠ 99) : ¬ Int32.ofNat (k1 r) = 0 ∧ xif (exN r) 32 (some (.inl (some (aI (1 : Int32))), hX h (exN r))) (xT (exN r) h) = some (.inl (some (aI (Int32.ofNat (k1 r)))), hX h (exN r)) := by
  rcases r123 r1 r3 with e | e | e <;> subst e
  · exact ⟨by decide, rfl⟩
  · exact absurd rfl hk
  · exact absurd rfl hk
theorem ct123 {h : Hp} {r : Nat} (r1 : 1 ≤ r) (r3 : r ≤ 3) : ¬ Int32.ofNat (k123 r) = 0 ∧ xif (exN r) 32 (some (.inl (some (aI (1 : Int32))), hX h (exN r))) (xif (exN r) 30 (some (.inl (some (aI (2 : Int32))), hX h (exN r))) (xif (exN r) 31 (some (.inl (some (aI (3 : Int32))), hX h (exN r))) (xT (exN r) h))) = some (.inl (some (aI (Int32.ofNat (k123 r)))), hX h (exN r)) := by
  rcases r123 r1 r3 with e | e | e <;> subst e
  · exact ⟨by decide, rfl⟩
  · exact ⟨by decide, rfl⟩
  · exact ⟨by decide, rfl⟩
section
variable {a b : TS} {w : Hp} {sc : List Int32} {n : Nat}
theorem lw_type (h : IvH a b n) (hW : WK w sc) (p : Int64) : LwP aI Int32.toInt64 293 [aR (some (96, 0)), aL p, aR (some (98, 0))] 258 [aR (some (97, 0)), aL p] a b w sc n := by
  refine lp_L _ (t_type h p) hW (fun v a1 hx => ?_) (fun r a1 r1 r3 hk hx => ?_)
  · refine (X_st (by decide +kernel) rfl).trans ((lf_293_0 ..).trans ?_)
    rw [hx]
    rfl
  · refine ⟨(ct23 (h := JH a1 b w) r1 r3 hk).1, ?_⟩
    refine (X_st (by decide +kernel) rfl).trans ((lf_293_0 ..).trans ?_)
    rw [hx, cI_x]
    exact (ct23 r1 r3 hk).2
theorem lw_play (hn : n ≤ 511) (h : IvH a b n) (hW : WK w sc) : LwP aI Int32.toInt64 294 [aR (some (96, 0)), aR (some (98, 0))] 260 [aR (some (97, 0))] a b w sc n := by
  refine lp_L _ (t_play hn h) hW (fun v a1 hx => ?_) (fun r a1 r1 r3 hk hx => ?_)
  · refine (X_st (by decide +kernel) rfl).trans ((lf_294_0 ..).trans ?_)
    rw [hx]
    rfl
  · refine ⟨(ct2 (h := JH a1 b w) r1 r3 hk).1, ?_⟩
    refine (X_st (by decide +kernel) rfl).trans ((lf_294_0 ..).trans ?_)
    rw [hx, cI_x]
    exact (ct2 r1 r3 hk).2
end
