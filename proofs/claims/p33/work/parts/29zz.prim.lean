/-! ===== the JDK's methods: their receivers ===== -/
theorem liG_at {h : Hp} {o : Option (Nat × Nat)} {r : Nat × List AV} (e : liG h o = some r) : ∃ x, hG h o = some x ∧ 2000 ≤ x.1 ∧ x.1 < 1000000 ∧ r = (x.1 - 2000, x.2) := by
  unfold liG at e
  split at e
  · rename_i x hx
    split at e
    · rename_i hb
      rw [Bool.and_eq_true] at hb
      exact ⟨x, hx, Nat.le_of_ble_eq_true hb.1, Nat.le_of_ble_eq_true hb.2, (Option.some.inj e).symm⟩
    · cases e
  · cases e
theorem sbG_at {h : Hp} {o : Option (Nat × Nat)} {r : Nat × List AV} (e : sbG h o = some r) : ∃ x, hG h o = some x ∧ 1000000 ≤ x.1 ∧ r = (x.1 - 1000000, x.2) := by
  unfold sbG at e
  split at e
  · rename_i x hx
    split at e
    · rename_i hb
      exact ⟨x, hx, Nat.le_of_ble_eq_true hb, (Option.some.inj e).symm⟩
    · cases e
  · cases e
theorem sgG_at {h : Hp} {o : Option (Nat × Nat)} {r : List AV} (e : sgG h o = some r) : ∃ x, hG h o = some x ∧ x.1 = 42 ∧ r = x.2 := by
  unfold sgG at e
  split at e
  · rename_i x hx
    split at e
    · rename_i hb
      cases e
      exact ⟨x, hx, Nat.eq_of_beq_eq_true hb, rfl⟩
    · cases e
  · cases e
set_option maxRecDepth 100000 in
theorem prim_is : ∀ a ∈ calA, 400 ≤ a → a ∈ [400, 401, 402, 403, 404, 405, 406, 407, 410, 411, 412, 413, 414, 415, 416] := by decide +kernel
theorem li_rc {a : Nat} {q : Nat × Nat} {as' : List AV} {h : Hp} (h1 : 400 ≤ a) (h2 : a < 410) {r : Nat × List AV} (e : liG h (some q) = some r) : rcOk a (aR (some q) :: as') h := fun _ => by
  obtain ⟨x, e1, e2, e3, -⟩ := liG_at e
  exact ⟨q, as', x, rfl, e1, by unfold knd; rw [if_neg (by omega), if_pos h2]; exact Or.inr ⟨e2, e3⟩⟩
theorem sb_rc {a : Nat} {q : Nat × Nat} {as' : List AV} {h : Hp} (h1 : 410 ≤ a) (h2 : a < 415) {r : Nat × List AV} (e : sbG h (some q) = some r) : rcOk a (aR (some q) :: as') h := fun _ => by
  obtain ⟨x, e1, e2, -⟩ := sbG_at e
  exact ⟨q, as', x, rfl, e1, by unfold knd; rw [if_neg (by omega), if_neg (by omega), if_pos h2]; exact Or.inr e2⟩
theorem sg_rc {a : Nat} {q : Nat × Nat} {as' : List AV} {h : Hp} (h1 : 415 ≤ a) {r : List AV} (e : sgG h (some q) = some r) : rcOk a (aR (some q) :: as') h := fun _ => by
  obtain ⟨x, e1, e2, -⟩ := sgG_at e
  exact ⟨q, as', x, rfl, e1, by unfold knd; rw [if_neg (by omega), if_neg (by omega), if_neg (by omega)]; exact e2⟩
set_option maxRecDepth 100000 in
theorem prim_rc {a : Nat} {as : List AV} {h : Hp} {r1 : Out × Hp} (ha : a ∈ calA) (h4 : 400 ≤ a) (hr : prim a as h = some r1) : rcOk a as h := by
  have := prim_is a ha h4
  simp only [List.mem_cons, List.not_mem_nil, or_false] at this
  rcases this with rfl | rfl | rfl | rfl | rfl | rfl | rfl | rfl | rfl | rfl | rfl | rfl | rfl | rfl | rfl
  all_goals
    simp only [prim] at hr
    split at hr
    · split at hr
      · first
          | exact li_rc (by decide) (by decide) (by assumption)
          | exact sb_rc (by decide) (by decide) (by assumption)
          | exact sg_rc (by decide) (by assumption)
          | (rename_i q hx; exact fun _ => ⟨q, _, _, rfl, by assumption, by unfold knd; simp⟩)
          | (rename_i q _ hx; exact fun _ => ⟨q, _, _, rfl, hx, by unfold knd; simp⟩)
      · cases hr
    · cases hr
