/-! ===== calls ===== -/
theorem popA_spec : ∀ (n : Nat) (acc st as rest : List AV), popA n acc st = some (as, rest) → ∃ xs : List AV, xs.length = n ∧ st = xs ++ rest ∧ as = xs.reverse ++ acc := by
  intro n
  induction n with
  | zero =>
    intro acc st as rest h
    cases h
    exact ⟨[], rfl, rfl, rfl⟩
  | succ n ih =>
    intro acc st as rest h
    cases st with
    | nil => cases h
    | cons v st =>
      obtain ⟨xs, h1, h2, h3⟩ := ih (v :: acc) st as rest h
      exact ⟨v :: xs, by rw [List.length_cons, h1], by rw [h2]; rfl, by rw [h3, List.reverse_cons, List.append_assoc]; rfl⟩
/-- what a call's row comes to -/
def INV (K : KT) (C : CT) (X : XT) (np a b : Nat) (L : LV) (st : List AV) (h : Hp) (res : Out × Hp) : Prop :=
  ∃ (as rest : List AV) (r1 : Out × Hp), popA b [] st = some (as, rest) ∧ stS rest ≤ 8 ∧ C a as h = some r1 ∧ ((∃ v h1, r1 = (.inl v, h1) ∧ K np L (v.toList ++ rest) h1 = some res) ∨ ∃ e h1, r1 = (.inr e, h1) ∧ X e h1 = some res)
theorem cI_spec {r : Res} {k : Int32 → Hp → Res} {x : XT} {res : Out × Hp} (h : cI r k x = some res) : ∃ r1, r = some r1 ∧ ((∃ v h1, r1 = (.inl (some (aI v)), h1) ∧ k v h1 = some res) ∨ ∃ e h1, r1 = (.inr e, h1) ∧ x e h1 = some res) := by
  unfold cI at h; split at h
  · exact ⟨_, rfl, Or.inl ⟨_, _, rfl, h⟩⟩
  · exact ⟨_, rfl, Or.inr ⟨_, _, rfl, h⟩⟩
  · cases h
theorem cL_spec {r : Res} {k : Int64 → Hp → Res} {x : XT} {res : Out × Hp} (h : cL r k x = some res) : ∃ r1, r = some r1 ∧ ((∃ v h1, r1 = (.inl (some (aL v)), h1) ∧ k v h1 = some res) ∨ ∃ e h1, r1 = (.inr e, h1) ∧ x e h1 = some res) := by
  unfold cL at h; split at h
  · exact ⟨_, rfl, Or.inl ⟨_, _, rfl, h⟩⟩
  · exact ⟨_, rfl, Or.inr ⟨_, _, rfl, h⟩⟩
  · cases h
theorem cF_spec {r : Res} {k : UInt32 → Hp → Res} {x : XT} {res : Out × Hp} (h : cF r k x = some res) : ∃ r1, r = some r1 ∧ ((∃ v h1, r1 = (.inl (some (aF v)), h1) ∧ k v h1 = some res) ∨ ∃ e h1, r1 = (.inr e, h1) ∧ x e h1 = some res) := by
  unfold cF at h; split at h
  · exact ⟨_, rfl, Or.inl ⟨_, _, rfl, h⟩⟩
  · exact ⟨_, rfl, Or.inr ⟨_, _, rfl, h⟩⟩
  · cases h
theorem cD_spec {r : Res} {k : UInt64 → Hp → Res} {x : XT} {res : Out × Hp} (h : cD r k x = some res) : ∃ r1, r = some r1 ∧ ((∃ v h1, r1 = (.inl (some (aD v)), h1) ∧ k v h1 = some res) ∨ ∃ e h1, r1 = (.inr e, h1) ∧ x e h1 = some res) := by
  unfold cD at h; split at h
  · exact ⟨_, rfl, Or.inl ⟨_, _, rfl, h⟩⟩
  · exact ⟨_, rfl, Or.inr ⟨_, _, rfl, h⟩⟩
  · cases h
theorem cR_spec {r : Res} {k : Option (Nat × Nat) → Hp → Res} {x : XT} {res : Out × Hp} (h : cR r k x = some res) : ∃ r1, r = some r1 ∧ ((∃ v h1, r1 = (.inl (some (aR v)), h1) ∧ k v h1 = some res) ∨ ∃ e h1, r1 = (.inr e, h1) ∧ x e h1 = some res) := by
  unfold cR at h; split at h
  · exact ⟨_, rfl, Or.inl ⟨_, _, rfl, h⟩⟩
  · exact ⟨_, rfl, Or.inr ⟨_, _, rfl, h⟩⟩
  · cases h
theorem cV_spec {r : Res} {k : Hp → Res} {x : XT} {res : Out × Hp} (h : cV r k x = some res) : ∃ r1, r = some r1 ∧ ((∃ h1, r1 = (.inl none, h1) ∧ k h1 = some res) ∨ ∃ e h1, r1 = (.inr e, h1) ∧ x e h1 = some res) := by
  unfold cV at h; split at h
  · exact ⟨_, rfl, Or.inl ⟨_, rfl, h⟩⟩
  · exact ⟨_, rfl, Or.inr ⟨_, _, rfl, h⟩⟩
  · cases h
theorem inv_spec {K : KT} {C : CT} {X : XT} {idx np a b : Nat} {ts : List Nat} {L : LV} {st : List AV} {h : Hp} {res : Out × Hp} (hr : F K C X (.invokestatic idx) np a b ts L st h = some res) : INV K C X np a b L st h res := by
  unfold F at hr
  dsimp only at hr
  split at hr
  · rename_i as rest e1
    split at hr
    · cases hr
    · rename_i e2
      have e2 := Nat.le_of_ble_eq_true e2
      split at hr
      · obtain ⟨r1, h1, ⟨v, h2, h3, h4⟩ | h5⟩ := cI_spec hr
        · exact ⟨as, rest, r1, e1, e2, h1, Or.inl ⟨some (aI v), h2, h3, h4⟩⟩
        · exact ⟨as, rest, r1, e1, e2, h1, Or.inr h5⟩
      · obtain ⟨r1, h1, ⟨v, h2, h3, h4⟩ | h5⟩ := cL_spec hr
        · exact ⟨as, rest, r1, e1, e2, h1, Or.inl ⟨some (aL v), h2, h3, h4⟩⟩
        · exact ⟨as, rest, r1, e1, e2, h1, Or.inr h5⟩
      · obtain ⟨r1, h1, ⟨v, h2, h3, h4⟩ | h5⟩ := cF_spec hr
        · exact ⟨as, rest, r1, e1, e2, h1, Or.inl ⟨some (aF v), h2, h3, h4⟩⟩
        · exact ⟨as, rest, r1, e1, e2, h1, Or.inr h5⟩
      · obtain ⟨r1, h1, ⟨v, h2, h3, h4⟩ | h5⟩ := cD_spec hr
        · exact ⟨as, rest, r1, e1, e2, h1, Or.inl ⟨some (aD v), h2, h3, h4⟩⟩
        · exact ⟨as, rest, r1, e1, e2, h1, Or.inr h5⟩
      · obtain ⟨r1, h1, ⟨v, h2, h3, h4⟩ | h5⟩ := cR_spec hr
        · exact ⟨as, rest, r1, e1, e2, h1, Or.inl ⟨some (aR v), h2, h3, h4⟩⟩
        · exact ⟨as, rest, r1, e1, e2, h1, Or.inr h5⟩
      · obtain ⟨r1, h1, ⟨h2, h3, h4⟩ | h5⟩ := cV_spec hr
        · exact ⟨as, rest, r1, e1, e2, h1, Or.inl ⟨none, h2, h3, h4⟩⟩
        · exact ⟨as, rest, r1, e1, e2, h1, Or.inr h5⟩
      · cases hr
  · cases hr
/-- exceptions that reach a place of a method's walk -/
def XOK (G : Geo) (p : Program) (l : Launch) (e : Env) (R : Room) (s : State) (m : MethodId) (args : Array Value) (below : List Frame) (meth : Method) (c : Code) (Q : State → Prop) (k : Nat) (φ0 : Nat × Nat → Nat) (h0 : Hp) (res : Out × Hp) (X : XT) (pc : Nat) (L : LV) : Prop :=
  ∀ (e9 : Nat) (h : Hp) (φ ψ : Nat × Nat → Nat) (H : Heap) (locs : List Loc) (cells slots : Nat) (ls : Array Slot) (rest : List Value) (q : Addr) (ce : Cell), X e9 h = some res → 30 ≤ e9 → e9 < 33 → IV G s k φ0 h0 φ ψ L [] h H locs cells slots ls → H[q]? = some ce → ce.vm = .none → s.vm.findClass (excN e9) = some ce.cls → vx_W p l e R s m args below meth c H locs cells slots Q (F0 m pc ls rest) q
section CALL
variable {G : Geo} {p : Program} {l : Launch} {e e0 : Env} {R : Room} {s : State} {m : MethodId} {args : Array Value} {below : List Frame} {meth : Method} {c : Code} {Q : State → Prop} {k : Nat} {φ0 : Nat × Nat → Nat} {h0 : Hp} {res : Out × Hp} {K : KT} {C : CT} {X : XT}
variable {φ ψ : Nat × Nat → Nat} {L : LV} {st : List AV} {h : Hp} {H : Heap} {locs : List Loc} {cells slots : Nat} {ls : Array Slot} {pc a b : Nat} {ts : List Nat}
theorem IV.after (I : IV G s k φ0 h0 φ ψ L st h H locs cells slots ls) {h1 : Hp} {φ' ψ' : Nat × Nat → Nat} {st₀ t T' : State} {Lx : List Loc} (hm : h.2.1 ≤ h1.2.1 ∧ h.2.2 ≤ h1.2.2) (hs : s.vm.Alike t.vm) (e0 : st₀.heap = H) (e1 : T'.heap = t.heap) (hL : ∀ q ∈ Lx, frz G q.base) (A : AFT G φ h h1 φ' ψ' st₀ t) {st' : List AV} (hst : ∀ v ∈ st', clV h1 v) :
    IV G s k φ0 h0 φ' ψ' L st' h1 T'.heap (locs ++ Lx) (cells + (h1.2.1 - h.2.1)) (slots + (h1.2.2 - h.2.2)) ls := by
  obtain ⟨i1, i2, i3, i4, i5, i6, i7, i8, i9⟩ := I
  obtain ⟨a1, a2, a3, a4⟩ := A
  refine ⟨by rw [mapL_congr a1 i2]; exact i1, fun q hq => clV_len a2 (i2 q hq), hst, by rw [e1]; exact a3.moved hs.symm, fun q hq => (a1 q (Nat.lt_of_lt_of_le hq (i6 q.1))).trans (i5 q hq), fun z => Nat.le_trans (i6 z) (a2 z), (vx_keep e0 e1 i7 (fun _ _ z => z) (fun _ z => z) hL a4).2.2, by omega, by omega⟩
theorem run_use {r1 : Out × Hp} {a' : Array Value} {rest : List AV} {st0 : List Value} (I : IV G s k φ0 h0 φ ψ L st h H locs cells slots ls) (hrest : ∀ v ∈ rest, clV h v) (hm : h.2.1 ≤ r1.2.2.1 ∧ h.2.2 ≤ r1.2.2.2)
    (hr : vx_Run p l e0 R s m args below meth c H locs cells slots (r1.2.2.1 - h.2.1) (r1.2.2.2 - h.2.2) (F0 m pc ls st0) (rest.map (vv φ)) (cQ G φ h r1 a') (cX G φ h r1) (frz G)) (hX : XOK G p l e0 R s m args below meth c Q k φ0 h0 res X pc L) (hK : KOK G p l e0 R s m args below meth c Q k φ0 h0 res K)
    (hres : (∃ v h1, r1 = (.inl v, h1) ∧ K (pc + 3) L (v.toList ++ rest) h1 = some res) ∨ ∃ e h1, r1 = (.inr e, h1) ∧ X e h1 = some res) : W p l e0 R s m args below meth c H locs cells slots Q (F0 m pc ls st0) := by
  intro T hT Y
  rcases hr T hT Y with ⟨v, st₀, t, T', Lx, f0, Y', hL, e1, e2, ⟨v1, φ', ψ', g1, g2, g3, g4⟩, go⟩ | ⟨q, st₀, t, T', Lx, E, ce, f0, Y', hL, e1, e2, ⟨e9, φ', ψ', g1, g2, g3, g4, g5⟩, hce, hcv, hcl, go⟩
  · have hal : s.vm.Alike t.vm := by rw [← e2]; exact Y'.warmed.alike
    rcases hres with ⟨v2, h1, rfl, hk⟩ | ⟨e', h1, rfl, -⟩
    · cases g1
      cases g2
      have hst : ∀ x ∈ v1.toList ++ rest, clV h1 x := fun x hx => by
        rcases List.mem_append.mp hx with z | z
        · exact g3 x (by cases v1 with | none => cases z | some w => cases z with | head => rfl | tail _ z => cases z)
        · exact clV_len g4.2.1 (hrest x z)
      have I' := I.after hm hal f0 e1 hL g4 hst
      obtain ⟨t2, a1, b1⟩ := hK _ _ _ _ _ _ _ _ _ _ _ hk I' T' rfl Y'
      refine ⟨t2, go t2 ?_, b1⟩
      rw [List.map_append, mapV_congr g4.1 hrest] at a1
      cases v1 <;> exact a1
    · cases g1
  · have hal : s.vm.Alike t.vm := by rw [← e2]; exact Y'.warmed.alike
    rcases hres with ⟨v2, h1, rfl, -⟩ | ⟨e', h1, rfl, hx⟩
    · cases g1
    · cases g1
      subst g2
      have I' := I.after hm hal f0 e1 hL g5 (st' := []) (fun x hx => nomatch hx)
      obtain ⟨t2, a1, b1⟩ := hX _ _ _ _ _ _ _ _ _ (rest.map (vv φ)) q ce hx g3 g4 I' (by rw [e1]; exact hce) hcv hcl T' rfl Y'
      exact ⟨t2, go.trans a1, b1⟩
theorem run_use5 {r1 : Out × Hp} {a' : Array Value} {rest : List AV} {st0 : List Value} (I : IV G s k φ0 h0 φ ψ L st h H locs cells slots ls) (hrest : ∀ v ∈ rest, clV h v) (hm : h.2.1 ≤ r1.2.2.1 ∧ h.2.2 ≤ r1.2.2.2)
    (hr : vx_Run5 p l e0 R s m args below meth c H locs cells slots (r1.2.2.1 - h.2.1) (r1.2.2.2 - h.2.2) (F0 m pc ls st0) (rest.map (vv φ)) (cQ G φ h r1 a') (cX G φ h r1) (frz G)) (hX : XOK G p l e0 R s m args below meth c Q k φ0 h0 res X pc L) (hK : KOK G p l e0 R s m args below meth c Q k φ0 h0 res K)
    (hres : (∃ v h1, r1 = (.inl v, h1) ∧ K (pc + 5) L (v.toList ++ rest) h1 = some res) ∨ ∃ e h1, r1 = (.inr e, h1) ∧ X e h1 = some res) : W p l e0 R s m args below meth c H locs cells slots Q (F0 m pc ls st0) := by
  intro T hT Y
  rcases hr T hT Y with ⟨v, st₀, t, T', Lx, f0, Y', hL, e1, e2, ⟨v1, φ', ψ', g1, g2, g3, g4⟩, go⟩ | ⟨q, st₀, t, T', Lx, E, ce, f0, Y', hL, e1, e2, ⟨e9, φ', ψ', g1, g2, g3, g4, g5⟩, hce, hcv, hcl, go⟩
  · have hal : s.vm.Alike t.vm := by rw [← e2]; exact Y'.warmed.alike
    rcases hres with ⟨v2, h1, rfl, hk⟩ | ⟨e', h1, rfl, -⟩
    · cases g1
      cases g2
      have hst : ∀ x ∈ v1.toList ++ rest, clV h1 x := fun x hx => by
        rcases List.mem_append.mp hx with z | z
        · exact g3 x (by cases v1 with | none => cases z | some w => cases z with | head => rfl | tail _ z => cases z)
        · exact clV_len g4.2.1 (hrest x z)
      have I' := I.after hm hal f0 e1 hL g4 hst
      obtain ⟨t2, a1, b1⟩ := hK _ _ _ _ _ _ _ _ _ _ _ hk I' T' rfl Y'
      refine ⟨t2, go t2 ?_, b1⟩
      rw [List.map_append, mapV_congr g4.1 hrest] at a1
      cases v1 <;> exact a1
    · cases g1
  · have hal : s.vm.Alike t.vm := by rw [← e2]; exact Y'.warmed.alike
    rcases hres with ⟨v2, h1, rfl, -⟩ | ⟨e', h1, rfl, hx⟩
    · cases g1
    · cases g1
      subst g2
      have I' := I.after hm hal f0 e1 hL g5 (st' := []) (fun x hx => nomatch hx)
      obtain ⟨t2, a1, b1⟩ := hX _ _ _ _ _ _ _ _ _ (rest.map (vv φ)) q ce hx g3 g4 I' (by rw [e1]; exact hce) hcv hcl T' rfl Y'
      exact ⟨t2, go.trans a1, b1⟩
end CALL
