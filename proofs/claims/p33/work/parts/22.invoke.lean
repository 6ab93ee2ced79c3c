/-! ===== the four kinds of calls ===== -/
set_option maxRecDepth 100000 in
theorem calF : calA.all (fun a => Nat.blt (ownC a) 27 && decide (ownS (ownC a) ≠ "java/lang/invoke/MethodHandle" ∧ ownS (ownC a) ≠ "java/lang/invoke/VarHandle") && (parseMethodDescriptor (yT a).desc).isSome && decide (kdT a = 2 → (yT a).name = "<init>" ∧ rT a = none)) = true := by decide +kernel
theorem nestF : (List.range 28).all (fun c => (mthE c).all (fun e => decide (e.2.2.2 = 0 ∨ (kdT e.2.1 ≠ 3 ∧ kdT e.2.1 ≠ 0 ∧ e.2.1 ≠ 420 ∧ e.2.1 ≠ 318)))) = true := by decide +kernel
theorem mth_word {c idx a : Nat} (h : mthOk c idx a = true) (hc : c < 28) : Cond.methodLink (ownS c) idx (yT a) ∈ lw_tbl ∨ (kdT a ≠ 3 ∧ (kdT a ≠ 0 ∧ a ≠ 420 ∧ a ≠ 318) ∧ ∃ host, Cond.methodLinkNest (ownS c) idx (yT a) host ∈ lw_tbl) := by
  unfold mthOk at h
  obtain ⟨e, he, h⟩ := List.any_eq_true.mp h
  rw [Bool.and_eq_true] at h
  have h1 := Nat.eq_of_beq_eq_true h.1
  have h2 := Nat.eq_of_beq_eq_true h.2
  have hw := mth_in c hc e he
  have hn := of_decide_eq_true (List.all_eq_true.mp (List.all_eq_true.mp nestF c (List.mem_range.mpr hc)) e he)
  unfold mthW at hw
  rw [h1, h2] at hw
  rw [h2] at hn
  split at hw
  · exact Or.inl hw
  · rename_i z
    rcases hn with hn | hn
    · exact absurd (z.symm.trans hn) (by decide)
    · exact Or.inr ⟨hn.1, hn.2, _, hw⟩
  · rename_i z1 z2
    rcases hn with hn | hn
    · exact absurd hn z1
    · exact Or.inr ⟨hn.1, hn.2, _, hw⟩
/-- is the receiver of the method's class -/
def knd (a kd : Nat) : Prop := if a < 400 then kd = ownC a ∧ kd < 21 else if a < 410 then kd = 21 ∨ (2000 ≤ kd ∧ kd < 1000000) else if a < 415 then kd = 22 ∨ 1000000 ≤ kd else kd = 42
def rcOk (a : Nat) (as : List AV) (h : Hp) : Prop := (kdT a = 0 ∨ kdT a = 2) → ∃ (o : Nat × Nat) (as' : List AV) (x : OC), as = aR (some o) :: as' ∧ hG h (some o) = some x ∧ knd a x.1
def RCOK (C : CT) : Prop := ∀ a ∈ calA, ∀ (as : List AV) (h : Hp) (r1 : Out × Hp), C a as h = some r1 → rcOk a as h
def COK (l : Launch) (G : Geo) (C : CT) : Prop := ∀ a ∈ calA, a ≠ 318 → ∀ (as : List AV) (h : Hp) (r1 : Out × Hp), C a as h = some r1 → CON l G a as h r1
theorem calOk_spec {k idx a b kd : Nat} {ts : List Nat} (h : calOk k idx a b ts kd = true) : mthOk (ownC k) idx a = true ∧ rkT a < rkT k ∧ nargs a = b ∧ kdT a = kd ∧ lcT a + mlT a + 19 ≤ lcT k ∧ a ∈ calA ∧ a ∈ calB ∧ (kd = 0 → a ∈ calC) ∧ (yT a).cls = ownS (ownC a) := by
  unfold calOk at h
  simp only [Bool.and_eq_true] at h
  obtain ⟨⟨⟨⟨⟨⟨⟨⟨⟨h1, h2⟩, h3⟩, h4⟩, h5⟩, h6⟩, h7⟩, h8⟩, h9⟩, h10⟩ := h
  refine ⟨h1, Nat.le_of_ble_eq_true h2, Nat.eq_of_beq_eq_true h3, Nat.eq_of_beq_eq_true h5, Nat.le_of_ble_eq_true h6, List.mem_of_elem_eq_true h7, List.mem_of_elem_eq_true h8, fun z => ?_, of_decide_eq_true h10⟩
  subst z
  exact List.mem_of_elem_eq_true h9
theorem calWB_ok (a : Nat) : okW (calWB a) = true := by
  unfold calWB
  split <;> rfl
section CALLS
variable {G : Geo} {p : Program} {l : Launch} {e e0 : Env} {R : Room} {s : State} {m : MethodId} {args : Array Value} {below : List Frame} {meth : Method} {c : Code} {Q : State → Prop} {k : Nat} {φ0 : Nat × Nat → Nat} {h0 : Hp} {res : Out × Hp} {K : KT} {C : CT} {X : XT}
variable {φ ψ : Nat × Nat → Nat} {L : LV} {st : List AV} {h : Hp} {H : Heap} {locs : List Loc} {cells slots : Nat} {ls : Array Slot} {pc a b : Nat} {ts : List Nat}
theorem pre_of (hX : Ctx G p s m meth c k) (I : IV G s k φ0 h0 φ ψ L st h H locs cells slots ls) (as : List AV) : PreS s H (cP G φ ψ h as) (as.map (vv φ)) :=
  ⟨cP_blind _ _ _ _ _, fun U hU hW => ⟨rfl, by rw [hU]; exact (hX.sta.kept I.2.2.2.2.2.2.1.2.1).moved hW, by rw [hU]; exact I.2.2.2.1.moved hW.alike⟩⟩
theorem room_of (I : IV G s k φ0 h0 φ ψ L st h H locs cells slots ls) (hB : BUD h0 R res) (hRm : rkT k ≤ R.frames ∧ lcT k ≤ R.locals) {r1 : Out × Hp} (h1 : h.2.1 ≤ r1.2.2.1 ∧ h.2.2 ≤ r1.2.2.2) (h2 : r1.2.2.1 ≤ res.2.2.1 ∧ r1.2.2.2 ≤ res.2.2.2) (hrk : rkT a < rkT k) (hml : lcT a + mlT a + 19 ≤ lcT k) :
    ((rmM a h r1).frames + 1 ≤ R.frames ∧ 8 + (mlT a + 11) + (rmM a h r1).locals ≤ R.locals) ∧ (cells + (r1.2.2.1 - h.2.1) ≤ R.cells ∧ slots + (r1.2.2.2 - h.2.2) ≤ R.slots) ∧ r1.2.2.2 - h.2.2 ≤ 10000000 := by
  have i8 := I.2.2.2.2.2.2.2.1
  have i9 := I.2.2.2.2.2.2.2.2
  obtain ⟨b1, b2, b3⟩ := hB
  unfold rmM
  dsimp only
  refine ⟨⟨by omega, by omega⟩, ⟨by omega, by omega⟩, by omega⟩
theorem word_of (hX : Ctx G p s m meth c k) (ha : a ∈ calB) : ∀ w ∈ [calWB a], ∀ (a' : Array Value) (U : State), s.WarmedH U.vm → w.before a' U = true := fun w hw a' U hW => by
  rw [List.mem_singleton.mp hw]
  exact okW_at (calWB_ok a) hW (hX.w (args := a') (calB_in a ha) (calWB_ok a))
theorem par_of (a : Nat) : ∀ sig, parseMethodDescriptor (yT a).desc = some sig → sig.parameters.length = nargs a - (match kdT a with | 1 => 0 | 3 => 0 | _ => 1) := fun sig h => by
  unfold nargs
  rw [h]
  exact (Nat.add_sub_cancel _ _).symm
end CALLS
