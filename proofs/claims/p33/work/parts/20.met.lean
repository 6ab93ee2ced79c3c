/-! ===== contracts of methods; returns ===== -/
/-- what is known of the world behind a run from h (names φ) to h' -/
def AFT (G : Geo) (φ : Nat × Nat → Nat) (h h' : Hp) (φ' ψ' : Nat × Nat → Nat) (st t : State) : Prop :=
  (∀ q : Nat × Nat, q.2 < (h.1 q.1).length → φ' q = φ q) ∧ (∀ z, (h.1 z).length ≤ (h'.1 z).length) ∧ Hrel G t φ' ψ' h' t.heap ∧ va_F (frz G) st t
def cQ (G : Geo) (φ : Nat × Nat → Nat) (h : Hp) (res : Out × Hp) : Array Value → State → Outcome → State → Prop := fun _ st o t =>
  ∃ (v : Option AV) (φ' ψ' : Nat × Nat → Nat), res.1 = .inl v ∧ o = .returned (v.map (vv φ')) ∧ (∀ w, v = some w → clV res.2 w) ∧ AFT G φ h res.2 φ' ψ' st t
def cX (G : Geo) (φ : Nat × Nat → Nat) (h : Hp) (res : Out × Hp) : String → State → State → Prop := fun E st t =>
  ∃ (e : Nat) (φ' ψ' : Nat × Nat → Nat), res.1 = .inr e ∧ E = excN e ∧ 30 ≤ e ∧ e < 33 ∧ AFT G φ h res.2 φ' ψ' st t
def cP (G : Geo) (φ ψ : Nat × Nat → Nat) (h : Hp) (args : List AV) : Array Value → State → Prop := fun a U => a = (args.map (vv φ)).toArray ∧ Sta G U U.heap ∧ Hrel G U φ ψ h U.heap
theorem cP_blind (G : Geo) (φ ψ : Nat × Nat → Nat) (h : Hp) (args : List AV) : FrameBlind (cP G φ ψ h args) := fun a U g mk q => by
  have w : U.WarmedH (U.calling g mk a).vm := State.WarmedH.refl U
  exact ⟨q.1, Sta.moved w q.2.1, Hrel.moved w.alike q.2.2⟩
def rmM (k : Nat) (h : Hp) (res : Out × Hp) : Room := { frames := rkT k, locals := lcT k, cells := res.2.2.1 - h.2.1, slots := res.2.2.2 - h.2.2 }
/-- method k, called with args over h, comes to res -/
def CON (l : Launch) (G : Geo) (k : Nat) (args : List AV) (h : Hp) (res : Out × Hp) : Prop :=
  (∀ v ∈ args, clV h v) → 30 ≤ (h.1 0).length → res.2.2.2 - h.2.2 ≤ 10000000 → ∀ φ ψ : Nat × Nat → Nat,
    vx_Met l (yT k) [calWB k] (rmM k h res) (cP G φ ψ h args) (cQ G φ h res) (cX G φ h res) (res.2.2.1 - h.2.1) (res.2.2.2 - h.2.2) (frz G)
abbrev QM (G : Geo) (φ0 : Nat × Nat → Nat) (h0 : Hp) (res : Out × Hp) (below : List Frame) (args : Array Value) (s : State) : State → Prop :=
  vx_MQ below (cQ G φ0 h0 res) (cX G φ0 h0 res) args s (res.2.2.1 - h0.2.1) (res.2.2.2 - h0.2.2) (frz G)
section MET
variable {G : Geo} {p : Program} {l : Launch} {e e0 : Env} {R : Room} {s : State} {m : MethodId} {args : Array Value} {below : List Frame} {meth : Method} {c : Code} {Q : State → Prop} {k : Nat} {φ0 : Nat × Nat → Nat} {h0 : Hp} {res : Out × Hp} {K : KT} {C : CT} {X : XT}
variable {φ ψ : Nat × Nat → Nat} {L : LV} {st : List AV} {h : Hp} {H : Heap} {locs : List Loc} {cells slots : Nat} {ls : Array Slot} {pc a b : Nat} {ts : List Nat}
theorem IV.aft (I : IV G s k φ0 h0 φ ψ L st h H locs cells slots ls) {t : State} (hT : t.heap = H) (hW : s.vm.Alike t.vm) : AFT G φ0 h0 h φ ψ s t :=
  ⟨I.2.2.2.2.1, I.2.2.2.2.2.1, by rw [hT]; exact I.2.2.2.1.moved hW, ⟨by rw [hT]; exact I.2.2.2.2.2.2.1.1, fun q h1 h2 => by rw [hT]; exact I.2.2.2.2.2.2.1.2.1 q h1 h2⟩⟩
theorem IV.cnt (I : IV G s k φ0 h0 φ ψ L st h H locs cells slots ls) : h.2.1 - h0.2.1 = cells ∧ h.2.2 - h0.2.2 = slots := by
  have i8 := I.2.2.2.2.2.2.2.1
  have i9 := I.2.2.2.2.2.2.2.2
  exact ⟨by omega, by omega⟩
theorem ret_q (I : IV G s k φ0 h0 φ ψ L st h H locs cells slots ls) {v : Option AV} (hv : ∀ w, v = some w → clV h w) {t : State} (hT : t.heap = H) (hW : s.WarmedH t.vm) : cQ G φ0 h0 (.inl v, h) args s (.returned (v.map (vv φ))) t :=
  ⟨v, φ, ψ, rfl, rfl, hv, I.aft hT hW.alike⟩
theorem tgR4 {t : Option FieldType} (h : Nat.beq (tgR t) 4 = true) : ∃ rt, t = some rt ∧ ((∃ n, rt = .object n) ∨ ∃ u, rt = .array u) := by
  have h := Nat.eq_of_beq_eq_true h
  unfold tgR at h
  split at h <;> first | (exact absurd h (by decide)) | exact ⟨_, rfl, Or.inl ⟨_, rfl⟩⟩ | exact ⟨_, rfl, Or.inr ⟨_, rfl⟩⟩
theorem sn_ireturn (hX : Ctx G p s m meth c k) (I : IV G s k φ0 h0 φ ψ L st h H locs cells slots ls) (hd : decode (bT k) pc = .ok (.ireturn, 1)) (hw : a = 0 ∧ rT k = some .int ∨ a = 2 ∧ rT k = some .boolean) (hr : F K C X .ireturn (pc + 1) a b ts L st h = some res) : W p l e R s m args below meth c H locs cells slots (QM G φ0 h0 res below args s) (F0 m pc ls (st.map (vv φ))) := by
  have hlk : meth.locks = false := hX.2.2.2.2.2.1
  have hf := I.2.2.2.2.2.2.1.2.2
  have hrt := hX.2.2.2.2.1
  unfold F at hr
  dsimp only at hr
  split at hr
  · rename_i x
    rcases hw with ⟨rfl, hw⟩ | ⟨rfl, hw⟩
    · cases hr
      refine vx_ret ?_
      rw [I.cnt.1, I.cnt.2]
      exact W.iret hX.1 hX.2.1 (hrt.trans hw) (fun t hT hW => ret_q (v := some (aI x)) I (fun w hw => by cases hw; trivial) hT hW) hf hd
    · have hr : gz x (some (.inl (some (aI x)), h)) = some res := hr
      unfold gz at hr
      split at hr
      · rename_i hz
        cases hr
        refine vx_ret ?_
        rw [I.cnt.1, I.cnt.2]
        exact W.zret hX.1 hX.2.1 (hrt.trans hw) (narrow_z (of_decide_eq_true hz)).1 (fun t hT hW => ret_q (v := some (aI x)) I (fun w hw => by cases hw; trivial) hT hW) hf hd
      · cases hr
  · cases hr
theorem sn_lreturn (hX : Ctx G p s m meth c k) (I : IV G s k φ0 h0 φ ψ L st h H locs cells slots ls) (hd : decode (bT k) pc = .ok (.lreturn, 1)) (hw : rT k = some .long) (hr : F K C X .lreturn (pc + 1) a b ts L st h = some res) : W p l e R s m args below meth c H locs cells slots (QM G φ0 h0 res below args s) (F0 m pc ls (st.map (vv φ))) := by
  have hlk : meth.locks = false := hX.2.2.2.2.2.1
  have hf := I.2.2.2.2.2.2.1.2.2
  have hrt := hX.2.2.2.2.1
  unfold F at hr
  dsimp only at hr
  split at hr
  · rename_i x
    cases hr
    refine vx_ret ?_
    rw [I.cnt.1, I.cnt.2]
    exact W.lret hX.1 hX.2.1 (hrt.trans hw) (fun t hT hW => ret_q (v := some (aL x)) I (fun w hw => by cases hw; trivial) hT hW) hf hd
  · cases hr
theorem sn_freturn (hX : Ctx G p s m meth c k) (I : IV G s k φ0 h0 φ ψ L st h H locs cells slots ls) (hd : decode (bT k) pc = .ok (.freturn, 1)) (hw : rT k = some .float) (hr : F K C X .freturn (pc + 1) a b ts L st h = some res) : W p l e R s m args below meth c H locs cells slots (QM G φ0 h0 res below args s) (F0 m pc ls (st.map (vv φ))) := by
  have hlk : meth.locks = false := hX.2.2.2.2.2.1
  have hf := I.2.2.2.2.2.2.1.2.2
  have hrt := hX.2.2.2.2.1
  unfold F at hr
  dsimp only at hr
  split at hr
  · rename_i x
    cases hr
    refine vx_ret ?_
    rw [I.cnt.1, I.cnt.2]
    exact W.fret hX.1 hX.2.1 (hrt.trans hw) (fun t hT hW => ret_q (v := some (aF x)) I (fun w hw => by cases hw; trivial) hT hW) hf hd
  · cases hr
theorem sn_dreturn (hX : Ctx G p s m meth c k) (I : IV G s k φ0 h0 φ ψ L st h H locs cells slots ls) (hd : decode (bT k) pc = .ok (.dreturn, 1)) (hw : rT k = some .double) (hr : F K C X .dreturn (pc + 1) a b ts L st h = some res) : W p l e R s m args below meth c H locs cells slots (QM G φ0 h0 res below args s) (F0 m pc ls (st.map (vv φ))) := by
  have hlk : meth.locks = false := hX.2.2.2.2.2.1
  have hf := I.2.2.2.2.2.2.1.2.2
  have hrt := hX.2.2.2.2.1
  unfold F at hr
  dsimp only at hr
  split at hr
  · rename_i x
    cases hr
    refine vx_ret ?_
    rw [I.cnt.1, I.cnt.2]
    exact W.dret hX.1 hX.2.1 (hrt.trans hw) (fun t hT hW => ret_q (v := some (aD x)) I (fun w hw => by cases hw; trivial) hT hW) hf hd
  · cases hr
theorem sn_return (hX : Ctx G p s m meth c k) (I : IV G s k φ0 h0 φ ψ L st h H locs cells slots ls) (hd : decode (bT k) pc = .ok (.return_, 1)) (hw : rT k = none) (hr : F K C X .return_ (pc + 1) a b ts L st h = some res) : W p l e R s m args below meth c H locs cells slots (QM G φ0 h0 res below args s) (F0 m pc ls (st.map (vv φ))) := by
  have hlk : meth.locks = false := hX.2.2.2.2.2.1
  have hf := I.2.2.2.2.2.2.1.2.2
  have hrt := hX.2.2.2.2.1
  unfold F at hr
  dsimp only at hr
  split at hr
  · cases hr
    refine vx_ret ?_
    rw [I.cnt.1, I.cnt.2]
    exact W.vret hX.1 hX.2.1 (hrt.trans hw) (fun t hT hW => ret_q (v := none) I (fun w hw => by cases hw) hT hW) hf hd
  · cases hr
theorem sn_areturn (hX : Ctx G p s m meth c k) (I : IV G s k φ0 h0 φ ψ L st h H locs cells slots ls) (hd : decode (bT k) pc = .ok (.areturn, 1)) (hw : Nat.beq (tgR (rT k)) 4 = true) (hr : F K C X .areturn (pc + 1) a b ts L st h = some res) : W p l e R s m args below meth c H locs cells slots (QM G φ0 h0 res below args s) (F0 m pc ls (st.map (vv φ))) := by
  have hlk : meth.locks = false := hX.2.2.2.2.2.1
  have hf := I.2.2.2.2.2.2.1.2.2
  have hrt := hX.2.2.2.2.1
  have hs := I.2.2.1
  obtain ⟨rt, h1, h2⟩ := tgR4 hw
  unfold F at hr
  dsimp only at hr
  split at hr
  · rename_i x
    cases hr
    refine vx_ret ?_
    rw [I.cnt.1, I.cnt.2]
    exact W.aret hX.1 hX.2.1 (hrt.trans h1) h2 (by cases x with | none => exact Or.inl rfl | some q => exact Or.inr ⟨_, rfl⟩) (fun t hT hW => ret_q (v := some (aR x)) I (fun w hw => by cases hw; exact hs _ List.mem_cons_self) hT hW) hf hd
  · cases hr
end MET
