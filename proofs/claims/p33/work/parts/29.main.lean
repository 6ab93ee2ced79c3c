/-! ===== all runs are sound, from what a call of the JDK's methods comes to ===== -/
theorem rowAt_mem {pc : Nat} {l : List Row} {r : Row} (h : rowAt pc l = some r) : r ∈ l ∧ r.1 = pc := by
  induction l with
  | nil => cases h
  | cons q l ih =>
    have h : (match Nat.beq q.1 pc with | true => some q | false => rowAt pc l) = some r := h
    cases b : Nat.beq q.1 pc with
    | true =>
      rw [b] at h
      cases h
      exact ⟨List.mem_cons_self, Nat.eq_of_beq_eq_true b⟩
    | false =>
      rw [b] at h
      exact ⟨List.mem_cons_of_mem _ (ih h).1, (ih h).2⟩
def ROWS : Prop := ∀ k, k ∈ rlL → (codeT k).all (rowOk k) = true
/-- the JDK's methods that are called -/
def PRIMS (l : Launch) (G : Geo) : Prop := ∀ a ∈ calA, 400 ≤ a → ∀ (as : List AV) (h : Hp) (r1 : Out × Hp), prim a as h = some r1 → rcOk a as h ∧ CON l G a as h r1
set_option maxRecDepth 100000 in
theorem rc_tab : calA.all (fun a => Nat.ble 400 a || (Nat.blt a 334 && decide (alT a = mlT a) && (Nat.beq a 318 || plainName (yT a).cls) && (match kdT a with | 0 => Nat.beq (rcT a) (ownC a + 1) && Nat.blt (ownC a) 21 | 2 => Nat.beq (rcT a) (ownC a + 1) && Nat.blt (ownC a) 21 | _ => true))) = true := by decide +kernel
theorem rc_rl {a : Nat} (ha : a ∈ calA) (h4 : ¬ 400 ≤ a) : a ∈ rlL := by
  have h := List.all_eq_true.mp (show calA.all (fun a => Nat.ble 400 a || rlL.elem a) = true by decide +kernel) a ha
  rw [Bool.or_eq_true] at h
  rcases h with h | h
  · exact absurd (Nat.le_of_ble_eq_true h) h4
  · exact List.mem_of_elem_eq_true h
theorem rc_spec {a : Nat} (ha : a ∈ calA) (h4 : ¬ 400 ≤ a) : a < 334 ∧ alT a = mlT a ∧ (a ≠ 318 → plainName (yT a).cls = true) ∧ ((kdT a = 0 ∨ kdT a = 2) → rcT a = ownC a + 1 ∧ ownC a < 21) := by
  have h := List.all_eq_true.mp rc_tab a ha
  have h0 : Nat.ble 400 a = false := by
    cases z : Nat.ble 400 a
    · rfl
    · exact absurd (Nat.le_of_ble_eq_true z) h4
  rw [h0, Bool.false_or] at h
  simp only [Bool.and_eq_true, decide_eq_true_eq] at h
  obtain ⟨⟨⟨h1, h2⟩, h3⟩, h5⟩ := h
  refine ⟨Nat.le_of_ble_eq_true h1, h2, fun z => ?_, fun z => ?_⟩
  · rcases or_dec h3 with w | w
    · exact absurd (Nat.eq_of_beq_eq_true w) z
    · exact w
  rcases z with z | z
  all_goals
    rw [z] at h5
    have h5 : (Nat.beq (rcT a) (ownC a + 1) && Nat.blt (ownC a) 21) = true := h5
    rw [Bool.and_eq_true] at h5
    exact ⟨Nat.eq_of_beq_eq_true h5.1, Nat.le_of_ble_eq_true h5.2⟩
theorem rcv_ok {a : Nat} {as : List AV} {h : Hp} (ha : a ∈ calA) (h4 : ¬ 400 ≤ a) (hr : rcv a as h = true) : rcOk a as h := by
  intro hk
  obtain ⟨-, -, -, h5⟩ := rc_spec ha h4
  obtain ⟨h6, h7⟩ := h5 hk
  unfold rcv at hr
  rw [Bool.and_eq_true, h6] at hr
  obtain ⟨-, hr2⟩ := hr
  dsimp only at hr2
  split at hr2
  · rename_i o as'
    split at hr2
    · rename_i x hx
      cases o with
      | none => cases hx
      | some q => exact ⟨q, as', x, rfl, hx, by unfold knd; rw [if_pos (by omega)]; have := Nat.eq_of_beq_eq_true hr2; exact ⟨this, by omega⟩⟩
    · cases hr2
  · cases hr2
theorem args_map (φ : Nat × Nat → Nat) : ∀ (as : List AV) (i : Nat), lv_args i (as.map (vv φ)) = mapL φ (mkL i as) := by
  intro as
  induction as with
  | nil => exact fun _ => rfl
  | cons v as ih =>
    intro i
    show (i, vv φ v) :: lv_args (if (vv φ v).category = 2 then i + 2 else i + 1) (as.map (vv φ)) = (i, vv φ v) :: mapL φ (mkL (i + catV v) as)
    rw [ih, vv_cat]
    have : catV v = 1 ∨ catV v = 2 := by rcases v with _ | _ | _ | _ | _ <;> first | exact Or.inl rfl | exact Or.inr rfl
    rcases this with e | e <;> rw [e] <;> rfl
theorem sl_len (φ : Nat × Nat → Nat) (as : List AV) : (lg_sl (as.map (vv φ))).length = stS as := by
  induction as with
  | nil => rfl
  | cons v as ih =>
    show (lg_sl (vv φ v :: as.map (vv φ))).length = catV v + stS as
    rw [← ih]
    unfold lg_sl
    rw [List.flatMap_cons, List.length_append, vv_cat]
    have : catV v = 1 ∨ catV v = 2 := by rcases v with _ | _ | _ | _ | _ <;> first | exact Or.inl rfl | exact Or.inr rfl
    rcases this with e | e <;> rw [e] <;> rfl
theorem mkL_cl {h : Hp} : ∀ (as : List AV) (i : Nat), (∀ v ∈ as, clV h v) → ∀ q ∈ mkL i as, clV h q.2 := by
  intro as
  induction as with
  | nil => exact fun _ _ _ hq => nomatch hq
  | cons v as ih =>
    intro i hc q hq
    rcases List.mem_cons.mp hq with z | z
    · rw [z]; exact hc v List.mem_cons_self
    · exact ih _ (fun v hv => hc v (List.mem_cons_of_mem _ hv)) q z
/-- what a law's walk gives at its end -/
def LAWR (G : Geo) (p : Program) (l : Launch) (e0 : Env) (R : Room) (s : State) (m : MethodId) (args : Array Value) (below : List Frame) (meth : Method) (c : Code) (Q : State → Prop) (φ0 : Nat × Nat → Nat) (h0 : Hp) (res : Out × Hp) : Prop :=
  (∃ v, res.1 = .inl v) ∧ ∀ (pc : Nat) (x : Int32) (h : Hp) (φ ψ : Nat × Nat → Nat) (H : Heap) (locs : List Loc) (cells slots : Nat) (ls : Array Slot) (L : LV), decode (bT 333) pc = .ok (.ireturn, 1) → res = (.inl (some (aI x)), h) → IV G s 333 φ0 h0 φ ψ L [aI x] h H locs cells slots ls → W p l e0 R s m args below meth c H locs cells slots Q (F0 m pc ls [.int x])
/-- the surroundings of a method's walk -/
def ENV (l : Launch) (G : Geo) (p : Program) (e0 : Env) (R : Room) (s : State) (m : MethodId) (args : Array Value) (below : List Frame) (meth : Method) (c : Code) (Q : State → Prop) (k : Nat) (φ0 : Nat × Nat → Nat) (h0 : Hp) (res : Out × Hp) : Prop :=
  Ctx G p s m meth c k ∧ c.exceptionTable.toList = tableOf (rhT k) ∧ 30 ≤ (h0.1 0).length ∧ BUD h0 R res ∧ (rkT k ≤ R.frames ∧ lcT k ≤ R.locals) ∧ (Q = QM G φ0 h0 res below args s ∨ (k = 333 ∧ LAWR G p l e0 R s m args below meth c Q φ0 h0 res))
def MULOK (l : Launch) (G : Geo) : Prop := ∀ (p : Program) (e0 : Env) (R : Room) (s : State) (m : MethodId) (args : Array Value) (below : List Frame) (meth : Method) (c : Code) (Q : State → Prop) (k : Nat) (φ0 : Nat × Nat → Nat) (h0 : Hp) (res : Out × Hp) (K : KT) (C : CT) (X : XT) (pc i j a b : Nat) (ts : List Nat) (L : LV) (st : List AV) (h : Hp) (φ ψ : Nat × Nat → Nat) (H : Heap) (locs : List Loc) (cells slots : Nat) (ls : Array Slot),
  Ctx G p s m meth c k → KOK G p l e0 R s m args below meth c Q k φ0 h0 res K → KMON res K → BUD h0 R res → IV G s k φ0 h0 φ ψ L st h H locs cells slots ls → decode (bT k) pc = .ok (.multianewarray i j, 4) → (k = 999 ∧ a = 1900 ∧ b = 0 ∧ pc = 61) → F K C X (.multianewarray i j) (pc + 4) a b ts L st h = some res → W p l e0 R s m args below meth c H locs cells slots Q (F0 m pc ls (st.map (vv φ)))
/-- n steps are sound -/
def SOUND (l : Launch) (G : Geo) (n : Nat) : Prop := ∀ k, k ∈ rlL → ∀ (p : Program) (e0 : Env) (R : Room) (s : State) (m : MethodId) (args : Array Value) (below : List Frame) (meth : Method) (c : Code) (Q : State → Prop) (φ0 : Nat × Nat → Nat) (h0 : Hp) (res : Out × Hp), ENV l G p e0 R s m args below meth c Q k φ0 h0 res → KOK G p l e0 R s m args below meth c Q k φ0 h0 res (run n k)
theorem con_of {l : Launch} {G : Geo} {n : Nat} (hS : SOUND l G n) {a : Nat} (ha : a ∈ calA) (h4 : ¬ 400 ≤ a) (h8 : a ≠ 318) {as : List AV} {h : Hp} {r1 : Out × Hp} (hrc : rcv a as h = true) (hr : run n a 0 (mkL 0 as) [] h = some r1) : CON l G a as h r1 := by
  intro hcl hZ hsl φ ψ
  obtain ⟨c1, c2, c3, -⟩ := rc_spec ha h4
  have c3 := c3 h8
  obtain ⟨q1, q2, q3⟩ := calF_at ha
  have hown : (yT a).cls = ownS (ownC a) := of_decide_eq_true (List.all_eq_true.mp (show calA.all (fun a => decide ((yT a).cls = ownS (ownC a))) = true by decide +kernel) a ha)
  have hst : stS as ≤ mlT a := by
    unfold rcv at hrc
    rw [Bool.and_eq_true] at hrc
    rw [← c2]
    exact Nat.le_of_ble_eq_true hrc.1
  have hm := run_mon n _ _ _ _ _ _ hr
  have core : ∀ (p : Program) (e : Env) (s : State) (m : MethodId) (args : Array Value) (below : List Frame) (meth : Method) (c : Code) (s₁ : State), BodyLoose p l (yT a) (headSpec [calWB a] (rmM a h r1)) (bT a) (mlT a) (rT a) e s m args below meth c s₁ → c.maxLocals = mlT a → c.exceptionTable.toList = tableOf (rhT a) → cP G φ ψ h as args s →
      W p l e (headSpec [calWB a] (rmM a h r1)).room s m args below meth c s.heap [] 0 0 (vx_MQ below (cQ G φ h r1) (cX G φ h r1) args s (r1.2.2.1 - h.2.1) (r1.2.2.2 - h.2.2) (frz G)) (entryFrame m args (mlT a)) := by
    intro p e s m args below meth c s₁ B hml ht hP
    obtain ⟨p1, p2, p3⟩ := hP
    have hX : Ctx G p s m meth c a := ⟨B.exec, B.bytes, hml, by rw [← hown]; exact findClass_of_methodNamed B.named, B.returns, B.notSynchronized, fun z => by rw [(name_of_methodNamed B.named B.method).1]; exact (q3 z).1, p2⟩
    have hE : ENV l G p e (rmM a h r1) s m args below meth c (QM G φ h r1 below args s) a φ h r1 := ⟨hX, ht, hZ, ⟨by unfold rmM; dsimp only; omega, by unfold rmM; dsimp only; omega, hsl⟩, ⟨Nat.le_refl _, Nat.le_refl _⟩, Or.inl rfl⟩
    have hI : IV G s a φ h φ ψ (mkL 0 as) [] h s.heap [] 0 0 ((lg_sl (as.map (vv φ)) ++ List.replicate (mlT a - (lg_sl (as.map (vv φ))).length) Slot.unset).toArray) := ⟨by rw [← args_map]; exact lv_entry _ (by rw [sl_len]; exact hst), mkL_cl as 0 hcl, (fun v hv => nomatch hv), p3, fun _ _ => rfl, fun _ => Nat.le_refl _, ⟨Nat.le_refl _, fun _ _ _ => rfl, (fun q hq => nomatch hq)⟩, by omega, by omega⟩
    have := hS a (rc_rl ha h4) p e (rmM a h r1) s m args below meth c _ φ h r1 hE 0 (mkL 0 as) [] h φ ψ s.heap [] 0 0 _ hr hI
    rw [p1, lg_entry_eq]
    rw [p1] at this
    exact this
  by_cases h3 : kdT a = 3
  · have e3 : calWB a = .codeWith (yT a) (bT a) (mlT a) (rT a) (rhT a) := by
      unfold calWB
      rw [h3]
      rfl
    refine vx_ofWH (hh := rhT a) (ws' := []) c3 (by rw [e3]) (fun p e s m args below meth c s₁ B hml hP => ?_)
    exact core p e s m args below meth c s₁ B hml (vx_table (x := yT a) B (by rw [← e3]; exact atoms_spec (ws := [calWB a]) B.pre _ (List.mem_singleton.mpr rfl))) hP
  · refine vx_ofW (ws' := []) c3 (by rw [calWB_code h3]) (fun p e s m args below meth c s₁ B hml ht hP => ?_)
    refine core p e s m args below meth c s₁ B hml ?_ hP
    have hrh : rhT a = [] := by
      have := List.all_eq_true.mp (show (List.range 334).all (fun k => decide (kdT k = 3 ∨ rhT k = [])) = true by decide +kernel) a (List.mem_range.mpr c1)
      exact (of_decide_eq_true this).resolve_left h3
    rw [hrh]
    exact List.eq_nil_iff_forall_not_mem.mpr fun x hx => ht x hx
