/-! ===== the JDK's own methods: contracts over the machine, as walks ===== -/
/-- what a method may write: the old cells of fr, and whatever is new -/
def jA (fr : List Nat) (n : Nat) : Nat → Prop := fun q => q ∈ fr ∨ n ≤ q
/-- a premise that the tables alone decide -/
def jEk (E : State → Prop) : Prop := ∀ u U : State, u.vm.Alike U.vm → E u → E U
def jE0 : State → Prop := fun _ => True
theorem jE0_ok (s : State) : jEk jE0 ∧ jE0 s := ⟨fun _ _ _ _ => trivial, trivial⟩
def jP (G : Geo) (E : State → Prop) (av : List Value) (H : Heap) : Array Value → State → Prop := fun a U => a = av.toArray ∧ U.heap = H ∧ Sta G U U.heap ∧ E U
theorem jP_blind (G : Geo) {E : State → Prop} (hE : jEk E) (av : List Value) (H : Heap) : FrameBlind (jP G E av H) := fun a U g mk q => by
  have w : U.WarmedH (U.calling g mk a).vm := State.WarmedH.refl U
  exact ⟨q.1, q.2.1, Sta.moved w q.2.2.1, hE _ _ w.alike q.2.2.2⟩
def jQ (fr : List Nat) (Q : Option Value → Heap → Prop) : Array Value → State → Outcome → State → Prop := fun _ st o t => ∃ v, o = .returned v ∧ Q v t.heap ∧ va_F (jA fr st.heap.size) st t
/-- a method's contract at a heap H: frames F and locals L are enough for it -/
def JM (l : Launch) (G : Geo) (E : State → Prop) (y : MethodName) (cc : ByteArray) (nL : Nat) (ret : Option FieldType) (F L : Nat) (av : List Value) (fr : List Nat) (H : Heap) (Q : Option Value → Heap → Prop) (mc ms : Nat) : Prop :=
  ∀ rm : Room, F ≤ rm.frames → L ≤ rm.locals → rm.cells = mc → rm.slots = ms → Met l y [.code y cc nL ret] rm (jP G E av H) (jQ fr Q) mc ms (jA fr H.size)
/-- a method's walk: what is fixed in it -/
def JX (G : Geo) (E : State → Prop) (p : Program) (s : State) (m : MethodId) (meth : Method) (c : Code) (own : String) (cc : ByteArray) (nL : Nat) (ret : Option FieldType) : Prop :=
  p.tables.exec = Jvm.exec ∧ c.code = cc ∧ c.maxLocals = nL ∧ s.vm.findClass own = some m.cls ∧ meth.sig.returnType = ret ∧ meth.locks = false ∧ Sta G s s.heap ∧ E s
section JFW
variable {G : Geo} {E : State → Prop} {p : Program} {l : Launch} {e : Env} {R : Room} {s : State} {m : MethodId} {args : Array Value} {below : List Frame} {meth : Method} {c : Code} {Q : State → Prop}
variable {H : Heap} {locs : List Loc} {cells slots : Nat} {ls : Array Slot} {pc : Nat} {own : String} {cc : ByteArray} {nL : Nat} {ret : Option FieldType} {rest : List Value}
theorem jm_of {y : MethodName} {F L : Nat} {av : List Value} {fr : List Nat} {Q : Option Value → Heap → Prop} {mc ms : Nat} (hy : plainName y.cls = true) (hn : (lg_sl av).length ≤ nL)
    (body : ∀ (p : Program) (e : Env) (R : Room) (s : State) (m : MethodId) (args : Array Value) (below : List Frame) (meth : Method) (c : Code) (ls : Array Slot), JX G E p s m meth c y.cls cc nL ret → s.heap = H → lv_has ls nL (lv_args 0 av) → F ≤ R.frames → L ≤ R.locals → R.cells = mc → R.slots = ms →
      W p l e R s m args below meth c s.heap [] 0 0 (MQ below (jQ fr Q) args s mc ms (jA fr H.size)) (F0 m 0 ls [])) : JM l G E y cc nL ret F L av fr H Q mc ms := by
  intro rm h1 h2 h3 h4
  refine Met.ofW (ws' := []) hy rfl (fun p e s m args below meth c s₁ B hml hP => ?_)
  obtain ⟨rfl, hH, hSta, hE⟩ := hP
  have hX : JX G E p s m meth c y.cls cc nL ret := ⟨B.exec, B.bytes, hml, findClass_of_methodNamed B.named, B.returns, B.notSynchronized, hSta, hE⟩
  rw [lg_entry_eq]
  exact body p e rm s m _ below meth c _ hX hH (lv_entry av hn) h1 h2 h3 h4
theorem JX.w (X : JX G E p s m meth c own cc nL ret) {w : Cond} (i : Nat) (h : jw_l[i]? = some w) (hk : okW w = true) : w.before args s = true := X.2.2.2.2.2.2.1.1.1.at args (jw_in w (List.mem_of_getElem? h)) hk
theorem JX.lays (X : JX G E p s m meth c own cc nL ret) {a : Nat} (ha : a < 24) : ∀ w ∈ u_ws (cAt a).1 (cAt a).2.1 (cAt a).2.2, w.before args s = true := fun w hw => X.2.2.2.2.2.2.1.1.1.at args (lay_in a ha w hw) (by obtain ⟨k, -, rfl⟩ := List.mem_map.mp hw; exact okW_lay _ _ _)
/-- the arrays that the JDK's methods work on -/
def jT (G : Geo) : List (ClassId × FieldType) := [(G.2.1 1010, .object "java/lang/Object"), (G.2.1 1003, .byte)]
theorem JX.kn (X : JX G E p s m meth c own cc nL ret) : va_K G.1 kcl (jT G) s := by
  obtain ⟨-, -, -, -, -, -, ⟨⟨-, k, t, -⟩, -⟩, -⟩ := X
  refine ⟨k.1, fun i q hq => ?_⟩
  match i, hq with
  | 0, hq => cases hq; exact t 1010 _ rfl
  | 1, hq => cases hq; exact t 1003 _ rfl
theorem JX.st (X : JX G E p s m meth c own cc nL ret) {A : Nat → Prop} (hS : va_S A s.heap H locs) (hA : ∀ q, A q → frz G q) : Sta G s H := X.2.2.2.2.2.2.1.kept (fun a h1 h2 => hS.2.1 a h1 (fun z => h2 (hA a z)))
theorem jA_frz {G : Geo} {fr : List Nat} {n : Nat} (h1 : ∀ q ∈ fr, G.2.2.1 ≤ q) (h2 : G.2.2.1 ≤ n) : ∀ q, jA fr n q → frz G q := fun q hq => hq.elim (h1 q) (fun z => Nat.le_trans h2 z)
theorem jA_new {fr : List Nat} {n : Nat} : ∀ q, n ≤ q → jA fr n q := fun _ h => Or.inr h
theorem jA_sub {fr fr' : List Nat} {n n' : Nat} (h1 : ∀ q ∈ fr', q ∈ fr ∨ n ≤ q) (h2 : n ≤ n') : ∀ q, jA fr' n' q → jA fr n q := fun q hq => hq.elim (h1 q) (fun z => Or.inr (Nat.le_trans h2 z))
/-- behind a call -/
theorem j_after {As : Array Value} {fr' : List Nat} {Q' : Option Value → Heap → Prop} {mc ms : Nat} {A : Nat → Prop} {st0 : List Value} (hr : va_Run p l e R s m args below meth c H locs cells slots mc ms (F0 m pc ls st0) rest (jQ fr' Q' As) (jA fr' H.size)) (hS : va_S A s.heap H locs) (hA : ∀ q, jA fr' H.size q → A q)
    (kk : ∀ v H1 locs1, Q' v H1 → H.size ≤ H1.size → (∀ q, q < H.size → q ∉ fr' → H1[q]? = H[q]?) → va_S A s.heap H1 locs1 → W p l e R s m args below meth c H1 locs1 (cells + mc) (slots + ms) Q (F0 m (pc + 3) ls (v.toList ++ rest))) : W p l e R s m args below meth c H locs cells slots Q (F0 m pc ls st0) := by
  intro T hT Y
  obtain ⟨v, st₀, t, T', L, f0, Y', hL, e1, e2, ⟨v', g1, g2, g3⟩, go⟩ := hr T hT Y
  cases g1
  unfold va_F at g3
  rw [f0] at g3
  have hk : ∀ q, q < H.size → q ∉ fr' → t.heap[q]? = H[q]? := fun q h1 h2 => g3.2 q h1 (fun z => z.elim h2 (fun y => absurd h1 (Nat.not_lt.mpr y)))
  have hS' : va_S A s.heap t.heap (locs ++ L) := by
    refine ⟨Nat.le_trans hS.1 g3.1, fun q h1 h2 => ?_, fun x hx => ?_⟩
    · rw [g3.2 q (Nat.lt_of_lt_of_le h1 hS.1) (fun z => h2 (hA q z))]
      exact hS.2.1 q h1 h2
    · rcases List.mem_append.mp hx with z | z
      · exact hS.2.2 x z
      · exact hA _ (hL x z)
  obtain ⟨t2, a1, b1⟩ := kk v t.heap (locs ++ L) g2 g3.1 hk hS' T' e1 Y'
  exact ⟨t2, go t2 a1, b1⟩
/-- what any call asks of its callee -/
abbrev jB (y : MethodName) (n : Nat) : Prop := y.cls ≠ "java/lang/invoke/MethodHandle" ∧ y.cls ≠ "java/lang/invoke/VarHandle" ∧ (parseMethodDescriptor y.desc).map (fun d => d.parameters.length) = some n
theorem jB_len {y : MethodName} {n : Nat} (h : jB y n) : ∀ sig, parseMethodDescriptor y.desc = some sig → n = sig.parameters.length := fun sig hs => by
  have := h.2.2
  rw [hs] at this
  exact (Option.some.inj this).symm
theorem jw_pay {w : Cond} (X : JX G E p s m meth c own cc nL ret) (h1 : w ∈ lw_tbl) (h2 : okW w = true) : ∀ w' ∈ [w], ∀ (a' : Array Value) (U : State), s.WarmedH U.vm → w'.before a' U = true := fun w' hw' a' U hW => by
  rw [List.mem_singleton.mp hw']
  exact okW_at (a := #[]) h2 hW (X.2.2.2.2.2.2.1.1.1.at #[] h1 h2)
section CALLS
variable {E' : State → Prop} {y : MethodName} {cc' : ByteArray} {nL' : Nat} {ret' : Option FieldType} {F' L' : Nat} {As : List Value} {fr' : List Nat} {Q' : Option Value → Heap → Prop} {mc ms idx n : Nat} {A : Nat → Prop} {lv : List (Nat × Value)} {b : Nat}
theorem j_fix (X : JX G E p s m meth c own cc nL ret) : CallFix p m c cc nL s args [] own := ⟨X.1, X.2.1, X.2.2.1, X.2.2.2.1, fun w hw => nomatch hw⟩
theorem j_pre {E' : State → Prop} (X : JX G E p s m meth c own cc nL ret) (hE : jEk E' ∧ E' s) (av : List Value) (hS : va_S A s.heap H locs) (hA : ∀ q, A q → frz G q) : FrameBlind (jP G E' av H) ∧ ∀ U : State, U.heap = H → s.WarmedH U.vm → jP G E' av H av.toArray U :=
  ⟨jP_blind G hE.1 av H, fun U hU hW => ⟨rfl, hU, by rw [hU]; exact (X.st hS hA).moved hW, hE.1 _ _ hW.alike hE.2⟩⟩
theorem j_callS (As : List Value) (rest : List Value) (X : JX G E p s m meth c own cc nL ret) (hl : lv_has ls nL lv) (hE : jEk E' ∧ E' s) (hM : JM l G E' y cc' nL' ret' F' L' As fr' H Q' mc ms) (w1 : (Cond.methodLink own idx y).before args s = true) (w2 : (Cond.static y).before args s = true) (w3 : (Cond.initialized y.cls).before args s = true) (w4 : Cond.code y cc' nL' ret' ∈ lw_tbl)
    (hy : jB y As.length) (hR : F' + 1 ≤ R.frames ∧ 8 + (nL' + 11) + L' ≤ R.locals) (hf : cells + mc ≤ R.cells ∧ slots + ms ≤ R.slots) (hW : (rest.map fun v => v.category).sum ≤ 8) (hS : va_S A s.heap H locs) (hA : ∀ q, A q → frz G q) (hA2 : ∀ q, jA fr' H.size q → A q) (hd : decode cc pc = .ok (.invokestatic idx, 3))
    (kk : ∀ v H1 locs1, Q' v H1 → H.size ≤ H1.size → (∀ q, q < H.size → q ∉ fr' → H1[q]? = H[q]?) → va_S A s.heap H1 locs1 → W p l e R s m args below meth c H1 locs1 (cells + mc) (slots + ms) Q (F0 m (pc + 3) ls (v.toList ++ rest))) : W p l e R s m args below meth c H locs cells slots Q (F0 m pc ls (As.reverse ++ rest)) :=
  j_after (va_runS (j_fix X) (hM { frames := F', locals := L', cells := mc, slots := ms } (Nat.le_refl _) (Nat.le_refl _) rfl rfl) ⟨⟨rfl, rfl, hR.1, hR.2, jw_pay X w4 rfl, List.mem_singleton.mpr rfl, X.2.2.2.2.2.2.1.1.1.at args w4 rfl, w3, ⟨hy.1, hy.2.1⟩, jB_len hy, w1⟩, w2⟩ (j_pre X hE As hS hA) rfl rfl hl.1 rfl (lv_room hW) hd hf) hS hA2 kk
theorem j_callV (b : Nat) (As : List Value) (rest : List Value) (X : JX G E p s m meth c own cc nL ret) (hl : lv_has ls nL lv) (hE : jEk E' ∧ E' s) (hM : JM l G E' y cc' nL' ret' F' L' (.ref b :: As) fr' H Q' mc ms) (w1 : (Cond.methodLink own idx y).before args s = true) (w2 : (Cond.instanceMethod y).before args s = true) (w3 : (Cond.initialized y.cls).before args s = true) (w4 : Cond.code y cc' nL' ret' ∈ lw_tbl) {C : String} (w5 : (Cond.selects C y y).before args s = true)
    (hrc : ∃ cellB : Cell, H[b]? = some cellB ∧ cellB.vm.isStatics = false ∧ s.vm.findClass C = some cellB.cls)
    (hy : jB y As.length) (hR : F' + 1 ≤ R.frames ∧ 8 + (nL' + 11) + L' ≤ R.locals) (hf : cells + mc ≤ R.cells ∧ slots + ms ≤ R.slots) (hW : (rest.map fun v => v.category).sum ≤ 8) (hS : va_S A s.heap H locs) (hA : ∀ q, A q → frz G q) (hA2 : ∀ q, jA fr' H.size q → A q) (hd : decode cc pc = .ok (.invokevirtual idx, 3))
    (kk : ∀ v H1 locs1, Q' v H1 → H.size ≤ H1.size → (∀ q, q < H.size → q ∉ fr' → H1[q]? = H[q]?) → va_S A s.heap H1 locs1 → W p l e R s m args below meth c H1 locs1 (cells + mc) (slots + ms) Q (F0 m (pc + 3) ls (v.toList ++ rest))) : W p l e R s m args below meth c H locs cells slots Q (F0 m pc ls (As.reverse ++ .ref b :: rest)) :=
  j_after (va_runV (C := C) (j_fix X) (hM { frames := F', locals := L', cells := mc, slots := ms } (Nat.le_refl _) (Nat.le_refl _) rfl rfl) ⟨⟨rfl, rfl, hR.1, hR.2, jw_pay X w4 rfl, List.mem_singleton.mpr rfl, X.2.2.2.2.2.2.1.1.1.at args w4 rfl, w3, ⟨hy.1, hy.2.1⟩, jB_len hy, w1⟩, w2, w5⟩ ⟨(j_pre X hE (.ref b :: As) hS hA).1, hrc, (j_pre X hE (.ref b :: As) hS hA).2⟩ rfl rfl hl.1 rfl (lv_room hW) hd hf) hS hA2 kk
/-- a method that the receiver's class inherits -/
theorem j_callU (b : Nat) (As : List Value) (rest : List Value) (X : JX G E p s m meth c own cc nL ret) (hl : lv_has ls nL lv) (hE : jEk E' ∧ E' s) (hM : JM l G E' y cc' nL' ret' F' L' (.ref b :: As) fr' H Q' mc ms) (w1 : (Cond.methodLink own idx y).before args s = true) (w2 : (Cond.instanceMethod y).before args s = true) (w3 : (Cond.initialized y.cls).before args s = true) (w4 : Cond.code y cc' nL' ret' ∈ lw_tbl) {C : String} (w5 : (Cond.selects C y y).before args s = true) (w6 : (Cond.sameMethod y.cls y.cls y.name y.desc).before args s = true)
    (hrc : ∃ cellB : Cell, H[b]? = some cellB ∧ cellB.vm.isStatics = false ∧ s.vm.findClass C = some cellB.cls)
    (hy : jB y As.length) (hR : F' + 1 ≤ R.frames ∧ 8 + (nL' + 11) + L' ≤ R.locals) (hf : cells + mc ≤ R.cells ∧ slots + ms ≤ R.slots) (hW : (rest.map fun v => v.category).sum ≤ 8) (hS : va_S A s.heap H locs) (hA : ∀ q, A q → frz G q) (hA2 : ∀ q, jA fr' H.size q → A q) (hd : decode cc pc = .ok (.invokevirtual idx, 3))
    (kk : ∀ v H1 locs1, Q' v H1 → H.size ≤ H1.size → (∀ q, q < H.size → q ∉ fr' → H1[q]? = H[q]?) → va_S A s.heap H1 locs1 → W p l e R s m args below meth c H1 locs1 (cells + mc) (slots + ms) Q (F0 m (pc + 3) ls (v.toList ++ rest))) : W p l e R s m args below meth c H locs cells slots Q (F0 m pc ls (As.reverse ++ .ref b :: rest)) :=
  have hcode := X.2.2.2.2.2.2.1.1.1.at args w4 rfl
  j_after (va_runU (C := C) (owner := y.cls) (x := y) (j_fix X) (hM { frames := F', locals := L', cells := mc, slots := ms } (Nat.le_refl _) (Nat.le_refl _) rfl rfl) ⟨⟨rfl, rfl, hR.1, hR.2, jw_pay X w4 rfl, List.mem_singleton.mpr rfl⟩, hcode, w3, ⟨hy.1, hy.2.1⟩, jB_len hy, w1, w6, va_Decl.of w2 hcode, w5, w2⟩ ⟨(j_pre X hE (.ref b :: As) hS hA).1, hrc, (j_pre X hE (.ref b :: As) hS hA).2⟩ rfl rfl hl.1 rfl (lv_room hW) hd hf) hS hA2 kk
/-- super.y(..) -/
theorem j_callSU (b : Nat) (As : List Value) (rest : List Value) (X : JX G E p s m meth c own cc nL ret) (hl : lv_has ls nL lv) (hE : jEk E' ∧ E' s) (hM : JM l G E' y cc' nL' ret' F' L' (.ref b :: As) fr' H Q' mc ms) (w1 : (Cond.methodLink own idx y).before args s = true) (w2 : (Cond.instanceMethod y).before args s = true) (w3 : (Cond.initialized y.cls).before args s = true) (w4 : Cond.code y cc' nL' ret' ∈ lw_tbl) (w5 : (Cond.superclass own y.cls).before args s = true) (w6 : (Cond.sameMethod y.cls y.cls y.name y.desc).before args s = true) {C : String} {cC : ClassId} (hat : ClassAt s C cC)
    (hrc : ∃ cellB : Cell, H[b]? = some cellB ∧ cellB.vm.isStatics = false ∧ s.vm.findClass C = some cellB.cls)
    (hy : jB y As.length) (hno : y.name ≠ "<init>") (hR : F' + 1 ≤ R.frames ∧ 8 + (nL' + 11) + L' ≤ R.locals) (hf : cells + mc ≤ R.cells ∧ slots + ms ≤ R.slots) (hW : (rest.map fun v => v.category).sum ≤ 8) (hS : va_S A s.heap H locs) (hA : ∀ q, A q → frz G q) (hA2 : ∀ q, jA fr' H.size q → A q) (hd : decode cc pc = .ok (.invokespecial idx, 3))
    (kk : ∀ v H1 locs1, Q' v H1 → H.size ≤ H1.size → (∀ q, q < H.size → q ∉ fr' → H1[q]? = H[q]?) → va_S A s.heap H1 locs1 → W p l e R s m args below meth c H1 locs1 (cells + mc) (slots + ms) Q (F0 m (pc + 3) ls (v.toList ++ rest))) : W p l e R s m args below meth c H locs cells slots Q (F0 m pc ls (As.reverse ++ .ref b :: rest)) :=
  have hcode := X.2.2.2.2.2.2.1.1.1.at args w4 rfl
  j_after (va_runSU (C := C) hat (j_fix X) (hM { frames := F', locals := L', cells := mc, slots := ms } (Nat.le_refl _) (Nat.le_refl _) rfl rfl) ⟨⟨rfl, rfl, hR.1, hR.2, jw_pay X w4 rfl, List.mem_singleton.mpr rfl⟩, w1, w6, w5, w2, w3, hcode, hno, jB_len hy⟩ ⟨(j_pre X hE (.ref b :: As) hS hA).1, hrc, (j_pre X hE (.ref b :: As) hS hA).2⟩ rfl rfl hl.1 rfl (lv_room hW) hd hf) hS hA2 kk
theorem j_callI (b : Nat) (As : List Value) (rest : List Value) (X : JX G E p s m meth c own cc nL ret) (hl : lv_has ls nL lv) (hE : jEk E' ∧ E' s) (hM : JM l G E' y cc' nL' none F' L' (.ref b :: As) fr' H Q' mc ms) (w1 : (Cond.methodLink own idx y).before args s = true) (w2 : (Cond.instanceMethod y).before args s = true) (w3 : (Cond.initialized y.cls).before args s = true) (w4 : Cond.code y cc' nL' none ∈ lw_tbl)
    (hy : jB y As.length) (hin : y.name = "<init>") (hR : F' + 1 ≤ R.frames ∧ 8 + (nL' + 11) + L' ≤ R.locals) (hf : cells + mc ≤ R.cells ∧ slots + ms ≤ R.slots) (hW : (rest.map fun v => v.category).sum ≤ 8) (hS : va_S A s.heap H locs) (hA : ∀ q, A q → frz G q) (hA2 : ∀ q, jA fr' H.size q → A q) (hd : decode cc pc = .ok (.invokespecial idx, 3))
    (kk : ∀ v H1 locs1, Q' v H1 → H.size ≤ H1.size → (∀ q, q < H.size → q ∉ fr' → H1[q]? = H[q]?) → va_S A s.heap H1 locs1 → W p l e R s m args below meth c H1 locs1 (cells + mc) (slots + ms) Q (F0 m (pc + 3) ls (v.toList ++ rest))) : W p l e R s m args below meth c H locs cells slots Q (F0 m pc ls (As.reverse ++ .ref b :: rest)) :=
  j_after (va_runI (j_fix X) (hM { frames := F', locals := L', cells := mc, slots := ms } (Nat.le_refl _) (Nat.le_refl _) rfl rfl) ⟨⟨rfl, rfl, hR.1, hR.2, jw_pay X w4 rfl, List.mem_singleton.mpr rfl, X.2.2.2.2.2.2.1.1.1.at args w4 rfl, w3, ⟨hy.1, hy.2.1⟩, jB_len hy, w1⟩, hin, w2⟩ (j_pre X hE (.ref b :: As) hS hA) rfl rfl hl.1 rfl (lv_room hW) hd hf) hS hA2 kk
end CALLS
/-! ends -/
section ENDS
variable {fr : List Nat} {QQ : Option Value → Heap → Prop}
theorem j_iret {v : Int32} {ty : FieldType} (X : JX G E p s m meth c own cc nL (some ty)) (hn : narrow ty (.int v) = .int v) (hS : va_S (jA fr s.heap.size) s.heap H locs) (hq : QQ (some (.int v)) H) (hd : decode cc pc = .ok (.ireturn, 1)) : W p l e R s m args below meth c H locs cells slots (MQ below (jQ fr QQ) args s cells slots (jA fr s.heap.size)) (F0 m pc ls [.int v]) :=
  W.zret X.1 X.2.1 X.2.2.2.2.1 hn (fun t ht hW => ⟨_, rfl, by rw [ht]; exact hq, hS.F ht⟩) hS.2.2 hd X.2.2.2.2.2.1
theorem j_aret {v : Value} {ty : FieldType} (X : JX G E p s m meth c own cc nL (some ty)) (hrt : (∃ n, ty = .object n) ∨ ∃ t, ty = .array t) (hv : v = .null ∨ ∃ a, v = .ref a) (hS : va_S (jA fr s.heap.size) s.heap H locs) (hq : QQ (some v) H) (hd : decode cc pc = .ok (.areturn, 1)) : W p l e R s m args below meth c H locs cells slots (MQ below (jQ fr QQ) args s cells slots (jA fr s.heap.size)) (F0 m pc ls [v]) :=
  W.aret X.1 X.2.1 X.2.2.2.2.1 hrt hv (fun t ht hW => ⟨_, rfl, by rw [ht]; exact hq, hS.F ht⟩) hS.2.2 hd X.2.2.2.2.2.1
theorem j_vret (X : JX G E p s m meth c own cc nL none) (hS : va_S (jA fr s.heap.size) s.heap H locs) (hq : QQ none H) (hd : decode cc pc = .ok (.return_, 1)) : W p l e R s m args below meth c H locs cells slots (MQ below (jQ fr QQ) args s cells slots (jA fr s.heap.size)) (F0 m pc ls []) :=
  W.vret X.1 X.2.1 X.2.2.2.2.1 (fun t ht hW => ⟨_, rfl, by rw [ht]; exact hq, hS.F ht⟩) hS.2.2 hd X.2.2.2.2.2.1
end ENDS
/-! steps -/
theorem j_top {x y : Int32} (e1 : x = y) (kk : W p l e R s m args below meth c H locs cells slots Q (F0 m pc ls (.int y :: rest))) : W p l e R s m args below meth c H locs cells slots Q (F0 m pc ls (.int x :: rest)) := e1 ▸ kk
theorem j_aload {k : Fin 4} {i : Nat} {v : Value} (X : JX G E p s m meth c own cc nL ret) (hv : v = .null ∨ ∃ q, v = .ref q) (hd : decode cc pc = .ok (.aload_n k, 1)) (hi : (k : Nat) = i) (hl : ls[i]? = some (.val v))
    (kk : W p l e R s m args below meth c H locs cells slots Q (F0 m (pc + 1) ls (v :: rest))) : W p l e R s m args below meth c H locs cells slots Q (F0 m pc ls rest) := by
  rcases hv with rfl | ⟨q, rfl⟩
  · exact lv_aload_nN X.1 X.2.1 hd hi hl kk
  · exact lv_aload_n X.1 X.2.1 hd hi hl kk
theorem j_astore {k : Fin 4} {i : Nat} {v : Value} {lv lv' : List (Nat × Value)} (X : JX G E p s m meth c own cc nL ret) (hv : v = .null ∨ ∃ q, v = .ref q) (hd : decode cc pc = .ok (.astore_n k, 1)) (hi : (k : Nat) = i) (h : lv_has ls nL lv) (hn : i < nL) (hl : (i, v) :: lv.filter (fun q => !(q.1 == i) && !(q.1 + 1 == i && q.2.category == 2)) = lv')
    (kk : ∀ ls' : Array Slot, lv_has ls' nL lv' → W p l e R s m args below meth c H locs cells slots Q (F0 m (pc + 1) ls' rest)) : W p l e R s m args below meth c H locs cells slots Q (F0 m pc ls (v :: rest)) := by
  rcases hv with rfl | ⟨q, rfl⟩
  · exact lv_astore_nN X.1 X.2.1 hd hi h hn hl kk
  · exact lv_astore_n X.1 X.2.1 hd hi h hn hl kk
theorem j_rf (o : Option Nat) : va_rf o = .null ∨ ∃ q, va_rf o = .ref q := by
  cases o with
  | none => exact Or.inl rfl
  | some q => exact Or.inr ⟨q, rfl⟩
theorem j_get {ci : Nat} {ws : va_W} {a q0 idx k : Nat} {fs : List Value} {v : Value} {ref : String} (X : JX G E p s m meth c own cc nL ret) (hP : va_P G.1 kcl ws H) (he : ws[q0]? = some (a, .inr (ci, fs))) (hci : ci < 24) (hk : k < (cAt ci).2.2) (w : (Cond.fieldLink own idx ref ((cAt ci).2.1 k).2.1 ((cAt ci).2.1 k).2.2.1).before args s = true) (hsame : ∀ x, s.fieldFound? ((cAt ci).2.1 k).1 ((cAt ci).2.1 k).2.1 ((cAt ci).2.1 k).2.2.1 = some x → s.fieldFound? ref ((cAt ci).2.1 k).2.1 ((cAt ci).2.1 k).2.2.1 = some x) (hv : fs[k]? = some v) (hd : decode cc pc = .ok (.getfield idx, 3))
    (kk : W p l e R s m args below meth c H locs cells slots Q (F0 m (pc + 3) ls (v :: rest))) : W p l e R s m args below meth c H locs cells slots Q (F0 m pc ls (.ref a :: rest)) :=
  va_get X.1 X.2.1 (X.lays hci) (fun w hw => hw) X.2.2.2.1 X.kn hP q0 he (kcl_at hci) k hk w hsame hv hd kk
theorem j_put {ci : Nat} {ws : va_W} {a q0 idx k : Nat} {fs : List Value} {v : Value} {ref : String} {A : Nat → Prop} (X : JX G E p s m meth c own cc nL ret) (hP : va_P G.1 kcl ws H) (hD : va_D A ws) (hS : va_S A s.heap H locs) (he : ws[q0]? = some (a, .inr (ci, fs))) (hci : ci < 24) (hk : k < (cAt ci).2.2) (w : (Cond.fieldLink own idx ref ((cAt ci).2.1 k).2.1 ((cAt ci).2.1 k).2.2.1).before args s = true) (hsame : ∀ x, s.fieldFound? ((cAt ci).2.1 k).1 ((cAt ci).2.1 k).2.1 ((cAt ci).2.1 k).2.2.1 = some x → s.fieldFound? ref ((cAt ci).2.1 k).2.1 ((cAt ci).2.1 k).2.2.1 = some x) (hfin : ((cAt ci).2.1 k).2.2.2 = false) (hn : narrow (tyA ci k) v = v) (hfit : fits (tyA ci k) v = true) (hl : k < fs.length) (hd : decode cc pc = .ok (.putfield idx, 3))
    (kk : ∀ (H1 : Heap) (locs1 : List Loc), va_P G.1 kcl (ws.set q0 (a, .inr (ci, fs.set k v))) H1 → va_D A (ws.set q0 (a, .inr (ci, fs.set k v))) → va_S A s.heap H1 locs1 → W p l e R s m args below meth c H1 locs1 cells slots Q (F0 m (pc + 3) ls rest)) : W p l e R s m args below meth c H locs cells slots Q (F0 m pc ls (v :: .ref a :: rest)) :=
  va_put X.1 X.2.1 (X.lays hci) (fun w hw => hw) (tyA ci) (hty_at ci hci) (hnm_at ci hci) X.2.2.2.1 X.kn hP hD hS q0 he (kcl_at hci) k hk w hsame hfin (hty_at ci hci k hk) hn hfit hl hd kk
/-- the receiver's cell -/
theorem j_rc {ci : Nat} {ws : va_W} {a q0 : Nat} {fs : List Value} (X : JX G E p s m meth c own cc nL ret) (hP : va_P G.1 kcl ws H) (he : ws[q0]? = some (a, .inr (ci, fs))) (hci : ci < 24) : ∃ cellB : Cell, H[a]? = some cellB ∧ cellB.vm.isStatics = false ∧ s.vm.findClass (cAt ci).1 = some cellB.cls := va_recv X.kn hP (kcl_at hci) he
theorem j_P2 {D : va_G} {cl : List vw_C} {x y : Nat × va_E} (h1 : va_at D cl x H) (h2 : va_at D cl y H) : va_P D cl [x, y] H := by
  intro k q hq
  match k, hq with
  | 0, hq => cases hq; exact h1
  | 1, hq => cases hq; exact h2
theorem j_P1 {D : va_G} {cl : List vw_C} {x : Nat × va_E} (h1 : va_at D cl x H) : va_P D cl [x] H := by
  intro k q hq
  match k, hq with
  | 0, hq => cases hq; exact h1
theorem j_D2 {A : Nat → Prop} {x y : Nat × va_E} (h : x.1 ≠ y.1) (h1 : A x.1) (h2 : A y.1) : va_D A [x, y] := by
  refine ⟨fun i j p q hp hq hpq => ?_, fun k q hq => ?_⟩
  · match i, j, hp, hq with
    | 0, 0, _, _ => rfl
    | 1, 1, _, _ => rfl
    | 0, 1, hp, hq => cases hp; cases hq; exact absurd hpq h
    | 1, 0, hp, hq => cases hp; cases hq; exact absurd hpq.symm h
  · match k, hq with
    | 0, hq => cases hq; exact h1
    | 1, hq => cases hq; exact h2
theorem j_D1 {A : Nat → Prop} {x : Nat × va_E} (h1 : A x.1) : va_D A [x] := by
  refine ⟨fun i j p q hp hq hpq => ?_, fun k q hq => ?_⟩
  · match i, j, hp, hq with
    | 0, 0, _, _ => rfl
  · match k, hq with
    | 0, hq => cases hq; exact h1
theorem j_cs {A : Nat → Prop} {idx : Nat} (X : JX G E p s m meth c own cc nL ret) (hA : ∀ q, A q → frz G q) (hS : va_S A s.heap H locs) (w : (Cond.fieldLink own idx "java/lang/String" "COMPACT_STRINGS" "Z").before args s = true) (hd : decode cc pc = .ok (.getstatic idx, 3))
    (kk : W p l e R s m args below meth c H locs cells slots Q (F0 m (pc + 3) ls (.int 1 :: rest))) : W p l e R s m args below meth c H locs cells slots Q (F0 m pc ls rest) :=
  va_gets X.1 X.2.1 (va_Z.narrow X.2.2.2.2.2.2.1.2.2.2.1 hA) hS X.2.2.2.1 w (fun _ z => z) hd kk
theorem j_sio {A : Nat → Prop} {idx : Nat} (X : JX G E p s m meth c own cc nL ret) (hA : ∀ q, A q → frz G q) (hS : va_S A s.heap H locs) (w : (Cond.fieldLink own idx "jdk/internal/util/Preconditions" "SIOOBE_FORMATTER" "Ljava/util/function/BiFunction;").before args s = true) (hd : decode cc pc = .ok (.getstatic idx, 3))
    (kk : ∀ v : Value, (v = .null ∨ ∃ q, v = .ref q) → W p l e R s m args below meth c H locs cells slots Q (F0 m (pc + 3) ls (v :: rest))) : W p l e R s m args below meth c H locs cells slots Q (F0 m pc ls rest) := by
  rcases X.2.2.2.2.2.2.1.2.2.2.2.1.2.2 with z | ⟨t, z⟩
  · exact va_gets X.1 X.2.1 (va_Z.narrow z hA) hS X.2.2.2.1 w (fun _ z => z) hd (kk _ (Or.inl rfl))
  · exact va_gets X.1 X.2.1 (va_Z.narrow z hA) hS X.2.2.2.1 w (fun _ z => z) hd (kk _ (Or.inr ⟨_, rfl⟩))
theorem j_max {lv : List (Nat × Value)} {idx : Nat} {x y z : Int32} (X : JX G E p s m meth c own cc nL ret) (hl : lv_has ls nL lv) (w1 : (Cond.methodLink own idx Lib.Math.max.name).before args s = true) (w2 : (Cond.static Lib.Math.max.name).before args s = true) (w3 : (Cond.initialized "java/lang/Math").before args s = true) (w4 : (Cond.code Lib.Math.max.name Lib.Math.max.code 2 (some .int)).before args s = true) (hR : 1 ≤ R.frames ∧ (rest.map fun v => v.category).sum + 13 ≤ R.locals) (hf : cells ≤ R.cells ∧ slots ≤ R.slots) (hz : (if x < y then y else x) = z) (hd : decode cc pc = .ok (.invokestatic idx, 3))
    (kk : W p l e R s m args below meth c H locs cells slots Q (F0 m (pc + 3) ls (.int z :: rest))) : W p l e R s m args below meth c H locs cells slots Q (F0 m pc ls (.int y :: .int x :: rest)) :=
  va_mmax X.1 X.2.1 (by rw [hl.1]; exact X.2.2.1) X.2.2.2.1 w1 w2 w3 w4 hR.1 hR.2 hf.1 hf.2 hd (by rw [hz]; exact kk)
theorem j_min {lv : List (Nat × Value)} {idx : Nat} {x y z : Int32} (X : JX G E p s m meth c own cc nL ret) (hl : lv_has ls nL lv) (w1 : (Cond.methodLink own idx Lib.Math.min.name).before args s = true) (w2 : (Cond.static Lib.Math.min.name).before args s = true) (w3 : (Cond.initialized "java/lang/Math").before args s = true) (w4 : (Cond.code Lib.Math.min.name Lib.Math.min.code 2 (some .int)).before args s = true) (hR : 1 ≤ R.frames ∧ (rest.map fun v => v.category).sum + 13 ≤ R.locals) (hf : cells ≤ R.cells ∧ slots ≤ R.slots) (hz : (if y < x then y else x) = z) (hd : decode cc pc = .ok (.invokestatic idx, 3))
    (kk : W p l e R s m args below meth c H locs cells slots Q (F0 m (pc + 3) ls (.int z :: rest))) : W p l e R s m args below meth c H locs cells slots Q (F0 m pc ls (.int y :: .int x :: rest)) :=
  va_mmin X.1 X.2.1 (by rw [hl.1]; exact X.2.2.1) X.2.2.2.1 w1 w2 w3 w4 hR.1 hR.2 hf.1 hf.2 hd (by rw [hz]; exact kk)
end JFW
