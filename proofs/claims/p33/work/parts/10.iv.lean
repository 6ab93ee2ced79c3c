/-! ===== what holds in every state: tables, constants ===== -/
def aoN : List String := [RX4, "java/lang/Object"]
def strOk (G : Geo) (U : State) : Prop := ∀ c idx k : Nat, (c, idx, k) ∈ strE → ∃ tx, vk_R (ownS c) idx tx (G.2.2.2 k) U
def excN (e : Nat) : String := match e with
  | 30 => "java/lang/IllegalArgumentException"
  | 31 => "java/lang/IllegalStateException"
  | _ => "java/lang/IndexOutOfBoundsException"
def excP : List (String × String) := [(excN 30, excN 31), (excN 30, excN 32), (excN 31, excN 30), (excN 31, excN 32), (excN 32, excN 30), (excN 32, excN 31)]
/-- private methods of AbstractStringBuilder that are called on a StringBuilder -/
def sbPr : List MethodName := []
def Sta (G : Geo) (U : State) (H : Heap) : Prop :=
  (AllW U ∧ va_K G.1 kcl [] U ∧ (∀ k ty, tyK k = some ty → ArrOfT U (G.2.1 k) ty ∧ va_RA U (G.2.1 k) ty) ∧ (∀ C ∈ aoN, va_AO C U) ∧ True ∧ strOk G U ∧ True ∧ True ∧ (∀ q ∈ excP, va_Nc q.1 q.2 U) ∧ va_Mi "[Ljava/lang/Object;" (G.2.2.2 3) U ∧ va_Dc U ∧ ∀ y ∈ sbPr, (Cond.selects "java/lang/StringBuilder" y y).before #[] U = true) ∧
  va_Z "Chipcardhouse" "NUMBERS_OF" "[I" (.ref (G.2.2.2 1)) (frz G) U H ∧ va_Z "java/util/ArrayList" "DEFAULTCAPACITY_EMPTY_ELEMENTDATA" "[Ljava/lang/Object;" (.ref (G.2.2.2 2)) (frz G) U H ∧ va_Z "java/lang/String" "COMPACT_STRINGS" "Z" (.int 1) (frz G) U H ∧
  (arrRep U none (fun _ => 0) (.object "java/lang/Object") [] (G.2.2.2 2) H ∧ G.2.2.2 2 < G.2.2.1 ∧ va_Zq "jdk/internal/util/Preconditions" "SIOOBE_FORMATTER" "Ljava/util/function/BiFunction;" (frz G) U H) ∧ vx_Zq Bundle.tN "UNASSIGNED_STACK" Bundle.steD (frz G) U H ∧ vx_Zq Bundle.tN "SUPPRESSED_SENTINEL" Bundle.listD (frz G) U H
theorem arrRep.moved {u U : State} (hvm : u.vm.Alike U.vm) {cA : Option ClassId} {φ : Nat × Nat → Nat} {ty : FieldType} {vs : List AV} {a : Nat} {H : Heap} (h : arrRep u cA φ ty vs a H) : arrRep U cA φ ty vs a H := by
  obtain ⟨cell, h1, h2, h3⟩ := h
  exact ⟨cell, h1, State.isArrayOf_alike hvm h2, h3⟩
theorem arrRep.kept {U : State} {cA : Option ClassId} {φ : Nat × Nat → Nat} {ty : FieldType} {vs : List AV} {a : Nat} {H H1 : Heap} (h : arrRep U cA φ ty vs a H) (hq : H1[a]? = H[a]?) : arrRep U cA φ ty vs a H1 := by
  obtain ⟨cell, h1, h3⟩ := h
  exact ⟨cell, by rw [hq]; exact h1, h3⟩
theorem cellRep.moved {G : Geo} {u U : State} (hvm : u.vm.Alike U.vm) {φ : Nat × Nat → Nat} {x : OC} {d a : Nat} {H : Heap} (h : cellRep G u φ x d a H) : cellRep G U φ x d a H := by
  unfold cellRep at h ⊢
  split
  · rename_i c; rw [if_pos c] at h; exact h
  · rename_i c; rw [if_neg c] at h
    split
    · trivial
    · rename_i c; rw [if_neg c] at h
      split
      · rename_i c; rw [if_pos c] at h
        obtain ⟨h0, e, h1, h2, h3, h4, h5⟩ := h
        exact ⟨h0, e, va_O.moved hvm h1, va_OF.moved hvm h2, va_OF.moved hvm h3, va_T.moved hvm h4, h5⟩
      · rename_i c; rw [if_neg c] at h
        split
        · rename_i c; rw [if_pos c] at h
          obtain ⟨ty, h1, h2⟩ := h
          exact ⟨ty, h1, h2.moved hvm⟩
        · rename_i c; rw [if_neg c] at h; exact h
theorem Hrel.moved {G : Geo} {u U : State} (hvm : u.vm.Alike U.vm) {φ ψ : Nat × Nat → Nat} {h : Hp} {H : Heap} (R : Hrel G u φ ψ h H) : Hrel G U φ ψ h H := ⟨fun q x e => (R.1 q x e).moved hvm, R.2⟩
theorem Sta.moved {G : Geo} {s U : State} {H : Heap} (hW : s.WarmedH U.vm) (h : Sta G s H) : Sta G U H := by
  obtain ⟨⟨a1, a2, a3, a4, a5, a6, a7, a8, a9, a10, a11, a12⟩, b1, b2, b3, b4, b5, b6⟩ := h
  have hvm := hW.alike
  refine ⟨⟨a1.warm hW, va_K.moved hvm a2, fun k ty e => ⟨arrOfT_moved hvm (a3 k ty e).1, (a3 k ty e).2.moved hvm⟩, fun C hC => va_AO.moved hvm (a4 C hC), a5, fun c idx k e => ?_, a7, a8, fun q hq => va_Nc.moved hvm (a9 q hq), va_Mi.moved hvm a10, va_Dc.moved hvm a11, fun y hy => okW_at rfl hW (a12 y hy)⟩, va_Z.moved hvm b1, va_Z.moved hvm b2, va_Z.moved hvm b3, ⟨b4.1.moved hvm, b4.2.1, b4.2.2.moved hvm⟩, vx_Zq.moved hvm b5, vx_Zq.moved hvm b6⟩
  obtain ⟨tx, e2⟩ := a6 c idx k e
  exact ⟨tx, vk_R.warm hW e2⟩
theorem Sta.kept {G : Geo} {U : State} {H H1 : Heap} (h : Sta G U H) (hq : ∀ a : Nat, a < H.size → ¬ frz G a → H1[a]? = H[a]?) : Sta G U H1 := by
  obtain ⟨a, b1, b2, b3, b4, b5, b6⟩ := h
  refine ⟨a, b1.kept hq, b2.kept hq, b3.kept hq, ⟨?_, b4.2.1, b4.2.2.kept hq⟩, b5.kept hq, b6.kept hq⟩
  obtain ⟨cell, h1, h2⟩ := b4.1
  exact ⟨cell, by rw [hq _ (Array.getElem?_eq_some_iff.mp h1).1 (by have := b4.2.1; unfold frz; omega)]; exact h1, h2⟩
/-! ===== the state of a walk ===== -/
/-- what is fixed in a method's walk: method k of ours -/
def Ctx (G : Geo) (p : Program) (s : State) (m : MethodId) (meth : Method) (c : Code) (k : Nat) : Prop :=
  p.tables.exec = Jvm.exec ∧ c.code = bT k ∧ c.maxLocals = mlT k ∧ s.vm.findClass (ownS (ownC k)) = some m.cls ∧ meth.sig.returnType = rT k ∧ meth.locks = false ∧ (kdT k = 2 → meth.name = "<init>") ∧ Sta G s s.heap
def mapL (φ : Nat × Nat → Nat) (L : LV) : List (Nat × Value) := L.map (fun q => (q.1, vv φ q.2))
/-- the walk's state: locals, the heap, what is counted; φ0, h0: at the method's entry -/
def IV (G : Geo) (s : State) (k : Nat) (φ0 : Nat × Nat → Nat) (h0 : Hp) (φ ψ : Nat × Nat → Nat) (L : LV) (st : List AV) (h : Hp) (H : Heap) (locs : List Loc) (cells slots : Nat) (ls : Array Slot) : Prop :=
  lv_has ls (mlT k) (mapL φ L) ∧ (∀ q ∈ L, clV h q.2) ∧ (∀ v ∈ st, clV h v) ∧ Hrel G s φ ψ h H ∧ (∀ q : Nat × Nat, q.2 < (h0.1 q.1).length → φ q = φ0 q) ∧ (∀ z, (h0.1 z).length ≤ (h.1 z).length) ∧ va_S (frz G) s.heap H locs ∧ cells + h0.2.1 = h.2.1 ∧ slots + h0.2.2 = h.2.2
theorem ldL_mem {i : Nat} {L : LV} {v : AV} (h : ldL i L = some v) : (i, v) ∈ L := by
  induction L with
  | nil => cases h
  | cons q l ih =>
    have h : (match Nat.beq q.1 i with | true => some q.2 | false => ldL i l) = some v := h
    cases hb : Nat.beq q.1 i with
    | true =>
      rw [hb] at h
      cases h
      have := Nat.eq_of_beq_eq_true hb
      subst this
      exact List.mem_cons_self
    | false =>
      rw [hb] at h
      exact List.mem_cons_of_mem _ (ih h)
theorem IV.ld {G : Geo} {s : State} {k : Nat} {φ0 : Nat × Nat → Nat} {h0 : Hp} {φ ψ : Nat × Nat → Nat} {L : LV} {st : List AV} {h : Hp} {H : Heap} {locs : List Loc} {cells slots : Nat} {ls : Array Slot} (I : IV G s k φ0 h0 φ ψ L st h H locs cells slots ls) {i : Nat} {v : AV} (e : ldL i L = some v) : ls[i]? = some (.val (vv φ v)) ∧ clV h v :=
  ⟨I.1.2.2 (i, vv φ v) (List.mem_map.mpr ⟨(i, v), ldL_mem e, rfl⟩), I.2.1 (i, v) (ldL_mem e)⟩
theorem beqN (a b : Nat) : (a == b) = Nat.beq a b := by
  by_cases h : a = b
  · rw [beq_tt h]; exact beq_iff_eq.mpr h
  · rw [beq_ff h]; exact beq_eq_false_iff_ne.mpr h
theorem rm1_map (φ : Nat × Nat → Nat) (i : Nat) (L : LV) : mapL φ (rm1 i L) = (mapL φ L).filter (fun q => !(q.1 == i) && !(q.1 + 1 == i && q.2.category == 2)) := by
  induction L with
  | nil => rfl
  | cons q l ih =>
    have e : rm1 i (q :: l) = (match Nat.beq q.1 i with | true => rm1 i l | false => (match Nat.beq (q.1 + 1) i with | true => (match Nat.beq (catV q.2) 2 with | true => rm1 i l | false => q :: rm1 i l) | false => q :: rm1 i l)) := rfl
    rw [e]
    unfold mapL at ih ⊢
    rw [List.map_cons, List.filter_cons, ← ih]
    dsimp only
    rw [vv_cat, beqN, beqN, beqN]
    cases Nat.beq q.1 i <;> cases Nat.beq (q.1 + 1) i <;> cases Nat.beq (catV q.2) 2 <;> rfl
theorem rm2_map (φ : Nat × Nat → Nat) (i : Nat) (L : LV) : mapL φ (rm2 i L) = (mapL φ L).filter (fun q => !(q.1 == i) && (!(q.1 == i + 1) && !(q.1 + 1 == i && q.2.category == 2))) := by
  induction L with
  | nil => rfl
  | cons q l ih =>
    have e : rm2 i (q :: l) = (match Nat.beq q.1 i with | true => rm2 i l | false => (match Nat.beq q.1 (i + 1) with | true => rm2 i l | false => (match Nat.beq (q.1 + 1) i with | true => (match Nat.beq (catV q.2) 2 with | true => rm2 i l | false => q :: rm2 i l) | false => q :: rm2 i l))) := rfl
    rw [e]
    unfold mapL at ih ⊢
    rw [List.map_cons, List.filter_cons, ← ih]
    dsimp only
    rw [vv_cat, beqN, beqN, beqN, beqN]
    cases Nat.beq q.1 i <;> cases Nat.beq q.1 (i + 1) <;> cases Nat.beq (q.1 + 1) i <;> cases Nat.beq (catV q.2) 2 <;> rfl
theorem rm1_sub (i : Nat) (L : LV) : ∀ q ∈ rm1 i L, q ∈ L := by
  induction L with
  | nil => exact fun q h => h
  | cons a l ih =>
    intro q h
    have h : q ∈ (match Nat.beq a.1 i with | true => rm1 i l | false => (match Nat.beq (a.1 + 1) i with | true => (match Nat.beq (catV a.2) 2 with | true => rm1 i l | false => a :: rm1 i l) | false => a :: rm1 i l)) := h
    cases b1 : Nat.beq a.1 i <;> cases b2 : Nat.beq (a.1 + 1) i <;> cases b3 : Nat.beq (catV a.2) 2 <;> simp only [b1, b2, b3] at h <;> first | exact List.mem_cons_of_mem _ (ih q h) | (rcases List.mem_cons.mp h with e | e; exact e ▸ List.mem_cons_self; exact List.mem_cons_of_mem _ (ih q e))
theorem rm2_sub (i : Nat) (L : LV) : ∀ q ∈ rm2 i L, q ∈ L := by
  induction L with
  | nil => exact fun q h => h
  | cons a l ih =>
    intro q h
    have h : q ∈ (match Nat.beq a.1 i with | true => rm2 i l | false => (match Nat.beq a.1 (i + 1) with | true => rm2 i l | false => (match Nat.beq (a.1 + 1) i with | true => (match Nat.beq (catV a.2) 2 with | true => rm2 i l | false => a :: rm2 i l) | false => a :: rm2 i l))) := h
    cases b1 : Nat.beq a.1 i <;> cases b0 : Nat.beq a.1 (i + 1) <;> cases b2 : Nat.beq (a.1 + 1) i <;> cases b3 : Nat.beq (catV a.2) 2 <;> simp only [b0, b1, b2, b3] at h <;> first | exact List.mem_cons_of_mem _ (ih q h) | (rcases List.mem_cons.mp h with e | e; exact e ▸ List.mem_cons_self; exact List.mem_cons_of_mem _ (ih q e))
theorem pick_has {φ : Nat × Nat → Nat} {ls : Array Slot} {nL : Nat} {L : LV} (h : lv_has ls nL (mapL φ L)) (is : List Nat) : lv_has ls nL (mapL φ (pick is L)) ∧ ∀ q ∈ pick is L, q ∈ L := by
  have hm : ∀ q ∈ pick is L, q ∈ L := by
    induction is with
    | nil => exact fun q h => nomatch h
    | cons i is ih =>
      intro q hq
      have hq : q ∈ (match ldL i L with | some v => (i, v) :: pick is L | none => pick is L) := hq
      cases e : ldL i L with
      | none => rw [e] at hq; exact ih q hq
      | some v =>
        rw [e] at hq
        rcases List.mem_cons.mp hq with z | z
        · rw [z]; exact ldL_mem e
        · exact ih q z
  refine ⟨⟨h.1, h.2.1, fun q hq => ?_⟩, hm⟩
  obtain ⟨x, hx, e⟩ := List.mem_map.mp hq
  exact h.2.2 q (List.mem_map.mpr ⟨x, hm x hx, e⟩)
