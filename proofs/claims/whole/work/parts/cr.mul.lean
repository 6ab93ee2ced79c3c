/-! ===== an array of arrays, made at once: the model's own steps ===== -/
/-- a row; the outer array (it lies at a) when i rows are laid into it; the state then -/
def mRow (c : ClassId) (k : Nat) (v : Value) : Cell := { cls := c, slots := Array.replicate k v, vm := .none }
def mOut (c : ClassId) (n a : Nat) : Nat → Cell
  | 0 => { cls := c, slots := Array.replicate n .null, vm := .none }
  | i + 1 => (mOut c n a i).setSlot i (.ref (a + 1 + i))
def mFill (V : State) (cO cR : ClassId) (n k : Nat) (v : Value) : Nat → State
  | 0 => V.pushCell (mOut cO n V.heap.size 0)
  | i + 1 => ((mFill V cO cR n k v i).pushCell (mRow cR k v)).setCell V.heap.size (mOut cO n V.heap.size (i + 1))
theorem mOut_facts (c : ClassId) (n a i : Nat) : (mOut c n a i).cls = c ∧ (mOut c n a i).vm = .none ∧ (mOut c n a i).slots.size = n := by
  induction i with
  | zero => exact ⟨rfl, rfl, Array.size_replicate⟩
  | succ i ih =>
    refine ⟨ih.1, ih.2.1, ?_⟩
    show ((mOut c n a i).slots.setIfInBounds _ _).size = n
    rw [Array.size_setIfInBounds]
    exact ih.2.2
theorem mFill_facts (V : State) (cO cR : ClassId) (n k : Nat) (v : Value) (i : Nat) : (mFill V cO cR n k v i).heap.size = V.heap.size + 1 + i ∧ (mFill V cO cR n k v i).heap[V.heap.size]? = some (mOut cO n V.heap.size i) ∧ (mFill V cO cR n k v i).vm = V.vm ∧ (mFill V cO cR n k v i).slotsUsed = V.slotsUsed + n + i * k := by
  induction i with
  | zero =>
    refine ⟨?_, ?_, rfl, ?_⟩
    · simp [mFill]
    · simp [mFill]
    · simp [mFill, mOut]
  | succ i ih =>
    obtain ⟨h1, h2, h3, h4⟩ := ih
    have lt : V.heap.size < (mFill V cO cR n k v i).heap.size := by omega
    have keep : ((mFill V cO cR n k v i).pushCell (mRow cR k v)).heap[V.heap.size]? = some (mOut cO n V.heap.size i) := by
      rw [State.heap_pushCell_of_lt (h := lt)]
      exact h2
    refine ⟨?_, State.heap_setCell_self keep, ?_, ?_⟩
    · simp [mFill, State.setCell, h1]
      omega
    · simp [mFill, h3]
    · simp [mFill, h4, mRow, Nat.succ_mul]
      omega
theorem mFill_top (V : State) (f : JFrame) (cO cR : ClassId) (n k : Nat) (v : Value) (i : Nat) : mFill (V.setTop f) cO cR n k v i = (mFill V cO cR n k v i).setTop f := by
  induction i with
  | zero => rfl
  | succ i ih => simp only [mFill, ih, State.heap_setTop, State.pushCell_setTop, State.setCell_setTop]
theorem ref_fits {t : FieldType} (h : t.isReference = true) : fits t .null = true ∧ ∀ a, fits t (.ref a) = true := by
  cases t <;> first | exact ⟨rfl, fun _ => rfl⟩ | exact absurd h (by decide)
/-- the model's loop over the rows -/
theorem mul_wp {E : CtlPost} {e : Env} {d : Bool} {acts : List Action} {V : State} {cO cR cc : ClassId} {kO kR : Class} {t0 ty : FieldType} {n k : Int32} (hO : V.vm.classes[cO]? = some kO) (hO2 : kO.kind = .array cR t0) (href : t0.isReference = true)
    (hR : V.vm.classes[cR]? = some kR) (hR2 : kR.kind = .array cc ty) (hn : ¬ n < 0) (hk : ¬ k < 0) (l1 : ¬ n.toNatClampNeg > e.platform.arrayLengthLimit) (b1 : ¬ n.toNatClampNeg * componentBytes t0 > e.platform.maxHeapBytes)
    (l2 : ¬ k.toNatClampNeg > e.platform.arrayLengthLimit) (b2 : ¬ k.toNatClampNeg * componentBytes ty > e.platform.maxHeapBytes) (hf : fits ty (defaultValue ty) = true)
    (hc : V.heap.size + 1 + n.toNatClampNeg ≤ e.platform.maxCells) (hs : V.slotsUsed + n.toNatClampNeg + n.toNatClampNeg * k.toNatClampNeg ≤ e.platform.maxSlots) {Q : Addr → Pre}
    (hq : ∀ d' acts', Q V.heap.size d' acts' (mFill V cO cR n.toNatClampNeg k.toNatClampNeg (defaultValue ty) n.toNatClampNeg)) : wp (multianewarray.make cO [n, k]) Q E e d acts V := by
  have none_neg : ([k].find? (· < 0)) = none := by simp [hk]
  have row : ∀ {d acts} {V2 : State} {Q' : Addr → Pre}, V2.vm = V.vm → V2.heap.size < e.platform.maxCells → V2.slotsUsed + k.toNatClampNeg ≤ e.platform.maxSlots → (∀ acts', Q' V2.heap.size d acts' (V2.pushCell (mRow cR k.toNatClampNeg (defaultValue ty)))) → wp (multianewarray.make cR [k]) Q' E e d acts V2 := by
    intro d acts V2 Q' hv h1 h2 hq'
    rw [multianewarray.make]
    simp only [wp_bind', W.ite, hk, if_false, wp_pure', W.theClass, hv, hR, hR2, Option.some.injEq, exists_eq_left']
    exact W.newArray_of (by rw [hv]; exact hR) hR2 l2 b2 h1 h2 hf hq'
  rw [multianewarray.make]
  simp only [wp_bind', W.ite, hn, if_false, wp_pure', W.theClass, hO, hO2, Option.some.injEq, exists_eq_left']
  have z := Nat.zero_le (n.toNatClampNeg * k.toNatClampNeg)
  refine W.newArray_of hO hO2 l1 b1 (by omega) (by omega) (ref_fits href).1 (fun acts0 => ?_)
  simp only [none_neg]
  rw [ite_self, wp_bind', Std.Legacy.Range.forIn_eq_forIn_range', show ([:n.toNatClampNeg] : Std.Legacy.Range).size = n.toNatClampNeg by simp [Std.Legacy.Range.size]]
  show wp (forIn (List.range' 0 n.toNatClampNeg 1) PUnit.unit _) _ E e d acts0 _
  refine wp_forIn_inv (fun todo V2 => ∃ i, i ≤ n.toNatClampNeg ∧ todo = List.range' i (n.toNatClampNeg - i) ∧ V2 = mFill V cO cR n.toNatClampNeg k.toNatClampNeg (defaultValue ty) i) _ _ ⟨0, Nat.zero_le _, rfl, rfl⟩ ?_ ?_
  · rintro x todo V2 d' acts' Q' ⟨i, hi, hl, rfl⟩ next
    have lt : i < n.toNatClampNeg := by
      refine Nat.lt_of_le_of_ne hi (fun h => ?_)
      rw [h, Nat.sub_self] at hl
      cases hl
    rw [show n.toNatClampNeg - i = (n.toNatClampNeg - (i + 1)) + 1 by omega, List.range'_succ] at hl
    injection hl with hx ht
    subst hx
    obtain ⟨f1, f2, f3, f4⟩ := mFill_facts V cO cR n.toNatClampNeg k.toNatClampNeg (defaultValue ty) x
    obtain ⟨o1, o2, o3⟩ := mOut_facts cO n.toNatClampNeg V.heap.size x
    have room : x * k.toNatClampNeg + k.toNatClampNeg ≤ n.toNatClampNeg * k.toNatClampNeg := by
      rw [← Nat.succ_mul]
      exact Nat.mul_le_mul_right _ lt
    simp only [wp_bind']
    refine row f3 (by rw [f1]; omega) (by rw [f4]; omega) (fun acts2 => ?_)
    have lt0 : V.heap.size < (mFill V cO cR n.toNatClampNeg k.toNatClampNeg (defaultValue ty) x).heap.size := by rw [f1]; omega
    simp only [wp_bind', W.writeLoc, wp_pure']
    refine ⟨mOut cO n.toNatClampNeg V.heap.size x, by rw [State.heap_pushCell_of_lt (h := lt0)]; exact f2, by rw [o2]; simp, by rw [o3]; exact lt, ?_, next _ _ _ ⟨x + 1, lt, ht, ?_⟩⟩
    · rw [o1, o2]
      simp [State.fitsSlot, State.slotType?, f3, hO, hO2, (ref_fits href).2]
    · rw [f1]
      rfl
  · rintro V2 d' acts' ⟨i, hi, hl, rfl⟩
    have e : i = n.toNatClampNeg := by
      refine Nat.le_antisymm hi (Nat.le_of_not_lt (fun lt => ?_))
      rw [show n.toNatClampNeg - i = (n.toNatClampNeg - (i + 1)) + 1 by omega, List.range'_succ] at hl
      cases hl
    subst e
    simp only [wp_pure']
    exact hq _ _
section MUL0
variable {p : Program} {l : Launch} {e : Env} {R : Room} {s : State} {m : MethodId} {args : Array Value} {below : List Frame} {meth : Method} {c : Code} {T : State} {locs : List Loc} {cells slots : Nat}
theorem mul_stand (X : Stand p l e R s m args below meth c T locs cells slots) (cO cR : ClassId) (n k : Nat) (v : Value) (i : Nat) : Stand p l e R s m args below meth c (mFill T cO cR n k v i) (locs ++ (List.range i).map (fun j => ⟨T.heap.size, j⟩)) (cells + 1 + i) (slots + n + i * k) := by
  induction i with
  | zero =>
    have h := X.pushed (mOut cO n T.heap.size 0)
    rw [(mOut_facts cO n T.heap.size 0).2.2] at h
    simpa [mFill] using h
  | succ i ih =>
    obtain ⟨f1, f2, -, -⟩ := mFill_facts T cO cR n k v i
    have lt : T.heap.size < (mFill T cO cR n k v i).heap.size := by rw [f1]; omega
    have hc : ((mFill T cO cR n k v i).pushCell (mRow cR k v)).heap[T.heap.size]? = some (mOut cO n T.heap.size i) := by
      rw [State.heap_pushCell_of_lt (h := lt)]
      exact f2
    have h := (ih.pushed (mRow cR k v)).stored hc i (.ref (T.heap.size + 1 + i))
    rw [show (mRow cR k v).slots.size = k by simp [mRow]] at h
    rw [show slots + n + (i + 1) * k = slots + n + i * k + k by rw [Nat.succ_mul]; omega, List.range_succ, List.map_append, ← List.append_assoc]
    exact h
theorem mul_two (X : Stand p l e R s m args below meth c T locs cells slots) (hexec : p.tables.exec = Jvm.exec) {own : String} {index : Nat} {ty : FieldType} (hown : s.vm.findClass own = some m.cls)
    (hlink : (Cond.classLink own index ("[" ++ (FieldType.array ty).toString)).before args s = true) (hover : (Cond.arrayOver (.array ty)).before args s = true) (harr : (Cond.arrayClass ty).before args s = true)
    {g : JFrame} (hg : g.method = m) (hdg : decode c.code g.pc = .ok (.multianewarray index 2, 4)) {n k : Int32} {rest : List Value} (hstack : g.stack = .int k :: .int n :: rest) (hn : ¬ n < 0) (hk : ¬ k < 0)
    (b1 : n.toNatClampNeg * 4 ≤ 536870912) (b2 : k.toNatClampNeg * componentBytes ty ≤ 536870912) (b3 : k.toNatClampNeg ≤ 536870912) (hf : fits ty (defaultValue ty) = true)
    (hcells : cells + (1 + n.toNatClampNeg) ≤ R.cells) (hslots : slots + (n.toNatClampNeg + n.toNatClampNeg * k.toNatClampNeg) ≤ R.slots) :
    ∃ (V1 : Vm) (cO cR : ClassId), s.WarmedH V1 ∧ s.vm.findClass ("[" ++ (FieldType.array ty).toString) = some cO ∧ s.vm.findClass (FieldType.array ty).toString = some cR ∧
      (∀ N a i, s.isArrayOf (mOut cO N a i) (.array ty) ∧ (mOut cO N a i).vm ≠ .unknown) ∧ (∀ M v, s.isArrayOf (mRow cR M v) ty ∧ (mRow cR M v).vm ≠ .unknown) ∧
      Stand p l e R s m args below meth c (mFill (T.setVm V1) cO cR n.toNatClampNeg k.toNatClampNeg (defaultValue ty) n.toNatClampNeg) locs (cells + 1 + n.toNatClampNeg) (slots + n.toNatClampNeg + n.toNatClampNeg * k.toNatClampNeg) ∧
      ∀ target, Steps p.tables e below ((mFill (T.setVm V1) cO cR n.toNatClampNeg k.toNatClampNeg (defaultValue ty) n.toNatClampNeg).setTop { g with pc := g.pc + 4, stack := .ref T.heap.size :: rest }) target → Steps p.tables e below (T.setTop g) target := by
  subst hg
  obtain ⟨cR, cO, kO, hcR, -, hkO, hO2, hnO⟩ := arrayOverA_spec (args := args) (first := s) (o := none) (idx := []) hover
  obtain ⟨cR', kR, cc, hcR', hkR, hR2⟩ := Cond.arrayClass_spec (args := args) (first := s) (o := none) (s := s) (idx := []) harr
  have eR : cR' = cR := Option.some.inj (hcR'.symm.trans hcR)
  subst eR
  obtain ⟨c0, hc0, hcl⟩ := Cond.classLink_spec hown hlink e.platform (by rw [X.admits.platform])
  cases hnO.symm.trans hc0
  obtain ⟨hg1, hwarm, -⟩ := State.classEntry (e := e) X.warmed hcl
  generalize T.vm.noted g.method.cls index (.cls cO) = V1 at hg1 hwarm
  obtain ⟨kO1, hkO1, eO⟩ := hwarm.alike.2.2 _ _ hkO
  obtain ⟨kR1, hkR1, eR1⟩ := hwarm.alike.2.2 _ _ hkR
  have X1 := X.noted hwarm
  obtain ⟨r1, r2⟩ := X.roomAbove hcells hslots
  have XF := mul_stand X1 cO cR' n.toNatClampNeg k.toNatClampNeg (defaultValue ty) n.toNatClampNeg
  refine ⟨V1, cO, cR', hwarm, hnO, hcR, fun N a i => ?_, fun M v => ⟨⟨fun x => by simp [mRow], kR, hkR, cc, hR2⟩, by simp [mRow]⟩, XF.dropFresh (fun x hx => ?_), fun target hrest => ?_⟩
  · obtain ⟨o1, o2, -⟩ := mOut_facts cO N a i
    exact ⟨⟨fun x => by rw [o2]; simp, kO, by rw [o1]; exact hkO, cR', hO2⟩, by rw [o2]; simp⟩
  · obtain ⟨j, -, rfl⟩ := List.mem_map.mp hx
    exact X.heapGrown
  · have l1 : ¬ n.toNatClampNeg > e.platform.arrayLengthLimit := by rw [Launch.admits_arrayLengthLimit X.admits]; omega
    have h1 : ¬ n.toNatClampNeg * componentBytes (.array ty) > e.platform.maxHeapBytes := by
      rw [Launch.admits_maxHeapBytes X.admits]
      show ¬ n.toNatClampNeg * 4 > 536870912
      omega
    have l2 : ¬ k.toNatClampNeg > e.platform.arrayLengthLimit := by rw [Launch.admits_arrayLengthLimit X.admits]; omega
    have h2 : ¬ k.toNatClampNeg * componentBytes ty > e.platform.maxHeapBytes := by rw [Launch.admits_maxHeapBytes X.admits]; omega
    jvm_step X.here [hexec, hdg]
    simp only [multianewarray.sem, wp_bind', W.resolveClassAt_links (State.method?_setTop g X.here.top) hg1]
    rw [W.popN, if_neg (by decide)]
    refine ⟨g, State.topJava?_setTop' (s := T.setVm V1) g X.here.top, [.int n, .int k], rest, rfl, hstack, ?_⟩
    simp only [List.mapM_cons, List.mapM_nil, wp_bind', wp_pure']
    refine mul_wp (kO := kO1) (kR := kR1) (cR := cR') (cc := cc) (t0 := .array ty) (ty := ty) hkO1 (by rw [eO]; exact hO2) rfl hkR1 (by rw [eR1]; exact hR2) hn hk l1 h1 l2 h2 hf (by show T.heap.size + 1 + _ ≤ _; omega) (by show T.slotsUsed + _ + _ ≤ _; omega) (fun d' acts' => ?_)
    rw [show ((T.setTop g).setVm V1).setTop { g with stack := rest } = (T.setVm V1).setTop { g with stack := rest } by
      show ((T.setVm V1).setTop g).setTop _ = _
      rw [State.setTop_setTop], mFill_top]
    simp only [wp_bind', W.mark, W.pushRef, State.topJava?_setTop' _ XF.here.top, Option.some.injEq, exists_eq_left', State.setTop_setTop, State.heap_setTop]
    intro acts2
    simp [jvm, XF.here.top]
    exact hrest
end MUL0
/-! ===== the one array of arrays ===== -/
def mst (h : Hp) (n k i : Nat) : Hp := (fun s => match Nat.beq s 59 with
  | true => h.1 s ++ [(1900, (List.range i).map (fun j => aR (some (60, (h.1 60).length + j))) ++ List.replicate (n - i) (aR none))]
  | false => match Nat.beq s 60 with | true => h.1 s ++ List.replicate i (1002, List.replicate k (aI 0)) | false => h.1 s, h.2.1 + 1 + i, h.2.2 + n + i * k)
theorem mst_end (h : Hp) (n k : Nat) : mst h n k n = nmu h 59 1900 1002 n k := by
  unfold mst nmu
  refine Prod.ext (funext fun s => ?_) (Prod.ext ?_ ?_)
  · dsimp only
    rw [Nat.sub_self, List.replicate_zero, List.append_nil]
    rfl
  · dsimp only; omega
  · dsimp only; omega
theorem set_at {α : Type} (l : List α) (x : α) (y : α) : (l ++ [x]).set l.length y = l ++ [y] := by
  rw [List.set_append_right _ _ (Nat.le_refl _), Nat.sub_self]
  rfl
theorem mst_step (h : Hp) (n k i : Nat) (hi : i < n) : hS (hN (mst h n k i) 60 (1002, List.replicate k (aI 0)) k) (59, (h.1 59).length) (1900, ((List.range i).map (fun j => aR (some (60, (h.1 60).length + j))) ++ List.replicate (n - i) (aR none)).set i (aR (some (60, (h.1 60).length + i)))) = mst h n k (i + 1) := by
  have hset : ((List.range i).map (fun j => aR (some (60, (h.1 60).length + j))) ++ List.replicate (n - i) (aR none)).set i (aR (some (60, (h.1 60).length + i))) = (List.range (i + 1)).map (fun j => aR (some (60, (h.1 60).length + j))) ++ List.replicate (n - (i + 1)) (aR none) := by
    rw [List.set_append_right _ _ (by simp), List.length_map, List.length_range, Nat.sub_self, show n - i = (n - (i + 1)) + 1 by omega, List.replicate_succ, List.set_cons_zero, List.range_succ, List.map_append, List.append_assoc]
    rfl
  rw [hset]
  unfold hS hN mst
  refine Prod.ext (funext fun s => ?_) (Prod.ext ?_ ?_)
  · dsimp only
    cases b1 : Nat.beq s 59 with
    | true =>
      have hs := Nat.eq_of_beq_eq_true b1
      subst hs
      show (h.1 59 ++ [_]).set (h.1 59).length _ = _
      exact set_at _ _ _
    | false =>
      cases b2 : Nat.beq s 60 with
      | true =>
        show (h.1 s ++ List.replicate i _) ++ [_] = h.1 s ++ List.replicate (i + 1) _
        rw [List.append_assoc, ← List.replicate_succ']
      | false => rfl
  · dsimp only; omega
  · show h.2.2 + n + i * k + k = h.2.2 + n + (i + 1) * k
    rw [Nat.succ_mul]
    omega
section MUL
variable {G : Geo} {s : State} {k : Nat} {φ0 : Nat × Nat → Nat} {h0 : Hp} {φ ψ : Nat × Nat → Nat} {L : LV} {st : List AV} {h : Hp} {H : Heap} {locs lx : List Loc} {cells slots : Nat} {ls : Array Slot}
theorem IV.fewer (I : IV G s k φ0 h0 φ ψ L st h H lx cells slots ls) (hl : ∀ q ∈ locs, q ∈ lx) : IV G s k φ0 h0 φ ψ L st h H locs cells slots ls :=
  ⟨I.1, I.2.1, I.2.2.1, I.2.2.2.1, I.2.2.2.2.1, I.2.2.2.2.2.1, ⟨I.2.2.2.2.2.2.1.1, I.2.2.2.2.2.2.1.2.1, fun q hq => I.2.2.2.2.2.2.1.2.2 q (hl q hq)⟩, I.2.2.2.2.2.2.2⟩
theorem mst_outer (h : Hp) (n k i : Nat) : hG (mst h n k i) (some (59, (h.1 59).length)) = some (1900, (List.range i).map (fun j => aR (some (60, (h.1 60).length + j))) ++ List.replicate (n - i) (aR none)) := by
  show (h.1 59 ++ [_])[(h.1 59).length]? = _
  rw [List.getElem?_append_right (Nat.le_refl _), Nat.sub_self]
  rfl
theorem mst_len (h : Hp) (n k i : Nat) : ((mst h n k i).1 60).length = (h.1 60).length + i := by
  show (h.1 60 ++ List.replicate i _).length = _
  rw [List.length_append, List.length_replicate]
theorem mul_iv {V : State} {cA comp : ClassId} {n kk : Nat} (I : IV G s k φ0 h0 φ ψ L st h H locs cells slots ls) (hV : V.heap = H) (hn : n < 2147483648) (hk : kk < 2147483648)
    (hO : ∀ N b i, s.isArrayOf (mOut cA N b i) (.array .boolean) ∧ (mOut cA N b i).vm ≠ .unknown) (hI : ∀ M dv, s.isArrayOf (mRow comp M dv) .boolean ∧ (mRow comp M dv).vm ≠ .unknown) (hcA : cA = G.2.1 1900) (hst : ∀ v ∈ st, clV h v) :
    ∀ i, i ≤ n → ∃ φ' ψ', IV G s k φ0 h0 φ' ψ' L st (mst h n kk i) (mFill V cA comp n kk (.int 0) i).heap locs (cells + 1 + i) (slots + n + i * kk) ls ∧ φ' (59, (h.1 59).length) = H.size ∧ (∀ q : Nat × Nat, q.2 < (h.1 q.1).length → φ' q = φ q) := by
  intro i
  induction i with
  | zero =>
    intro _
    have e1 : (mFill V cA comp n kk (.int 0) 0).heap = H.push (mOut cA n H.size 0) := by rw [← hV]; rfl
    have hrep : cellRep G s φ (1900, List.replicate n (aR none)) 0 H.size (H.push (mOut cA n H.size 0)) := by
      unfold cellRep
      dsimp only
      rw [if_neg (by omega), if_neg (by omega), if_neg (by omega), if_pos (by omega)]
      refine ⟨_, rfl, _, Array.getElem?_push_size, (hO n H.size 0).1, (hO n H.size 0).2, ?_, ?_, fun j hj => ?_, fun z hz => ?_⟩
      · rw [List.length_replicate, (mOut_facts cA n H.size 0).2.2]; exact Nat.le_refl _
      · rw [List.length_replicate, (mOut_facts cA n H.size 0).2.2]
      · rw [List.length_replicate] at hj
        show (Array.replicate n Value.null)[j]? = _
        unfold rowV
        rw [List.getD_eq_getElem?_getD, List.getElem?_replicate, if_pos hj]
        simp [hj]
        rfl
      · have hz : some (G.2.1 1900) = some z := hz
        cases hz
        exact hcA
    obtain ⟨I1, e2⟩ := I.alloc (site := 59) (n := n) (x1 := (1900, List.replicate n (aR none))) (by decide) (by unfold isX; dsimp only; omega) (by unfold isH; dsimp only; omega) (Array.size_push _) (fun q hq => by rw [Array.getElem?_push, if_neg (Nat.ne_of_lt hq)]) hrep (fun v hv => by rw [(List.mem_replicate.mp hv).2]; trivial) hst
    have eh : hN h 59 (1900, List.replicate n (aR none)) n = mst h n kk 0 := by
      unfold hN mst
      refine Prod.ext (funext fun s => ?_) (Prod.ext ?_ ?_)
      · dsimp only
        cases b1 : Nat.beq s 59 with
        | true => rfl
        | false =>
          cases b2 : Nat.beq s 60 with
          | true => show h.1 s = h.1 s ++ []; rw [List.append_nil]
          | false => rfl
      · rfl
      · dsimp only; omega
    refine ⟨up2 φ (59, (h.1 59).length) H.size, ψ, ?_, by unfold up2; rw [if_pos rfl], fun q hq => ?_⟩
    · rw [eh] at I1
      rw [e1, Nat.zero_mul, Nat.add_zero, Nat.add_zero]
      exact I1.st (fun v hv => I1.2.2.1 v (List.mem_cons_of_mem _ hv))
    · unfold up2
      rw [if_neg]
      intro z
      subst z
      exact Nat.lt_irrefl _ hq
  | succ i ih =>
    intro hi
    obtain ⟨φ', ψ', I1, p1, p2⟩ := ih (by omega)
    obtain ⟨f1, f2, -, -⟩ := mFill_facts V cA comp n kk (.int 0) i
    rw [hV] at f1 f2
    generalize hF : mFill V cA comp n kk (.int 0) i = Fi at I1 f1 f2
    have e1 : (mFill V cA comp n kk (.int 0) (i + 1)).heap = ((Fi.pushCell (mRow comp kk (.int 0))).setCell H.size (mOut cA n H.size (i + 1))).heap := by
      rw [← hF, ← hV]; rfl
    have e2 : (Fi.pushCell (mRow comp kk (.int 0))).heap = Fi.heap.push (mRow comp kk (.int 0)) := rfl
    have hrep : cellRep G s φ' (1002, List.replicate kk (aI 0)) 0 Fi.heap.size (Fi.heap.push (mRow comp kk (.int 0))) := by
      unfold cellRep
      dsimp only
      rw [if_neg (by omega), if_neg (by omega), if_neg (by omega), if_pos (by omega)]
      refine ⟨_, rfl, _, Array.getElem?_push_size, (hI kk (.int 0)).1, (hI kk (.int 0)).2, ?_, ?_, fun j hj => ?_, fun z hz => by cases hz⟩
      · rw [List.length_replicate]; show kk ≤ (Array.replicate kk (Value.int 0)).size; rw [Array.size_replicate]; exact Nat.le_refl _
      · rw [List.length_replicate]; show (Array.replicate kk (Value.int 0)).size.toInt32 = _; rw [Array.size_replicate]
      · rw [List.length_replicate] at hj
        show (Array.replicate kk (Value.int 0))[j]? = _
        unfold rowV
        rw [List.getD_eq_getElem?_getD, List.getElem?_replicate, if_pos hj]
        simp [hj]
        rfl
    obtain ⟨I2, -⟩ := I1.alloc (site := 60) (n := kk) (x1 := (1002, List.replicate kk (aI 0))) (by decide) (by unfold isX; dsimp only; omega) (by unfold isH; dsimp only; omega) (Array.size_push _) (fun q hq => by rw [Array.getElem?_push, if_neg (Nat.ne_of_lt hq)]) hrep (fun v hv => by rw [(List.mem_replicate.mp hv).2]; trivial) I1.2.2.1
    have ho : hG (hN (mst h n kk i) 60 (1002, List.replicate kk (aI 0)) kk) (some (59, (h.1 59).length)) = some (1900, (List.range i).map (fun j => aR (some (60, (h.1 60).length + j))) ++ List.replicate (n - i) (aR none)) := by
      rw [hN_get, if_neg (fun z => absurd (Prod.mk.inj z).1 (by decide))]
      exact mst_outer h n kk i
    have hti : (Int32.ofNat i).toInt = i := Int32.toInt_ofNat_of_lt (by omega)
    have hfi : (Int32.ofNat i).toNatClampNeg = i := by
      show (Int32.ofNat i).toInt.toNat = i
      rw [hti]
      rfl
    have hcl := I2.2.2.1
    obtain ⟨ty, cell, t1, c1, c2, c3, c4, c5, kk2⟩ := wr_arr (v := aR (some (60, (h.1 60).length + i))) (rest := st) (i := Int32.ofNat i) I2 ho (by dsimp only; omega) (by dsimp only; omega) (show (59 : Nat) ≠ 0 by decide) (by
      rw [hfi]
      rintro (z | z)
      · have z := Int32.lt_iff_toInt_lt.mp z
        rw [hti] at z
        have : (0 : Int32).toInt = 0 := rfl
        omega
      · simp at z; omega) (by have := hcl _ List.mem_cons_self; rw [mst_len] at this; exact this) (fun v hv => hcl v (List.mem_cons_of_mem _ hv))
    rw [hfi] at kk2
    have hφ9 : up2 φ' (60, ((mst h n kk i).1 60).length) Fi.heap.size (59, (h.1 59).length) = H.size := by
      unfold up2
      rw [if_neg (fun z => absurd (Prod.mk.inj z).1 (by decide))]
      exact p1
    have hφ8 : up2 φ' (60, ((mst h n kk i).1 60).length) Fi.heap.size (60, (h.1 60).length + i) = H.size + 1 + i := by
      unfold up2
      rw [mst_len, if_pos rfl]
      exact f1
    rw [hφ9] at c1 kk2
    have hlt : H.size < Fi.heap.size := by omega
    have hcell : cell = mOut cA n H.size i := by
      rw [Array.getElem?_push, if_neg (Nat.ne_of_lt hlt), f2] at c1
      exact (Option.some.inj c1).symm
    have hlt2 : H.size < (Fi.pushCell (mRow comp kk (.int 0))).heap.size := by rw [e2, Array.size_push]; omega
    obtain ⟨ψ'', I3⟩ := kk2 (mFill V cA comp n kk (.int 0) (i + 1)).heap (by
        rw [e1, heapAt_setCell_self _ hlt2, hcell]
        show some ((mOut cA n H.size i).setSlot i (.ref (H.size + 1 + i))) = some ((mOut cA n H.size i).setSlot i (Value.ref (up2 φ' (60, ((mst h n kk i).1 60).length) Fi.heap.size (60, (h.1 60).length + i))))
        rw [hφ8]) (by rw [e1, size_setCell, e2]) (fun y hy => by rw [e1, heapAt_setCell_ne _ (Ne.symm hy), e2])
    dsimp only at I3
    rw [mst_step h n kk i (by omega)] at I3
    refine ⟨_, ψ'', ?_, hφ9, fun q hq => ?_⟩
    · have I4 := I3.fewer (locs := locs) (fun q hq => List.mem_append_left _ hq)
      have e9 : slots + n + (i + 1) * kk = slots + n + i * kk + kk := by rw [Nat.succ_mul]; omega
      rw [e9]
      exact I4
    · unfold up2
      rw [if_neg]
      · exact p2 q hq
      · intro z
        subst z
        rw [mst_len] at hq
        exact absurd hq (by show ¬ (h.1 60).length + i < (h.1 60).length; omega)
end MUL
theorem mul_ok (l : Launch) (G : Geo) : MULOK l G := by
  intro p e0 R s m args below meth c Q k φ0 h0 res K C X pc i j a b ts L st h φ ψ H locs cells slots ls hX hK hM hB I hd hw hr
  obtain ⟨rfl, rfl, rfl, rfl⟩ := hw
  have hd2 : decode (bT 157) 61 = .ok (.multianewarray 34 2, 4) := by decide +kernel
  have hij := Instr.multianewarray.inj (Prod.mk.inj (Except.ok.inj (hd.symm.trans hd2))).1
  obtain ⟨rfl, rfl⟩ := hij
  have hs := I.2.2.1
  unfold F at hr
  dsimp only at hr
  split at hr
  · rename_i k9 n9 rest
    simp only [List.forall_mem_cons] at hs
    split at hr
    · cases hr
    · rename_i hn
      have hmm := hM _ _ _ _ hr
      have m1 : h.2.1 + (n9.toNatClampNeg + 1) ≤ res.2.2.1 := hmm.1
      have m2 : h.2.2 + (n9.toNatClampNeg + n9.toNatClampNeg * k9.toNatClampNeg) ≤ res.2.2.2 := hmm.2
      have i8 := I.2.2.2.2.2.2.2.1
      have i9 := I.2.2.2.2.2.2.2.2
      obtain ⟨hB1, hB2, hB3⟩ := hB
      intro T hT Y
      have hcl : (Cond.classLink RX14 34 ("[" ++ (FieldType.array .boolean).toString)).before args s = true := hX.w mul_in rfl
      have hov : (Cond.arrayOver (.array .boolean)).before args s = true := hX.sta.1.2.2.2.2.1
      have hn1 : ¬ n9 < 0 := fun z => hn (Or.inl z)
      have hk1 : ¬ k9 < 0 := fun z => hn (Or.inr (Or.inl z))
      have hkb : k9.toNatClampNeg < 2147483648 := by
        have := Int32.toInt_lt k9
        show k9.toInt.toNat < 2147483648
        omega
      have hk9 : k9.toNatClampNeg ≤ 1000 := Nat.not_lt.mp fun z => hn (Or.inr (Or.inr z))
      have hnb : n9.toNatClampNeg < 2147483648 := by
        have := Int32.toInt_lt n9
        show n9.toInt.toNat < 2147483648
        omega
      obtain ⟨vm₁, cA, comp, hW, fA, fC, hO, hI, Y', step⟩ := mul_two Y hX.1 (own := RX14) (index := 34) (ty := .boolean) hX.2.2.2.1 hcl hov (hX.w acl_boolean rfl) (g := F0 m 61 ls (((aI k9 :: aI n9 :: rest)).map (vv φ))) rfl (by rw [hX.2.1]; exact hd) (n := n9) (k := k9) (rest := rest.map (vv φ)) rfl hn1 hk1 (by omega) (by show k9.toNatClampNeg * 1 ≤ _; omega) (by omega) rfl (by omega) (by omega)
      have hcA : cA = G.2.1 1900 := Option.some.inj (fA.symm.trans (hX.sta.1.2.2.1 1900 _ rfl).2)
      obtain ⟨φ', ψ', I1, p1, p2⟩ := mul_iv (V := T.setVm vm₁) (st := rest) (cA := cA) (comp := comp) (n := n9.toNatClampNeg) (kk := k9.toNatClampNeg) (I.st hs.2.2) hT hnb hkb hO hI hcA hs.2.2 n9.toNatClampNeg (Nat.le_refl _)
      have hcl9 : clV (mst h n9.toNatClampNeg k9.toNatClampNeg n9.toNatClampNeg) (aR (some (59, (h.1 59).length))) := hG_lt (mst_outer h n9.toNatClampNeg k9.toNatClampNeg n9.toNatClampNeg)
      have I2 := I1.st (st' := aR (some (59, (h.1 59).length)) :: rest) (fun v hv => by
        rcases List.mem_cons.mp hv with z | z
        · rw [z]; exact hcl9
        · exact I1.2.2.1 v z)
      rw [mst_end] at I2
      obtain ⟨t, a1, b1⟩ := hK _ _ _ _ _ _ _ _ _ _ _ hr I2 _ rfl Y'
      refine ⟨t, step t ?_, b1⟩
      have e9 : (aR (some (59, (h.1 59).length)) :: rest).map (vv φ') = .ref T.heap.size :: rest.map (vv φ) := by
        rw [List.map_cons, mapV_congr p2 hs.2.2, hT]
        exact congrArg (fun z => Value.ref z :: rest.map (vv φ)) p1
      rw [e9] at a1
      exact a1
  · cases hr
