def R_law : String := "ChipcardhouseLaw"
def lw_P (b : Addr) (xs : List Int32) (args : Array Value) (s : State) : Prop := args = #[.ref b] ∧ s.IntsAt b xs ∧ xs.length ≤ 2560 ∧ (Jvm.Cond.and given_1 narrow_1).before args s = true
/-- what a walk over the start with the record d0 says of its end, said of the start itself -/
theorem lw_closed {s t : State} {o : Outcome} {d0 : Drawn} {L : List Loc} {k n : Nat} (hd0 : s.drawn.sameBut d0 lw_cs) (hv : ∃ v, o = .returned v) (hW : (s.setDrawn d0).WarmedH t.vm) (hs : (s.setDrawn d0).sameButNew ({ t with vm := s.vm } : State) L k n) : State.butDraws s t lw_cs (fun t1 => Framed s o t1 L k n) := by
  have h2 : t.drawn = d0 := congrArg State.drawn hs.1
  refine ⟨⟨hv, hW, State.sameButNew.setDrawn hs s.drawn⟩, ?_, by decide⟩
  rw [h2]
  exact hd0
def lw_Q (_ : Array Value) (s : State) (o : Outcome) (t : State) : Prop := o = .returned (some (.int 1)) ∧ State.butDraws s t lw_cs (fun t1 => Framed s o t1 [] room_1.cells room_1.slots)
def lw_Z (below : List Frame) (a : Array Value) (s : State) : State → Prop := fun t => ∃ o, t.status = .running ∧ Ended t below o ∧ lw_Q a s o t
/-- the law's own end, with 1 on the stack, nothing written that was there before, its room as the claim has it; d0: the record of draws at this point (at the entry s.drawn: begin with 'refine W.base ?_' and 'have hd0 := Drawn.sameBut.refl s.drawn lw_cs') -/
theorem lw_ret {p : Program} {l : Launch} {e : Env} {s : State} {m : MethodId} {below : List Frame} {meth : Method} {c : Code} {b : Nat} {d0 : Drawn} (hd0 : s.drawn.sameBut d0 lw_cs) (hx : p.tables.exec = Jvm.exec) (hb : c.code = code) (hr : meth.sig.returnType = ret) (hlocks : meth.locks = false) {pc : Nat} {H : Heap} {ls : Array Slot} (hdg : decode code pc = .ok (.ireturn, 1)) : W p l e room_1 (s.setDrawn d0) m #[Value.ref b] below meth c H [] room_1.cells room_1.slots (lw_Z below #[Value.ref b] s) (F0 m pc ls [.int 1]) := by
  intro T hT X
  obtain ⟨fs, hret, hrun, hended, hW, hframe⟩ := X.leave (v := some (.int 1)) (hlocks := hlocks) (fun h => by rw [hr] at h; cases h)
  have hmeth' : T.vm.method? m = some meth := X.method'
  refine ⟨T.setFrames fs, ?_, .returned (some (.int 1)), hrun, hended, rfl, lw_closed hd0 ⟨_, rfl⟩ hW hframe⟩
  jvm_step X.here [X.here.top, hx, hb, hdg, hmeth', hr, ret, narrow_b1]
  (try refine ⟨rfl, ?_⟩); (try refine ⟨rfl, ?_⟩)
  first | (intro acts; rw [hret _ acts rfl rfl rfl]) | rw [hret _ _ rfl rfl rfl]
  exact Steps.refl _
/-- what holds at the law's entry: the machine, the code, the tables' words (any of lw_tbl by 'hts w (by decide +kernel)'), the script of L ints xs at the cell b, what the Statement gives of the start (any of its parts by flat_of_before) -/
def lw_At (p : Program) (s : State) (m : MethodId) (meth : Method) (c : Code) (b L : Nat) (xs : Nat → Int32) : Prop :=
  p.tables.exec = Jvm.exec ∧ c.code = code ∧ meth.sig.returnType = ret ∧ c.maxLocals = 10 ∧ s.vm.findClass R_law = some m.cls ∧ (∀ w ∈ lw_tbl, w.before #[Value.ref b] s = true) ∧ va_X b L xs s s.heap ∧ b < s.heap.size ∧ meth.locks = false ∧ (Jvm.Cond.and given_1 narrow_1).before #[Value.ref b] s = true ∧ c.exceptionTable.isEmpty = true
/-! ===== what holds at the start ===== -/
def txS : List String := ["touch", "account", "shop", "card", "pay", "send", "back", "wait", "fault", "open", "close", "house", "tell", "stolen", "freeze", "day", "dispute"]
def ixS : List Nat := [26, 10, 11, 12, 13, 14, 15, 16, 17, 18, 19, 20, 21, 22, 23, 24, 25]
def ixT : List Nat := [57, 37, 38, 39, 40, 41, 42, 43, 44, 45, 46, 47, 48, 49, 50, 51, 52]
theorem srefS : ∀ j, j < 17 → stW[ixS.getD j 0]? = some (Cond.stringRef "Chipcardhouse$Script" (cS j) (txS.getD j "")) := by decide +kernel
theorem srefT : ∀ j, j < 17 → stW[ixT.getD j 0]? = some (Cond.stringRef "ChipcardhouseModel$Texts" (cT j) (txS.getD j "")) := by decide +kernel
theorem strE_all : strE.all (fun e => (List.range 17).any (fun j => decide (e = (8, cS j, 10 + j)) || decide (e = (18, cT j, 10 + j)))) = true := by decide +kernel
/-- where the constants lie -/
def adK (b n1 n2 mi : Nat) (ad : Nat → Nat × Nat) (k : Nat) : Nat := if k = 0 then b else if k = 1 then n1 else if k = 2 then n2 else if k = 3 then mi else (ad (k - 10)).1
theorem sta_at {s : State} {b : Nat} (hts : ∀ w ∈ lw_tbl, w.before #[Value.ref b] s = true) (hn : ∀ w ∈ narL, w.before #[Value.ref b] s = true) :
    ∃ (D : va_G) (F : Nat → ClassId) (n1 n2 mi : Nat) (ad : Nat → Nat × Nat), Sta (D, F, s.heap.size, adK b n1 n2 mi ad) s s.heap ∧
      va_T .int n1 16 (rowV (fun _ => 0) (wdV nNT)) (frz (D, F, s.heap.size, adK b n1 n2 mi ad)) s s.heap ∧ b ≠ n1 ∧ ∀ j, j < 17 → StrF s (frz (D, F, s.heap.size, adK b n1 n2 mi ad)) (wd j) (ad j).1 (ad j).2 := by
  obtain ⟨D, hK⟩ := cls_start hts
  obtain ⟨F, hF⟩ := arrs_at hts
  have hB : ∀ a : Nat, a < s.heap.size → ¬ (fun q : Nat => s.heap.size ≤ q) a := fun a h => Nat.not_le.mpr h
  obtain ⟨n1, e1, hT1⟩ := va_Tof (tm := .static "Chipcardhouse" "NUMBERS_OF" "[I") (ty := .int) (N := 16) (f := rowV (fun _ => 0) (wdV nNT)) (A := fun q : Nat => s.heap.size ≤ q) (by decide) (hn _ nw_n1) (va_eqt (hn _ nw_n2)) (fun j hj => by
    rw [wdV_at (show j < nNT.length from hj)]
    exact va_eqt (hn _ (List.mem_of_getElem? (nw_n3 j hj)))) hB
  obtain ⟨n2, e2, cell2, u1, u2, u3, u4, u5, -, u6⟩ := va_Tof (tm := .static "java/util/ArrayList" "DEFAULTCAPACITY_EMPTY_ELEMENTDATA" "[Ljava/lang/Object;") (ty := .object "java/lang/Object") (N := 0) (f := rowV (fun _ => 0) []) (A := fun q : Nat => s.heap.size ≤ q) (by decide) (hn _ nw_d1) (va_eqt (hn _ nw_d2)) (fun j hj => absurd hj (Nat.not_lt_zero _)) hB
  obtain ⟨mi, hmi⟩ := va_Mi.of (hn _ nw_mi)
  obtain ⟨ad, had⟩ := strs_at (B := fun q : Nat => s.heap.size ≤ q) hB hn
  refine ⟨D, F, n1, n2, mi, ad, ⟨⟨AllW.of hts, hK, hF, fun C hC => ?_, (show va_AOB s from hts _ (st_in (i := 54) rfl)), fun c idx k hk => ?_, ?_, ?_, fun q hq => ?_, hmi, va_Dc.of (hts _ (st_in (i := 67) rfl)), fun y hy => ?_⟩, ?_, ?_, ?_, ⟨?_, ?_, ?_⟩, ?_, ?_⟩, hT1, va_neR (hn _ nw_ne) rfl e1, fun j hj => (had j hj).2.2⟩
  · unfold aoN at hC
    simp only [List.mem_cons, List.not_mem_nil, or_false] at hC
    rcases hC with q | q | q | q | q | q <;> subst q
    · exact va_AO.of (hts _ (st_in (i := 7) rfl))
    · exact va_AO.of (hts _ (st_in (i := 55) rfl))
    · exact va_AO.of (hts _ (st_in (i := 53) rfl))
    · exact va_AO.of (hts _ (st_in (i := 56) rfl))
    · exact va_AO.of (hts _ (st_in (i := 36) rfl))
    · exact va_AO.of (hts _ (st_in (i := 35) rfl))
  · have h := List.all_eq_true.mp strE_all _ hk
    obtain ⟨j, hj, h⟩ := List.any_eq_true.mp h
    have hj := List.mem_range.mp hj
    rw [Bool.or_eq_true, decide_eq_true_eq, decide_eq_true_eq] at h
    have ek : adK b n1 n2 mi ad (10 + j) = (ad j).1 := by
      unfold adK
      rw [if_neg (by omega), if_neg (by omega), if_neg (by omega), if_neg (by omega), show 10 + j - 10 = j by omega]
    rcases h with h | h
    · injection h with h1 h
      injection h with h2 h3
      subst h1; subst h2; subst h3
      refine ⟨_, vk_R.of (hts _ (st_in (srefS j hj))) ?_⟩
      show _ = some (Value.ref (adK b n1 n2 mi ad (10 + j)))
      rw [ek]
      exact (had j hj).1
    · injection h with h1 h
      injection h with h2 h3
      subst h1; subst h2; subst h3
      refine ⟨_, vk_R.of (hts _ (st_in (srefT j hj))) ?_⟩
      show _ = some (Value.ref (adK b n1 n2 mi ad (10 + j)))
      rw [ek]
      exact (had j hj).2.1
  · exact va_Fw.of (hts _ (st_in (i := 59) rfl)) (hts _ (st_in (i := 58) rfl)) (hts _ (st_in (i := 62) rfl)) (hts _ (st_in (i := 61) rfl)) (hts _ (st_in (i := 60) rfl))
  · exact va_Fw.of (hts _ (st_in (i := 64) rfl)) (hts _ (st_in (i := 63) rfl)) (hts _ (st_in (i := 66) rfl)) (hts _ (st_in (i := 65) rfl)) (hts _ (st_in (i := 60) rfl))
  · unfold excP at hq
    simp only [List.mem_cons, List.not_mem_nil, or_false] at hq
    rcases hq with q | q | q | q | q | q <;> subst q
    · exact va_Nc.of (hn _ nw_c3031)
    · exact va_Nc.of (hn _ nw_c3032)
    · exact va_Nc.of (hn _ nw_c3130)
    · exact va_Nc.of (hn _ nw_c3132)
    · exact va_Nc.of (hn _ nw_c3230)
    · exact va_Nc.of (hn _ nw_c3231)
  · have hs0 := hts _ (st_in (i := 33) rfl)
    unfold sbPr at hy
    simp only [List.mem_cons, List.not_mem_nil, or_false] at hy
    rcases hy with q | q <;> subst q
    · exact va_any rfl (j_selSB rfl rfl hs0 (hts _ (st_in (i := 29) rfl)) (hts _ (st_in (i := 30) rfl)))
    · exact va_any rfl (j_selSB rfl rfl hs0 (hts _ (st_in (i := 31) rfl)) (hts _ (st_in (i := 32) rfl)))
  · exact va_Zref (hts _ (st_in (i := 9) rfl)) (hts _ (st_in (i := 0) rfl)) e1 hB
  · exact va_Zref (hts _ (st_in (i := 6) rfl)) (hts _ (st_in (i := 2) rfl)) e2 hB
  · exact va_Zof (hts _ (st_in (i := 5) rfl)) (hts _ (st_in (i := 1) rfl)) (va_eqi (hn _ nw_cs)) hB
  · exact ⟨cell2, u1, u2, u3, Nat.zero_le _, u5, fun j hj => absurd hj (Nat.not_lt_zero _), fun z h => nomatch h⟩
  · exact (Array.getElem?_eq_some_iff.mp u1).1
  · exact va_Zqof (hts _ (st_in (i := 8) rfl)) (hts _ (st_in (i := 4) rfl)) (hn _ nw_sio) hB
  · exact vx_Zqof (hts _ (st_in (i := 27) rfl)) (hts _ (st_in (i := 3) rfl)) (hn _ nw_us) hB
  · exact vx_Zqof (hts _ (st_in (i := 28) rfl)) (hts _ (st_in (i := 3) rfl)) (hn _ nw_ss) hB
/-! ===== the first heap of the small machine ===== -/
def cstC (sc : List Int32) (k : Nat) : OC := if k = 0 then (1000, sc.map aI) else if k = 1 then (1000, wdV nNT) else if 10 ≤ k ∧ k < 27 then (42, wdV (wd (k - 10))) else (24, [])
def hp0 (sc : List Int32) : Hp := (fun s => match Nat.beq s 0 with | true => (List.range 30).map (cstC sc) | false => [], 0, 0)
theorem hp0_0 {sc : List Int32} {k : Nat} (h : k < 30) : hG (hp0 sc) (some (0, k)) = some (cstC sc k) := by
  show ((List.range 30).map (cstC sc))[k]? = _
  rw [List.getElem?_map, List.getElem?_range h]
  rfl
theorem hp0_at {sc : List Int32} {q : Nat × Nat} {x : OC} (h : hG (hp0 sc) (some q) = some x) : q.1 = 0 ∧ q.2 < 30 ∧ x = cstC sc q.2 := by
  obtain ⟨s', k⟩ := q
  by_cases e : s' = 0
  · subst e
    have hk : k < 30 := by
      have h : ((List.range 30).map (cstC sc))[k]? = some x := h
      have := (List.getElem?_eq_some_iff.mp h).1
      rwa [List.length_map, List.length_range] at this
    rw [hp0_0 hk] at h
    cases h
    exact ⟨rfl, hk, rfl⟩
  · have h : (match Nat.beq s' 0 with | true => (List.range 30).map (cstC sc) | false => [])[k]? = some x := h
    rw [beq_ff e] at h
    cases h
theorem cst_int (sc : List Int32) (k : Nat) : ∀ v ∈ (cstC sc k).2, ∃ x : Int32, v = aI x := by
  unfold cstC
  split
  · intro v hv; obtain ⟨x, -, e⟩ := List.mem_map.mp hv; exact ⟨x, e.symm⟩
  · split
    · intro v hv; obtain ⟨x, -, e⟩ := List.mem_map.mp hv; exact ⟨_, e.symm⟩
    · split
      · intro v hv; obtain ⟨x, -, e⟩ := List.mem_map.mp hv; exact ⟨_, e.symm⟩
      · exact fun v hv => nomatch hv
theorem cst_kd (sc : List Int32) (k : Nat) : ((cstC sc k).1 = 1000 ∧ (k = 0 ∨ k = 1)) ∨ ((cstC sc k).1 = 42 ∧ 10 ≤ k ∧ k < 27) ∨ (cstC sc k).1 = 24 := by
  unfold cstC
  split
  · rename_i e; exact Or.inl ⟨rfl, Or.inl e⟩
  · split
    · rename_i e; exact Or.inl ⟨rfl, Or.inr e⟩
    · split
      · rename_i e; exact Or.inr (Or.inl ⟨rfl, e⟩)
      · exact Or.inr (Or.inr rfl)
theorem rowV_int {l : List AV} (h : ∀ v ∈ l, ∃ x : Int32, v = aI x) (φ ψ : Nat × Nat → Nat) (j : Nat) : rowV φ l j = rowV ψ l j := by
  unfold rowV
  rw [List.getD_eq_getElem?_getD]
  cases e : l[j]? with
  | none => rfl
  | some v =>
    obtain ⟨x, hx⟩ := h v (List.mem_of_getElem? e)
    subst hx
    rfl
/-- a string is no array -/
theorem str_arr {A : Array Value} {s : State} {B : Nat → Prop} {a : Nat} {ty : FieldType} {cell : Cell} (hi : (Cond.instantiable "java/lang/String" 4).before A s = true) (h : va_O "java/lang/String" a B s s.heap) (hc : s.heap[a]? = some cell) (ha : s.isArrayOf cell ty) : False := by
  obtain ⟨c, k, h1, h2, h3, -⟩ := Cond.instantiable_spec (args := A) (first := s) (o := none) (idx := []) hi
  obtain ⟨cell', g1, -, g3, -⟩ := h
  rw [hc] at g1
  cases g1
  rw [h1] at g3
  cases g3
  obtain ⟨-, k', k1, comp, k2⟩ := ha
  rw [h2] at k1
  cases k1
  rw [h3] at k2
  cases k2
theorem hrel_at {s : State} {b L : Nat} {xs : Nat → Int32} {D : va_G} {F : Nat → ClassId} {n1 n2 mi : Nat} {ad : Nat → Nat × Nat} (hi : (Cond.instantiable "java/lang/String" 4).before #[Value.ref b] s = true) (hL : L ≤ 2560) (hX : va_X b L xs s s.heap)
    (hT : va_T .int n1 16 (rowV (fun _ => 0) (wdV nNT)) (frz (D, F, s.heap.size, adK b n1 n2 mi ad)) s s.heap) (hne : b ≠ n1) (hS : ∀ j, j < 17 → StrF s (frz (D, F, s.heap.size, adK b n1 n2 mi ad)) (wd j) (ad j).1 (ad j).2) :
    Hrel (D, F, s.heap.size, adK b n1 n2 mi ad) s (fun q => adK b n1 n2 mi ad q.2) (fun _ => 0) (hp0 ((List.range L).map xs)) s.heap := by
  obtain ⟨scr, x1, x2, x3, x4, x5⟩ := hX
  have a10 : ∀ k, 10 ≤ k → adK b n1 n2 mi ad k = (ad (k - 10)).1 := fun k h => by
    unfold adK
    rw [if_neg (by omega), if_neg (by omega), if_neg (by omega), if_neg (by omega)]
  have lt : ∀ {a : Nat} {c : Cell}, s.heap[a]? = some c → a < s.heap.size := fun h => (Array.getElem?_eq_some_iff.mp h).1
  obtain ⟨c1, t1, t2, t3, t4, t5, t6, t7⟩ := id hT
  have sb : ∀ j, j < 17 → (ad j).1 ≠ b := fun j hj e => str_arr hi (hS j hj).1 (by rw [e]; exact x1) x2
  have sn : ∀ j, j < 17 → (ad j).1 ≠ n1 := fun j hj e => str_arr hi (hS j hj).1 (by rw [e]; exact t1) t2
  refine ⟨fun q x e => ?_, fun q q' x x' e e' h h' eq => ?_, fun q x e h => ?_, fun q x e h => ?_, fun q x e v hv => ?_, fun _ => rfl, fun q x e _ => ?_, Nat.le_refl _, fun q x e h => ?_⟩
  · obtain ⟨q1, q2, rfl⟩ := hp0_at e
    obtain ⟨s', k⟩ := q
    dsimp only at q1 q2 ⊢
    subst q1
    rcases cst_kd ((List.range L).map xs) k with ⟨e1, e2⟩ | ⟨e1, e2, e3⟩ | e1
    · unfold cellRep
      rw [if_neg (by omega), if_neg (by omega), if_neg (by omega), if_pos (by omega), e1]
      refine ⟨.int, rfl, ?_⟩
      rcases e2 with e2 | e2
      · subst e2
        have v : (cstC ((List.range L).map xs) 0).2 = ((List.range L).map xs).map aI := rfl
        have vl : (((List.range L).map xs).map aI).length = L := by rw [List.length_map, List.length_map, List.length_range]
        rw [v]
        refine ⟨scr, x1, x2, x3, by rw [vl, x4]; exact Nat.le_refl _, by rw [vl, x4], fun j hj => ?_, fun z hz => nomatch hz⟩
        rw [vl] at hj
        rw [x5 j hj]
        unfold rowV
        rw [List.getD_eq_getElem?_getD, List.getElem?_map, List.getElem?_map, List.getElem?_range hj]
        rfl
      · subst e2
        refine ⟨c1, t1, t2, t3, t4, t5, fun j hj => ?_, fun z hz => nomatch hz⟩
        rw [t6 j hj]
        exact congrArg some (rowV_int (cst_int ((List.range L).map xs) 1) _ _ j)
    · unfold cellRep
      rw [if_neg (by omega), if_neg (by omega), if_pos (by omega)]
      refine ⟨e1, ?_⟩
      have v : (cstC ((List.range L).map xs) k).2 = wdV (wd (k - 10)) := by
        unfold cstC
        rw [if_neg (by omega), if_neg (by omega), if_pos ⟨e2, e3⟩]
      rw [v, a10 k e2]
      exact strRep_at (by omega) (hS (k - 10) (by omega))
    · unfold cellRep
      rw [if_neg (by omega), if_pos (by omega)]
      trivial
  · obtain ⟨q1, q2, rfl⟩ := hp0_at e
    obtain ⟨q1', q2', rfl⟩ := hp0_at e'
    obtain ⟨s1, k⟩ := q
    obtain ⟨s2, k'⟩ := q'
    dsimp only at q1 q2 q1' q2' eq h h' ⊢
    subst q1
    subst q1'
    have cs : ∀ k, ¬ isX (cstC ((List.range L).map xs) k).1 → k = 0 ∨ k = 1 ∨ (10 ≤ k ∧ k < 27) := fun k h => by
      rcases cst_kd ((List.range L).map xs) k with ⟨e1, e2⟩ | ⟨e1, e2, e3⟩ | e1
      · omega
      · omega
      · exact absurd (show isX _ by rw [e1]; exact ⟨by omega, by omega⟩) h
    have z0 : adK b n1 n2 mi ad 0 = b := rfl
    have z1 : adK b n1 n2 mi ad 1 = n1 := rfl
    rcases cs k h with p | p | p <;> rcases cs k' h' with p' | p' | p'
    · rw [p, p']
    · rw [p, p', z0, z1] at eq; exact absurd eq hne
    · rw [p, z0, a10 k' p'.1] at eq; exact absurd eq.symm (sb _ (by omega))
    · rw [p, p', z0, z1] at eq; exact absurd eq.symm hne
    · rw [p, p']
    · rw [p, z1, a10 k' p'.1] at eq; exact absurd eq.symm (sn _ (by omega))
    · rw [p', z0, a10 k p.1] at eq; exact absurd eq (sb _ (by omega))
    · rw [p', z1, a10 k p.1] at eq; exact absurd eq (sn _ (by omega))
    · rw [a10 k p.1, a10 k' p'.1] at eq
      have s1 := hS (k - 10) (by omega)
      have s2 := hS (k' - 10) (by omega)
      rw [eq] at s1
      have := StrF_inj (by omega) (by omega) s1 s2
      rw [show k = k' by omega]
  · obtain ⟨q1, q2, rfl⟩ := hp0_at e
    obtain ⟨s', k⟩ := q
    dsimp only at q1 q2 h ⊢
    have hlt : adK b n1 n2 mi ad k < s.heap.size := by
      rcases cst_kd ((List.range L).map xs) k with ⟨e1, e2⟩ | ⟨e1, e2, e3⟩ | e1
      · rcases e2 with e2 | e2
        · rw [e2]; exact lt x1
        · rw [e2]; exact lt t1
      · rw [a10 k e2]
        obtain ⟨⟨cell, g1, -⟩, -⟩ := hS (k - 10) (by omega)
        exact lt g1
      · exact absurd (show isX _ by rw [e1]; exact ⟨by omega, by omega⟩) h
    exact ⟨hlt, fun h => absurd q1 h, fun _ => hlt⟩
  · obtain ⟨q1, q2, rfl⟩ := hp0_at e
    unfold isH at h
    rcases cst_kd ((List.range L).map xs) q.2 with ⟨e1, e2⟩ | ⟨e1, e2, e3⟩ | e1 <;> omega
  · obtain ⟨q1, q2, rfl⟩ := hp0_at e
    obtain ⟨y, rfl⟩ := cst_int ((List.range L).map xs) q.2 v hv
    trivial
  · obtain ⟨q1, q2, rfl⟩ := hp0_at e
    unfold isH
    rcases cst_kd ((List.range L).map xs) q.2 with ⟨e1, e2⟩ | ⟨e1, e2, e3⟩ | e1 <;> omega
  · obtain ⟨q1, q2, rfl⟩ := hp0_at e
    rcases cst_kd ((List.range L).map xs) q.2 with ⟨e1, e2⟩ | ⟨e1, e2, e3⟩ | e1 <;> omega
/-- from the entry to the end, for every script -/
theorem law_start {p : Program} {e : Env} {s : State} {m : MethodId} {below : List Frame} {meth : Method} {c : Code} (l : Launch) (hflags : l.flags = flags0) (hRows : ROWS) (hMul : ∀ G, MULOK l G) {b L : Nat} {xs : Nat → Int32} (hL : L ≤ 2560) (C0 : lw_At p s m meth c b L xs) : W p l e room_1 s m #[Value.ref b] below meth c s.heap [] 0 0 (lw_Z below #[Value.ref b] s) (entryFrame m ([Value.ref b] : List Value).toArray 10) := by
  obtain ⟨hx, hb, hr, hml, hown, hts, hX, hbl, hlocks, hgv, hct⟩ := id C0
  have hn : ∀ w ∈ narL, w.before #[Value.ref b] s = true := flat_of_before _ hgv
  obtain ⟨D, F, n1, n2, mi, ad, hSta, hT1, hne, hS⟩ := sta_at hts hn
  have hR := hrel_at (hts _ (st_in (i := 34) rfl)) hL hX hT1 hne hS
  generalize hG : ((D, F, s.heap.size, adK b n1 n2 mi ad) : Geo) = G at *
  have gb : G.2.2.1 = s.heap.size := by rw [← hG]
  have gφ : (fun q : Nat × Nat => adK b n1 n2 mi ad q.2) (0, 0) = b := rfl
  generalize (fun q : Nat × Nat => adK b n1 n2 mi ad q.2) = φ at hR gφ
  have hz : Zk (hp0 ((List.range L).map xs)) := ⟨fun j hj => by
    rw [hp0_0 (by omega)]
    unfold cstC
    rw [if_neg (by omega), if_neg (by omega), if_pos ⟨by omega, by omega⟩, show 10 + j - 10 = j by omega]
    rfl, (hp0_0 (by decide)).trans rfl⟩
  obtain ⟨h', run, r1, r2⟩ := law_run hz (hp0_0 (by decide)) (fun s' hs' => by
    show (match Nat.beq s' 0 with | true => (List.range 30).map (cstC ((List.range L).map xs)) | false => []) = []
    rw [beq_ff hs']) (by rw [List.length_map, List.length_range]; exact hL)
  have q1 : 490306 ≤ room_1.cells := by decide +kernel
  have q2 : 7179766 ≤ room_1.slots := by decide +kernel
  have r1 : h'.2.1 ≤ (hp0 ((List.range L).map xs)).2.1 + room_1.cells := by omega
  have r2 : h'.2.2 ≤ (hp0 ((List.range L).map xs)).2.2 + room_1.slots := by omega
  obtain ⟨n, hrun⟩ := Ru_ex run
  have hst : l.stackTraces = false := by
    unfold Launch.stackTraces
    rw [hflags]
    decide +kernel
  have hsnd := sound_all hst hRows (prims_all l G) (hMul G) n
  have hCtx : Ctx G p s m meth c 316 := ⟨hx, hb, hml, hown, hr, hlocks, fun z => absurd z (by decide +kernel), hSta⟩
  have hLAW : LAWR G p l e room_1 s m #[Value.ref b] below meth c (lw_Z below #[Value.ref b] s) φ (hp0 ((List.range L).map xs)) (.inl (some (aI 1)), h') := by
    refine ⟨⟨_, rfl⟩, fun pc x h φ' ψ' H locs cells slots ls L' hd heq I => ?_⟩
    injection heq with e1 e2
    have ex : x = 1 := by
      have e1 := Sum.inl.inj e1
      have e1 := Option.some.inj e1
      exact (Sum.inl.inj e1).symm
    subst ex
    subst e2
    obtain ⟨-, -, -, -, -, -, hS', hc, hs⟩ := I
    refine va_forget (fun q hq => ?_) (W.widen ?_ ?_ (W.base (lw_ret (Drawn.sameBut.refl s.drawn lw_cs) hx hb hr hlocks hd)))
    · have := hS'.2.2 q hq
      unfold frz at this
      rwa [gb] at this
    · have : (hp0 ((List.range L).map xs)).2.1 = 0 := rfl
      omega
    · have : (hp0 ((List.range L).map xs)).2.2 = 0 := rfl
      omega
  have hENV : ENV l G p e room_1 s m #[Value.ref b] below meth c (lw_Z below #[Value.ref b] s) 316 φ (hp0 ((List.range L).map xs)) (.inl (some (aI 1)), h') := ⟨hCtx, by
    have e0 : c.exceptionTable.toList = [] := by
      rw [Array.isEmpty_iff.mp hct]
    rw [e0]
    rfl, by
    show 30 ≤ ((List.range 30).map _).length
    rw [List.length_map, List.length_range]
    exact Nat.le_refl _, ⟨r1, r2, by decide +kernel⟩, by decide +kernel, Or.inr ⟨rfl, hLAW⟩⟩
  have hIV : IV G s 316 φ (hp0 ((List.range L).map xs)) φ (fun _ => 0) (mkL 0 [aR (some (0, 0))]) [] (hp0 ((List.range L).map xs)) s.heap [] 0 0 ((lg_sl ([aR (some (0, 0))].map (vv φ)) ++ List.replicate (mlT 316 - (lg_sl ([aR (some (0, 0))].map (vv φ))).length) Slot.unset).toArray) := by
    refine ⟨by rw [← args_map]; exact lv_entry _ (by rw [sl_len]; decide +kernel), mkL_cl _ 0 (fun v hv => ?_), (fun v hv => nomatch hv), hR, fun _ _ => rfl, fun _ => Nat.le_refl _, ⟨Nat.le_refl _, fun _ _ _ => rfl, (fun q hq => nomatch hq)⟩, by omega, by omega⟩
    rcases List.mem_cons.mp hv with z | z
    · subst z
      show 0 < ((List.range 30).map _).length
      rw [List.length_map, List.length_range]
      decide
    · cases z
  have hfin := hsnd 316 (by decide) p e room_1 s m #[Value.ref b] below meth c _ φ _ _ hENV 0 _ [] _ φ (fun _ => 0) s.heap [] 0 0 _ hrun hIV
  have ev : [aR (some (0, 0))].map (vv φ) = [Value.ref b] := by
    show [Value.ref (φ (0, 0))] = _
    rw [gφ]
  rw [ev] at hfin
  rw [lg_entry_eq]
  exact hfin
