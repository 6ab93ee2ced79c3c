/-! ===== the words that hold in every state of the run ===== -/
def nestW : Cond → Bool
  | .fieldLinkNest .. => true
  | .methodLinkNest .. => true
  | .castable .. => true
  | .declares .. => true
  | _ => false
def okW (w : Cond) : Bool := goodWord w || nestW w
def AllW (U : State) : Prop := ∀ w ∈ lw_tbl, okW w = true → w.before #[] U = true
theorem okW_at {w : Cond} (h : okW w = true) {a a' : Array Value} {s U : State} (hW : s.WarmedH U.vm) (hb : w.before a s = true) : w.before a' U = true := by
  unfold okW at h
  rw [Bool.or_eq_true] at h
  rcases h with h | h
  · exact word_at hW (good_of_word h) hb
  · have hon : w.onTables = true := by cases w <;> first | rfl | (simp [nestW] at h)
    by_cases hc : ∃ x y, w = .castable x y
    · obtain ⟨x, y, rfl⟩ := hc
      exact va_tabs (A := a) (u := s.setVm U.vm) (U := U) rfl rfl (by rw [Cond.castable_setVm hW.alike]; exact hb)
    by_cases hd : ∃ x, w = .declares x
    · obtain ⟨x, rfl⟩ := hd
      exact va_tabs (A := a) (u := s.setVm U.vm) (U := U) rfl rfl (by rw [Cond.declares_setVm hW.alike]; exact hb)
    have h0 : va_Nw w s := va_Nw.of hon hb
    have h1 : va_Nw w U := by
      cases w <;> first | exact va_Nw.warmF hW h0 | exact va_Nw.warmM hW h0 | (simp [nestW] at h; done) | exact absurd ⟨_, _, rfl⟩ hc | exact absurd ⟨_, rfl⟩ hd
    exact va_Nw.use hon h1
theorem AllW.warm {s U : State} (h : AllW s) (hW : s.WarmedH U.vm) : AllW U := fun w hw hk => okW_at hk hW (h w hw hk)
theorem AllW.of {a : Array Value} {s : State} (h : ∀ w ∈ lw_tbl, w.before a s = true) : AllW s := fun w hw hk => okW_at hk (State.WarmedH.refl s) (h w hw)
theorem AllW.at {s : State} (h : AllW s) (a : Array Value) {w : Cond} (hw : w ∈ lw_tbl) (hk : okW w = true) : w.before a s = true := okW_at hk (State.WarmedH.refl s) (h w hw hk)
/-! ===== classes and arrays ===== -/
def kcl : List vw_C := [(RX0, TX0, 3), (RX1, TX1, 17), (RX2, TX2, 3), (RX3, TX3, 5), (RX4, TX4, 13), (RX5, TX5, 4), (RX6, TX6, 15), (RX7, TX7, 12), (RX8, TX8, 4), (RX9, TX9, 3), (RX10, TX10, 13), (RX11, TX11, 12), (RX0, TX0, 3), (RX0, TX0, 3), (RX0, TX0, 3), (RX0, TX0, 3), (RX0, TX0, 3), (RX0, TX0, 3), (RX0, TX0, 3), (RX0, TX0, 3), (RX0, TX0, 3), (RJx4a65c, TJx4a65c, 3), (RJ4, TJ4, 4), (RX0, TX0, 3)]
def cAt (a : Nat) : vw_C := kcl.getD a ("", fun _ => ("", "", "", false), 0)
theorem kcl_at {a : Nat} (h : a < 24) : kcl[a]? = some (cAt a) := by
  have : a < kcl.length := h
  unfold cAt
  rw [List.getD_eq_getElem?_getD, List.getElem?_eq_getElem this]
  rfl
/-- an array's type, by its kind -/
def tyK (k : Nat) : Option FieldType := match k with
  | 1000 => some .int
  | 1002 => some .boolean
  | 1003 => some .byte
  | 1010 => some (.object "java/lang/Object")
  | 1015 => some (.object RX4)
  | _ => none
/-! ===== our values and the machine's ===== -/
def vv (φ : Nat × Nat → Nat) (v : AV) : Value := match v with
  | .inl x => .int x
  | .inr (.inl x) => .long x
  | .inr (.inr (.inl x)) => .float x
  | .inr (.inr (.inr (.inl x))) => .double x
  | .inr (.inr (.inr (.inr (some q)))) => .ref (φ q)
  | .inr (.inr (.inr (.inr none))) => .null
def rowV (φ : Nat × Nat → Nat) (vs : List AV) : Nat → Value := fun j => vv φ (vs.getD j (aI 0))
theorem vv_cat (φ : Nat × Nat → Nat) (v : AV) : (vv φ v).category = catV v := by
  rcases v with _ | _ | _ | _ | _ | _ <;> rfl
/-- a value's name is one of the heap's -/
def clV (h : Hp) (v : AV) : Prop := match v with
  | .inr (.inr (.inr (.inr (some q)))) => q.2 < (h.1 q.1).length
  | _ => True
/-- what stays fixed in a run: the classes' numbers and slots, the arrays' classes, where the run's own cells begin, where the constants lie -/
abbrev Geo : Type := va_G × (Nat → ClassId) × Nat × (Nat → Nat)
/-- the class of an array of references, by its kind -/
def acl (G : Geo) (k : Nat) : Option ClassId := match Nat.ble 1010 k with | true => some (G.2.1 k) | false => none
def arrRep (U : State) (cA : Option ClassId) (φ : Nat × Nat → Nat) (ty : FieldType) (vs : List AV) (a : Nat) (H : Heap) : Prop :=
  ∃ cell : Cell, H[a]? = some cell ∧ U.isArrayOf cell ty ∧ cell.vm ≠ .unknown ∧ vs.length ≤ cell.slots.size ∧ cell.slots.size.toInt32 = Int32.ofNat vs.length ∧ (∀ j : Nat, j < vs.length → cell.slots[j]? = some (rowV φ vs j)) ∧ ∀ z, cA = some z → cell.cls = z
def frz (G : Geo) : Nat → Prop := fun q => G.2.2.1 ≤ q
def strRep (G : Geo) (U : State) (vs : List AV) (a : Nat) (H : Heap) : Prop :=
  ∃ e : Nat, va_O "java/lang/String" a (frz G) U H ∧ va_OF "java/lang/String" "coder" "B" (.int 0) a (frz G) U H ∧ va_OF "java/lang/String" "value" "[B" (.ref e) a (frz G) U H ∧ va_T .byte e vs.length (rowV (fun _ => 0) vs) (frz G) U H ∧ vs.length < 1000 ∧ ∀ j, j < vs.length → ∃ x : Int32, vs[j]? = some (aI x) ∧ 0 ≤ x ∧ x ≤ 127
/-- a list of capacity cap: its row of elements at d; capacity 0: the JDK's shared empty row -/
def liRep (G : Geo) (φ : Nat × Nat → Nat) (cap : Nat) (vs : List AV) (d a : Nat) (H : Heap) : Prop :=
  ∃ mc : Int32, vs.length ≤ cap ∧ (cap < 100000 ∧ cap ≠ 1) ∧ t_OB a (G.1.1 21) 3 (G.1.2 21) H (vp_V [.int mc, .ref (if cap = 0 then G.2.2.2 2 else d), .int (nI vs.length)]) ∧ (cap ≠ 0 → ∃ f : Nat → Option Nat, H[d]? = some (vp_cell (G.2.1 1010) (cap, .inr (.inr (.inr (.inr f))))) ∧ ∀ j, j < vs.length → va_rf (f j) = rowV φ vs j)
/-- a string builder of capacity cap, Latin-1 -/
def sbRep (G : Geo) (cap : Nat) (vs : List AV) (d a : Nat) (H : Heap) : Prop :=
  ∃ ml : Int32, vs.length ≤ cap ∧ cap < 100000 ∧ t_OB a (G.1.1 22) 4 (G.1.2 22) H (vp_V [.ref d, .int 0, .int ml, .int (nI vs.length)]) ∧ ∃ f : Nat → Int32, H[d]? = some (vp_cell (G.2.1 1003) (cap, .inl f)) ∧ sb_Fit f ∧ ∀ j, j < vs.length → ∃ x : Int32, vs[j]? = some (aI x) ∧ 0 ≤ x ∧ x ≤ 255 ∧ f j = x.toInt8.toInt32
def cellRep (G : Geo) (U : State) (φ : Nat × Nat → Nat) (x : OC) (d a : Nat) (H : Heap) : Prop :=
  if x.1 < 24 then x.2.length = (cAt x.1).2.2 ∧ t_OB a (G.1.1 x.1) (cAt x.1).2.2 (G.1.2 x.1) H (rowV φ x.2)
  else if x.1 < 40 then True
  else if x.1 < 1000 then x.1 = 42 ∧ strRep G U x.2 a H
  else if x.1 < 2000 then ∃ ty, tyK x.1 = some ty ∧ arrRep U (acl G x.1) φ ty x.2 a H
  else if x.1 < 1000000 then liRep G φ (x.1 - 2000) x.2 d a H
  else sbRep G (x.1 - 1000000) x.2 d a H
/-- kinds that are closed (exceptions), kinds with a hidden row -/
def isX (k : Nat) : Prop := 24 ≤ k ∧ k < 40
def isH (k : Nat) : Prop := 2000 < k
/-- what a list holds: null or objects -/
def okE (h : Hp) (v : AV) : Prop := ∀ q y, v = aR (some q) → hG h (some q) = some y → y.1 < 21
def LINV (h : Hp) : Prop := ∀ q x, hG h (some q) = some x → 2000 ≤ x.1 → x.1 < 1000000 → ∀ v ∈ x.2, okE h v
/-- the cells of the run -/
def Hrel (G : Geo) (U : State) (φ ψ : Nat × Nat → Nat) (h : Hp) (H : Heap) : Prop :=
  (∀ q x, hG h (some q) = some x → cellRep G U φ x (ψ q) (φ q) H) ∧
  (∀ q q' x x', hG h (some q) = some x → hG h (some q') = some x' → ¬ isX x.1 → ¬ isX x'.1 → φ q = φ q' → q = q') ∧
  (∀ q x, hG h (some q) = some x → ¬ isX x.1 → φ q < H.size ∧ (q.1 ≠ 0 → G.2.2.1 ≤ φ q) ∧ (q.1 = 0 → φ q < G.2.2.1)) ∧
  (∀ q x, hG h (some q) = some x → isH x.1 → ψ q < H.size ∧ G.2.2.1 ≤ ψ q ∧ (∀ q' x', hG h (some q') = some x' → ¬ isX x'.1 → φ q' ≠ ψ q) ∧ (∀ q' x', hG h (some q') = some x' → isH x'.1 → ψ q = ψ q' → q = q')) ∧
  (∀ q x, hG h (some q) = some x → ∀ v ∈ x.2, clV h v) ∧
  (∀ k, φ (0, k) = G.2.2.2 k) ∧ (∀ q x, hG h (some q) = some x → q.1 = 0 → 24 ≤ x.1 ∧ ¬ isH x.1 ∧ x.1 ≠ 2000) ∧ G.2.2.1 ≤ H.size ∧ LINV h
theorem hG_lt {h : Hp} {q : Nat × Nat} {x : OC} (e : hG h (some q) = some x) : q.2 < (h.1 q.1).length := by
  unfold hG at e
  exact (List.getElem?_eq_some_iff.mp e).1
theorem hG_of_lt {h : Hp} {q : Nat × Nat} (e : q.2 < (h.1 q.1).length) : ∃ x, hG h (some q) = some x := ⟨_, List.getElem?_eq_getElem e⟩
theorem hS_len (h : Hp) (q : Nat × Nat) (c : OC) (s : Nat) : ((hS h q c).1 s).length = (h.1 s).length := by
  unfold hS
  dsimp only
  split <;> simp
theorem beq_ff {a b : Nat} (h : a ≠ b) : Nat.beq a b = false := by
  cases hb : Nat.beq a b
  · rfl
  · exact absurd (Nat.eq_of_beq_eq_true hb) h
theorem beq_tt {a b : Nat} (h : a = b) : Nat.beq a b = true := by subst h; exact Nat.beq_refl a
theorem hS_get {h : Hp} {q : Nat × Nat} (c : OC) (hq : q.2 < (h.1 q.1).length) (q' : Nat × Nat) : hG (hS h q c) (some q') = if q' = q then some c else hG h (some q') := by
  unfold hG hS
  dsimp only
  by_cases e : q'.1 = q.1
  · rw [beq_tt e]
    dsimp only
    rw [e]
    by_cases e2 : q'.2 = q.2
    · rw [e2, if_pos (Prod.ext e e2)]
      simp [hq]
    · rw [if_neg (fun z => e2 (by rw [z])), List.getElem?_set_ne (Ne.symm e2)]
  · rw [beq_ff e, if_neg (fun z => e (by rw [z]))]
theorem clV_len {h h' : Hp} (hl : ∀ s, (h.1 s).length ≤ (h'.1 s).length) {v : AV} (hv : clV h v) : clV h' v := by
  unfold clV at hv ⊢
  split
  · exact Nat.lt_of_lt_of_le hv (hl _)
  · trivial
theorem hN_len (h : Hp) (site : Nat) (c : OC) (n s : Nat) : ((hN h site c n).1 s).length = (h.1 s).length + (if s = site then 1 else 0) := by
  unfold hN
  dsimp only
  by_cases e : s = site
  · rw [beq_tt e, if_pos e]; simp
  · rw [beq_ff e, if_neg e]; simp
theorem hN_get (h : Hp) (site : Nat) (c : OC) (n : Nat) (q : Nat × Nat) : hG (hN h site c n) (some q) = if q = (site, (h.1 site).length) then some c else hG h (some q) := by
  unfold hG hN
  dsimp only
  by_cases e : q.1 = site
  · rw [beq_tt e]
    dsimp only
    rw [e]
    by_cases e2 : q.2 = (h.1 site).length
    · rw [if_pos (Prod.ext e e2), e2]; simp
    · rw [if_neg (fun z => e2 (by rw [z]))]
      by_cases e3 : q.2 < (h.1 site).length
      · rw [List.getElem?_append_left e3]
      · rw [List.getElem?_eq_none (by simp; omega), List.getElem?_eq_none (by omega)]
  · rw [beq_ff e, if_neg (fun z => e (by rw [z]))]
/-- an address as a function that is changed at one place -/
def up2 (f : Nat × Nat → Nat) (q : Nat × Nat) (a : Nat) : Nat × Nat → Nat := fun x => if x = q then a else f x
theorem vv_congr {h : Hp} {φ φ' : Nat × Nat → Nat} (hφ : ∀ q : Nat × Nat, q.2 < (h.1 q.1).length → φ' q = φ q) {v : AV} (hv : clV h v) : vv φ' v = vv φ v := by
  rcases v with _ | _ | _ | _ | _ | q
  all_goals first | rfl | skip
  show Value.ref (φ' q) = Value.ref (φ q)
  rw [hφ q hv]
theorem rowV_congr {h : Hp} {φ φ' : Nat × Nat → Nat} (hφ : ∀ q : Nat × Nat, q.2 < (h.1 q.1).length → φ' q = φ q) {vs : List AV} (hv : ∀ v ∈ vs, clV h v) (j : Nat) : rowV φ' vs j = rowV φ vs j := by
  unfold rowV
  by_cases hj : j < vs.length
  · refine vv_congr hφ (hv _ ?_)
    rw [List.getD_eq_getElem?_getD, List.getElem?_eq_getElem hj]
    exact List.getElem_mem hj
  · rw [List.getD_eq_getElem?_getD, List.getElem?_eq_none (by omega)]
    rfl
theorem va_O_kept' {C : String} {a : Nat} {A : Nat → Prop} {U : State} {H H1 : Heap} (h : va_O C a A U H) (hq : ∀ a : Nat, a < H.size → ¬ A a → H1[a]? = H[a]?) : va_O C a A U H1 := h.kept hq
/-- a cell's picture needs its own address, its hidden one, the old cells that the run can't write, and names that stay -/
theorem cellRep_kept {G : Geo} {U : State} {h : Hp} {φ φ' : Nat × Nat → Nat} {x : OC} {d a : Nat} {H H1 : Heap} (hr : cellRep G U φ x d a H) (hcl : ∀ v ∈ x.2, clV h v) (hφ : ∀ q : Nat × Nat, q.2 < (h.1 q.1).length → φ' q = φ q) (ha : ¬ isX x.1 → H1[a]? = H[a]?) (hd : isH x.1 → H1[d]? = H[d]?) (hz : ∀ q, q < H.size → q < G.2.2.1 → H1[q]? = H[q]?) : cellRep G U φ' x d a H1 := by
  have hrow := rowV_congr hφ hcl
  unfold cellRep at hr ⊢
  split
  · rename_i c
    rw [if_pos c] at hr
    exact ⟨hr.1, (hr.2.kept (ha (by unfold isX; omega))).to (fun k _ => (hrow k).symm)⟩
  · rename_i c
    rw [if_neg c] at hr
    split
    · trivial
    · rename_i c2
      rw [if_neg c2] at hr
      have hx : ¬ isX x.1 := by unfold isX; omega
      split
      · rename_i c3
        rw [if_pos c3] at hr
        obtain ⟨h0, e, h1, h2, h3, h4, h5⟩ := hr
        have hk : ∀ q : Nat, q < H.size → ¬ frz G q → H1[q]? = H[q]? := fun q hq hf => hz q hq (by unfold frz at hf; omega)
        exact ⟨h0, e, h1.kept hk, h2.kept hk, h3.kept hk, h4.kept hk, h5⟩
      · rename_i c3
        rw [if_neg c3] at hr
        split
        · rename_i c4
          rw [if_pos c4] at hr
          obtain ⟨ty, h1, cell, h2, h3, h4, h5, h6, h7, h8⟩ := hr
          exact ⟨ty, h1, cell, by rw [ha hx]; exact h2, h3, h4, h5, h6, fun j hj => by rw [hrow]; exact h7 j hj, h8⟩
        · rename_i c4
          rw [if_neg c4] at hr
          split
          · rename_i c5
            rw [if_pos c5] at hr
            obtain ⟨mc, h1, h2, h3, h4⟩ := hr
            refine ⟨mc, h1, h2, h3.kept (ha hx), fun h0 => ?_⟩
            obtain ⟨f, h5, h6⟩ := h4 h0
            exact ⟨f, by rw [hd (by unfold isH; omega)]; exact h5, fun j hj => by rw [hrow]; exact h6 j hj⟩
          · rename_i c5
            rw [if_neg c5] at hr
            obtain ⟨ml, h1, h2, h3, f, h5, h6, h7⟩ := hr
            exact ⟨ml, h1, h2, h3.kept (ha hx), f, by rw [hd (by unfold isH; omega)]; exact h5, h6, h7⟩
