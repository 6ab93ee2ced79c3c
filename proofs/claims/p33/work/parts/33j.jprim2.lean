/-! ===== builders and strings: each primitive keeps its contract ===== -/
section JPRIM2
variable {l : Launch} {G : Geo}
section PIC2
variable {s : State} {φ ψ : Nat × Nat → Nat} {h : Hp} {H : Heap}
theorem sb_pic (R : Hrel G s φ ψ h H) {q : Nat × Nat} {x : OC} (hx : hG h (some q) = some x) (k1 : 1000000 ≤ x.1) :
    ∃ ml f, x.2.length ≤ x.1 - 1000000 ∧ x.1 - 1000000 < 100000 ∧ va_at G.1 kcl (jSB (φ q) (ψ q) ml (nI x.2.length)) H ∧ va_at G.1 kcl (jRB G (ψ q) (x.1 - 1000000) f) H ∧ sb_Fit f ∧ (∀ j, j < x.2.length → ∃ y : Int32, x.2[j]? = some (aI y) ∧ 0 ≤ y ∧ y ≤ 255 ∧ f j = y.toInt8.toInt32) ∧ G.2.2.1 ≤ φ q ∧ G.2.2.1 ≤ ψ q ∧ φ q ≠ ψ q ∧ q.1 ≠ 0 := by
  have hr := R.1 q x hx
  unfold cellRep at hr
  rw [if_neg (by omega), if_neg (by omega), if_neg (by omega), if_neg (by omega), if_neg (by omega)] at hr
  obtain ⟨ml, h1, h2, h3, f, h4, h5, h6⟩ := hr
  have hn : ¬ isX x.1 := by unfold isX; omega
  have h0 : q.1 ≠ 0 := fun z => by
    have := R.2.2.2.2.2.2.1 q x hx z
    unfold isH at this
    omega
  have h9 := R.2.2.2.1 q x hx (by unfold isH; omega)
  exact ⟨ml, f, h1, h2, at_SB h3, h4, h5, h6, (R.2.2.1 q x hx hn).2.1 h0, h9.2.1, h9.2.2.1 q x hx hn, h0⟩
theorem sb_put (R : Hrel G s φ ψ h H) {q : Nat × Nat} {x : OC} (hx : hG h (some q) = some x) (hn : ¬ isX x.1) (h21 : 21 ≤ x.1) (hq0 : q.1 ≠ 0) {H1 : Heap} {cap' d' : Nat} {xs' : List AV} {ml' : Int32} {f' : Nat → Int32} (h1 : va_at G.1 kcl (jSB (φ q) d' ml' (nI xs'.length)) H1) (h2 : va_at G.1 kcl (jRB G d' cap' f') H1) (hf : sb_Fit f') (he : ∀ j, j < xs'.length → ∃ y : Int32, xs'[j]? = some (aI y) ∧ 0 ≤ y ∧ y ≤ 255 ∧ f' j = y.toInt8.toInt32)
    (h3 : xs'.length ≤ cap') (h4 : cap' < 100000) (hz : H.size ≤ H1.size) (hk : ∀ p, p < H.size → p ≠ φ q → (isH x.1 → p ≠ ψ q) → H1[p]? = H[p]?) (hd : (isH x.1 ∧ d' = ψ q) ∨ H.size ≤ d') : Hrel G s φ (up2 ψ q d') (hS h q (1000000 + cap', xs')) H1 := by
  refine R.put hx hq0 hn (by unfold isX; dsimp only; omega) hz hk (fun z => ⟨h2.lt, hd⟩) ?_ (fun v hv => ?_) ⟨fun z => by omega, fun _ z => by dsimp only at z; omega⟩
  · unfold cellRep
    dsimp only
    rw [if_neg (by omega), if_neg (by omega), if_neg (by omega), if_neg (by omega), if_neg (by omega), Nat.add_sub_cancel_left]
    exact ⟨ml', h3, h4, at_SB' h1, f', h2, hf, he⟩
  · obtain ⟨j, hj⟩ := List.getElem?_of_mem hv
    obtain ⟨hj1, -⟩ := List.getElem?_eq_some_iff.mp hj
    obtain ⟨y, e1, -⟩ := he j hj1
    rw [e1] at hj
    cases hj
    trivial
theorem b255 {y : Int32} (h0 : 0 ≤ y) (h1 : y ≤ 255) : y.toInt8.toInt32 &&& 255 = y := by
  obtain ⟨j, hj, rfl⟩ := nI_of (Int32.not_lt.mpr h0)
  have := (nI_leI (b := 255) hj (by decide)).mp h1
  exact sc_k8 j (by omega)
theorem b127 {y : Int32} (h0 : 0 ≤ y) (h1 : y ≤ 127) : y &&& 255 = y := by
  obtain ⟨j, hj, rfl⟩ := nI_of (Int32.not_lt.mpr h0)
  have := (nI_leI (b := 127) hj (by decide)).mp h1
  have k := pk_andN (n := j) (by omega) (m := 255) 8 (by decide)
  rw [k, Nat.mod_eq_of_lt (by omega)]
end PIC2
theorem sb_of {h : Hp} {q : Nat × Nat} {cap : Nat} {xs : List AV} (e : sbG h (some q) = some (cap, xs)) : ∃ x, hG h (some q) = some x ∧ 1000000 ≤ x.1 ∧ x = (1000000 + cap, xs) := by
  obtain ⟨x, h1, h2, h4⟩ := sbG_at e
  obtain ⟨h5, h6⟩ := Prod.mk.inj h4
  exact ⟨x, h1, h2, Prod.ext (by dsimp only; omega) h6.symm⟩
theorem sg_of {h : Hp} {q : Nat × Nat} {xs : List AV} (e : sgG h (some q) = some xs) : hG h (some q) = some (42, xs) := by
  obtain ⟨x, h1, h2, h4⟩ := sgG_at e
  rw [h1]
  exact congrArg some (Prod.ext h2 h4.symm)
set_option maxRecDepth 100000 in
theorem con_412 {as : List AV} {h : Hp} {r1 : Out × Hp} (hr : prim 412 as h = some r1) : CON l G 412 as h r1 := by
  simp only [prim] at hr
  split at hr
  · rename_i q
    cases e : sbG h (some q) with
    | none => rw [e] at hr; cases hr
    | some r =>
      obtain ⟨cap, xs⟩ := r
      rw [e] at hr
      cases hr
      obtain ⟨x, hx, k1, rfl⟩ := sb_of e
      refine con_rd (y := jy_sLen) (cc := jc_sLen) (nL := 1) (ret := jr_sLen) rfl rfl ⟨rfl, rfl⟩ (fun hcl s φ ψ hSt R => ?_)
      obtain ⟨ml, f, p1, p2, p3, p4, -⟩ := sb_pic R hx k1
      exact ⟨jE0, trivial, jm_le (c_sLen (ws := []) R.2.2.2.2.2.2.2.1 (j_P1 p3)) (by decide) (by decide), trivial⟩
  · cases hr
set_option maxRecDepth 100000 in
theorem con_413 {as : List AV} {h : Hp} {r1 : Out × Hp} (hr : prim 413 as h = some r1) : CON l G 413 as h r1 := by
  simp only [prim] at hr
  split at hr
  · rename_i q i
    cases e : sbG h (some q) with
    | none => rw [e] at hr; cases hr
    | some r =>
      obtain ⟨cap, xs⟩ := r
      rw [e] at hr
      dsimp only at hr
      split at hr
      · cases hr
      · rename_i h0
        obtain ⟨v, e1, e2⟩ := bind_some hr
        cases e2
        obtain ⟨x, hx, k1, rfl⟩ := sb_of e
        have e3 := oI_eq e1
        obtain ⟨hj, e4⟩ := List.getElem?_eq_some_iff.mp e3
        refine con_rd (y := jy_sChr) (cc := jc_sChr) (nL := 2) (ret := jr_sChr) rfl rfl ⟨rfl, rfl⟩ (fun hcl s φ ψ hSt R => ?_)
        obtain ⟨ml, f, p1, p2, p3, p4, p5, p6, -⟩ := sb_pic R hx k1
        dsimp only at p1 p2 p3 p4 p6
        rw [Nat.add_sub_cancel_left] at p1 p2 p4
        obtain ⟨ei, hi2⟩ := ofI h0
        obtain ⟨y, y1, y2, y3, y4⟩ := p6 _ hj
        rw [e3] at y1
        cases y1
        have hM := c_sChr (l := l) (k := i.toNatClampNeg) R.2.2.2.2.2.2.2.1 (j_P2 p3 p4) hj p1 p2
        rw [y4, b255 y2 y3, ← ei] at hM
        exact ⟨jE0, trivial, jm_le hM (by decide) (by decide), trivial⟩
  · cases hr
set_option maxRecDepth 100000 in
theorem con_410 {as : List AV} {h : Hp} {r1 : Out × Hp} (hr : prim 410 as h = some r1) : CON l G 410 as h r1 := by
  simp only [prim] at hr
  split at hr
  · rename_i q
    split at hr
    · rename_i hx
      cases hr
      refine con_jm (y := jy_sIn) (cc := jc_sIn) (nL := 1) (ret := jr_sIn) rfl rfl ⟨rfl, rfl⟩ (mc := 1) (ms := 16) (Nat.add_sub_cancel_left _ _) (Nat.add_sub_cancel_left _ _) (fun hcl s φ ψ hSt R => ?_)
      obtain ⟨z1, z2, hq0⟩ := R.obj hx (by decide)
      have hn : ¬ isX 22 := by unfold isX; omega
      have p6 : G.2.2.1 ≤ φ q := (R.2.2.1 q _ hx hn).2.1 hq0
      have hP : va_P G.1 kcl [jS0 (φ q) .null 0 0 0] s.heap := j_P1 ⟨_, kcl_at (a := 22) (by decide), z2.to (fun i hi => by
        have hi : i < 4 := hi
        match i, hi with
        | 0, _ => rfl
        | 1, _ => rfl
        | 2, _ => rfl
        | 3, _ => rfl)⟩
      refine ⟨jE0, [φ q], _, trivial, fun p hp => by rw [List.mem_singleton.mp hp]; exact p6, jm_le (c_sIn (l := l) R.2.2.2.2.2.2.2.1 p6 hP) (by decide) (by decide), fun v1 H1 hq hz hk => ?_⟩
      obtain ⟨rfl, d, hd, hP1⟩ := hq
      exact ⟨none, _, rfl, rfl, (fun _ hw => nomatch hw), hS_le, Hrel_hC (sb_put (cap' := 16) (d' := d) (ml' := 0) (xs' := []) R hx hn (by decide) hq0 (hP1 0 _ rfl) (hP1 1 _ rfl) sb_fit0 (fun j hj => absurd hj (Nat.not_lt_zero _)) (Nat.zero_le _) (by decide) hz (fun p hp h1 h2 => hk p hp (fun z => h1 (List.mem_singleton.mp z))) (Or.inr hd))⟩
    · cases hr
  · cases hr
theorem str_pic {s : State} {φ ψ : Nat × Nat → Nat} {h : Hp} {H : Heap} (R : Hrel G s φ ψ h H) {q : Nat × Nat} {xs : List AV} (hx : hG h (some q) = some (42, xs)) : ∃ e, jSg G (φ q) e xs.length (rowV (fun _ => 0) xs) H s ∧ xs.length < 1000 ∧ ∀ j, j < xs.length → ∃ y : Int32, xs[j]? = some (aI y) ∧ 0 ≤ y ∧ y ≤ 127 := by
  have hr := R.1 q _ hx
  unfold cellRep at hr
  dsimp only at hr
  rw [if_neg (by decide), if_neg (by decide), if_pos (by decide)] at hr
  obtain ⟨-, e, h1, h2, h3, h4, h5, h6⟩ := hr
  exact ⟨e, ⟨h1, h2, h3, h4⟩, h5, h6⟩
set_option maxRecDepth 100000 in
theorem con_415 {as : List AV} {h : Hp} {r1 : Out × Hp} (hr : prim 415 as h = some r1) : CON l G 415 as h r1 := by
  simp only [prim] at hr
  split at hr
  · rename_i q
    cases e : sgG h (some q) with
    | none => rw [e] at hr; cases hr
    | some xs =>
      rw [e] at hr
      cases hr
      have hx := sg_of e
      refine con_rd (y := jy_gLen) (cc := jc_gLen) (nL := 1) (ret := jr_gLen) rfl rfl ⟨rfl, rfl⟩ (fun hcl s φ ψ hSt R => ?_)
      obtain ⟨d, p1, p2, p3⟩ := str_pic R hx
      exact ⟨_, p1, jm_le (c_gLen R.2.2.2.2.2.2.2.1) (by decide) (by decide), trivial⟩
  · cases hr
set_option maxRecDepth 100000 in
theorem con_416 {as : List AV} {h : Hp} {r1 : Out × Hp} (hr : prim 416 as h = some r1) : CON l G 416 as h r1 := by
  simp only [prim] at hr
  split at hr
  · rename_i q i
    cases e : sgG h (some q) with
    | none => rw [e] at hr; cases hr
    | some xs =>
      rw [e] at hr
      dsimp only at hr
      split at hr
      · cases hr
      · rename_i h0
        obtain ⟨v, e1, e2⟩ := bind_some hr
        cases e2
        have hx := sg_of e
        have e3 := oI_eq e1
        obtain ⟨hj, e4⟩ := List.getElem?_eq_some_iff.mp e3
        refine con_rd (y := jy_gChr) (cc := jc_gChr) (nL := 2) (ret := jr_gChr) rfl rfl ⟨rfl, rfl⟩ (fun hcl s φ ψ hSt R => ?_)
        obtain ⟨d, p1, p2, p3⟩ := str_pic R hx
        obtain ⟨ei, hi2⟩ := ofI h0
        obtain ⟨y, y1, y2, y3⟩ := p3 _ hj
        rw [e3] at y1
        cases y1
        have hM := c_gChr (l := l) (a := φ q) (e := d) (x := v) (k := i.toNatClampNeg) (v := rowV (fun _ => 0) xs) R.2.2.2.2.2.2.2.1 hj p2 (by rw [rowV_at hj, e4]; rfl)
        rw [b127 y2 y3, ← ei] at hM
        exact ⟨_, p1, jm_le hM (by decide) (by decide), trivial⟩
  · cases hr
end JPRIM2
