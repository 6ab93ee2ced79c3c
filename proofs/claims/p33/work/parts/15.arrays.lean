section ARR
variable {G : Geo} {p : Program} {l : Launch} {e e0 : Env} {R : Room} {s : State} {m : MethodId} {args : Array Value} {below : List Frame} {meth : Method} {c : Code} {Q : State → Prop} {k : Nat} {φ0 : Nat × Nat → Nat} {h0 : Hp} {res : Out × Hp} {K : KT} {C : CT} {X : XT}
variable {φ ψ : Nat × Nat → Nat} {L : LV} {st : List AV} {h : Hp} {H : Heap} {locs : List Loc} {cells slots : Nat} {ls : Array Slot} {pc a b : Nat} {ts : List Nat}
theorem ga_spec {o : Option (Nat × Nat)} {kd : Nat} {i : Int32} {v : AV} (e : ga h o kd i = some v) : ∃ q x, o = some q ∧ hG h (some q) = some x ∧ x.1 = kd ∧ ¬ i < 0 ∧ x.2[i.toNatClampNeg]? = some v := by
  unfold ga at e
  cases o with
  | none => cases e
  | some q =>
    cases hx : hG h (some q) with
    | none => rw [hx] at e; cases e
    | some x =>
      rw [hx] at e
      dsimp only at e
      split at e
      · rename_i hb
        split at e
        · cases e
        · rename_i hi
          exact ⟨q, x, rfl, hx, Nat.eq_of_beq_eq_true hb, hi, e⟩
      · cases e
theorem gaR_spec {o : Option (Nat × Nat)} {i : Int32} {v : Option (Nat × Nat)} (e : gaR h o i = some v) : ∃ q x, o = some q ∧ hG h (some q) = some x ∧ 1010 ≤ x.1 ∧ x.1 < 2000 ∧ ¬ i < 0 ∧ x.2[i.toNatClampNeg]? = some (aR v) := by
  unfold gaR at e
  cases o with
  | none => cases e
  | some q =>
    cases hx : hG h (some q) with
    | none => rw [hx] at e; cases e
    | some x =>
      rw [hx] at e
      dsimp only at e
      split at e
      · rename_i hb
        rw [Bool.and_eq_true] at hb
        split at e
        · cases e
        · rename_i hi
          exact ⟨q, x, rfl, hx, Nat.le_of_ble_eq_true hb.1, by have := Nat.le_of_ble_eq_true hb.2; omega, hi, oR_eq e⟩
      · cases e
theorem pa_spec {o : Option (Nat × Nat)} {kd : Nat} {i : Int32} {v : AV} {h1 : Hp} (e : pa h o kd i v = some h1) : ∃ q x, o = some q ∧ hG h (some q) = some x ∧ x.1 = kd ∧ q.1 ≠ 0 ∧ ¬ (i < 0 ∨ x.2.length ≤ i.toNatClampNeg) ∧ h1 = hS h q (kd, x.2.set i.toNatClampNeg v) := by
  unfold pa at e
  cases o with
  | none => cases e
  | some q =>
    dsimp only at e
    cases hx : hG h (some q) with
    | none => rw [hx] at e; cases e
    | some x =>
      rw [hx] at e
      dsimp only at e
      split at e
      · rename_i hb
        rw [Bool.and_eq_true] at hb
        split at e
        · cases e
        · rename_i hi
          cases e
          exact ⟨q, x, rfl, hx, Nat.eq_of_beq_eq_true hb.1, by have := Nat.le_of_ble_eq_true hb.2; omega, hi, rfl⟩
      · cases e
/-- the machine's array cell for a place that can be read -/
theorem IV.arrAt (I : IV G s k φ0 h0 φ ψ L st h H locs cells slots ls) {q : Nat × Nat} {x : OC} {i : Int32} {v : AV} (e : hG h (some q) = some x) (h1 : 1000 ≤ x.1) (h2 : x.1 < 2000) (hi : ¬ i < 0) (hv : x.2[i.toNatClampNeg]? = some v) :
    ∃ ty cell, tyK x.1 = some ty ∧ H[φ q]? = some cell ∧ s.isArrayOf cell ty ∧ cell.vm ≠ .unknown ∧ ¬ (i < 0 ∨ cell.slots.size ≤ i.toNatClampNeg) ∧ cell.slots[i.toNatClampNeg]? = some (vv φ v) ∧ clV h v := by
  obtain ⟨ty, t1, cell, c1, c2, c3, c4, c5, c6, -⟩ := I.2.2.2.1.arr e h1 h2
  have hlt : i.toNatClampNeg < x.2.length := (List.getElem?_eq_some_iff.mp hv).1
  refine ⟨ty, cell, t1, c1, c2, c3, ?_, ?_, I.2.2.2.1.2.2.2.2.1 q x e v (List.mem_of_getElem? hv)⟩
  · rintro (z | z)
    · exact hi z
    · omega
  · rw [c6 _ hlt]
    unfold rowV
    rw [List.getD_eq_getElem?_getD, hv]
    rfl
theorem arrR_set {U : State} {cA : Option ClassId} {ty : FieldType} {vs : List AV} {ad : Nat} {cell : Cell} {H' : Heap} {j : Nat} {v : AV} (c2 : U.isArrayOf cell ty) (c3 : cell.vm ≠ .unknown) (c4 : vs.length ≤ cell.slots.size) (c5 : cell.slots.size.toInt32 = Int32.ofNat vs.length) (c6 : ∀ j : Nat, j < vs.length → cell.slots[j]? = some (rowV φ vs j)) (c7 : ∀ z, cA = some z → cell.cls = z) (hj : j < vs.length) (e1 : H'[ad]? = some (cell.setSlot j (vv φ v))) : arrRep U cA φ ty (vs.set j v) ad H' := by
  refine ⟨_, e1, c2, c3, by rw [List.length_set, k2_slotsz]; exact c4, by rw [List.length_set, k2_slotsz]; exact c5, fun i hi => ?_, c7⟩
  rw [List.length_set] at hi
  unfold rowV
  rw [List.getD_eq_getElem?_getD]
  by_cases z : i = j
  · subst z
    rw [List.getElem?_set_self hi]
    show (cell.slots.setIfInBounds i (vv φ v))[i]? = _
    rw [Array.getElem?_setIfInBounds_self_of_lt (by omega)]
    rfl
  · rw [List.getElem?_set_ne (Ne.symm z)]
    show (cell.slots.setIfInBounds j (vv φ v))[i]? = _
    rw [Array.getElem?_setIfInBounds_ne (Ne.symm z), c6 i hi]
    unfold rowV
    rw [List.getD_eq_getElem?_getD]
/-- a write of an array's place, whatever the instruction -/
theorem wr_arr (I : IV G s k φ0 h0 φ ψ L st h H locs cells slots ls) {q : Nat × Nat} {x : OC} {i : Int32} {v : AV} {rest : List AV} (hx : hG h (some q) = some x) (h1 : 1000 ≤ x.1) (h2 : x.1 < 2000) (hq0 : q.1 ≠ 0) (hi : ¬ (i < 0 ∨ x.2.length ≤ i.toNatClampNeg)) (hcv : clV h v) (hcr : ∀ v ∈ rest, clV h v) :
    ∃ ty cell, tyK x.1 = some ty ∧ H[φ q]? = some cell ∧ s.isArrayOf cell ty ∧ cell.vm ≠ .unknown ∧ ¬ (i < 0 ∨ cell.slots.size ≤ i.toNatClampNeg) ∧ (∀ z, acl G x.1 = some z → cell.cls = z) ∧
      ∀ H' : Heap, H'[φ q]? = some (cell.setSlot i.toNatClampNeg (vv φ v)) → H'.size = H.size → (∀ y, y ≠ φ q → H'[y]? = H[y]?) → ∃ ψ', IV G s k φ0 h0 φ ψ' L rest (hS h q (x.1, x.2.set i.toNatClampNeg v)) H' (locs ++ [⟨φ q, i.toNatClampNeg⟩]) cells slots ls := by
  obtain ⟨ty, t1, cell, c1, c2, c3, c4, c5, c6, c7⟩ := I.2.2.2.1.arr hx h1 h2
  have hlt : i.toNatClampNeg < x.2.length := Nat.not_le.mp fun z => hi (Or.inr z)
  refine ⟨ty, cell, t1, c1, c2, c3, ?_, c7, fun H' e1 e2 e3 => ⟨_, I.write (x1 := (x.1, x.2.set i.toNatClampNeg v)) i.toNatClampNeg hx hq0 ?_ ?_ ?_ e2 e3 ?_ ?_ hcr ⟨rfl, h2⟩⟩⟩
  · rintro (z | z)
    · exact hi (Or.inl z)
    · omega
  · unfold isX; omega
  · unfold isX; dsimp only; omega
  · unfold isH; dsimp only; omega
  · unfold cellRep
    dsimp only
    rw [if_neg (by omega), if_neg (by omega), if_neg (by omega), if_pos h2]
    exact ⟨ty, t1, arrR_set c2 c3 c4 c5 c6 c7 hlt e1⟩
  · intro w hw
    rcases List.mem_or_eq_of_mem_set hw with z | z
    · exact I.2.2.2.1.2.2.2.2.1 q x hx w z
    · rw [z]; exact hcv
theorem ref_ty {kd : Nat} {ty : FieldType} (h : tyK kd = some ty) (h2 : 1010 ≤ kd) : ty.isReference = true := by
  unfold tyK at h
  split at h <;> first | omega | (cases h; rfl) | (cases h)
theorem sn_iaload (hX : Ctx G p s m meth c k) (hK : KOK G p l e R s m args below meth c Q k φ0 h0 res K) (I : IV G s k φ0 h0 φ ψ L st h H locs cells slots ls) (hd : decode (bT k) pc = .ok (.iaload, 1)) (hr : F K C X (.iaload) (pc + 1) a b ts L st h = some res) : W p l e R s m args below meth c H locs cells slots Q (F0 m pc ls (st.map (vv φ))) := by
  have hs := I.2.2.1
  unfold F at hr
  dsimp only at hr
  split at hr
  · simp only [List.forall_mem_cons] at hs
    obtain ⟨x, e, hr2⟩ := bind_some hr
    clear hr
    obtain ⟨q, y, rfl, h1, h2, h3, h4⟩ := ga_spec (oI_eq e)
    obtain ⟨ty, cell, t1, c1, c2, c3, c4, c5, c6⟩ := I.arrAt h1 (by omega) (by omega) h3 h4
    rw [h2] at t1
    cases t1
    refine W.iald hX.1 hX.2.1 c1 c2 c3 c4 c5 rfl rfl hd (hK _ _ _ _ _ _ _ _ _ _ _ hr2 (I.st ?_))
    exact List.forall_mem_cons.mpr ⟨trivial, hs.2.2⟩
  · cases hr
theorem sn_laload (hX : Ctx G p s m meth c k) (hK : KOK G p l e R s m args below meth c Q k φ0 h0 res K) (I : IV G s k φ0 h0 φ ψ L st h H locs cells slots ls) (hd : decode (bT k) pc = .ok (.laload, 1)) (hr : F K C X (.laload) (pc + 1) a b ts L st h = some res) : W p l e R s m args below meth c H locs cells slots Q (F0 m pc ls (st.map (vv φ))) := by
  have hs := I.2.2.1
  unfold F at hr
  dsimp only at hr
  split at hr
  · simp only [List.forall_mem_cons] at hs
    obtain ⟨x, e, hr2⟩ := bind_some hr
    clear hr
    obtain ⟨q, y, rfl, h1, h2, h3, h4⟩ := ga_spec (oL_eq e)
    obtain ⟨ty, cell, t1, c1, c2, c3, c4, c5, c6⟩ := I.arrAt h1 (by omega) (by omega) h3 h4
    rw [h2] at t1
    cases t1
  · cases hr
theorem sn_daload (hX : Ctx G p s m meth c k) (hK : KOK G p l e R s m args below meth c Q k φ0 h0 res K) (I : IV G s k φ0 h0 φ ψ L st h H locs cells slots ls) (hd : decode (bT k) pc = .ok (.daload, 1)) (hr : F K C X (.daload) (pc + 1) a b ts L st h = some res) : W p l e R s m args below meth c H locs cells slots Q (F0 m pc ls (st.map (vv φ))) := by
  have hs := I.2.2.1
  unfold F at hr
  dsimp only at hr
  split at hr
  · simp only [List.forall_mem_cons] at hs
    obtain ⟨x, e, hr2⟩ := bind_some hr
    clear hr
    obtain ⟨q, y, rfl, h1, h2, h3, h4⟩ := ga_spec (oD_eq e)
    obtain ⟨ty, cell, t1, c1, c2, c3, c4, c5, c6⟩ := I.arrAt h1 (by omega) (by omega) h3 h4
    rw [h2] at t1
    cases t1
  · cases hr
theorem sn_baload (hX : Ctx G p s m meth c k) (hK : KOK G p l e R s m args below meth c Q k φ0 h0 res K) (I : IV G s k φ0 h0 φ ψ L st h H locs cells slots ls) (hd : decode (bT k) pc = .ok (.baload, 1)) (ha : a = 1002 ∨ a = 1003) (hr : F K C X (.baload) (pc + 1) a b ts L st h = some res) : W p l e R s m args below meth c H locs cells slots Q (F0 m pc ls (st.map (vv φ))) := by
  have hs := I.2.2.1
  unfold F at hr
  dsimp only at hr
  split at hr
  · simp only [List.forall_mem_cons] at hs
    obtain ⟨x, e, hr2⟩ := bind_some hr
    clear hr
    obtain ⟨q, y, rfl, h1, h2, h3, h4⟩ := ga_spec (oI_eq e)
    obtain ⟨ty, cell, t1, c1, c2, c3, c4, c5, c6⟩ := I.arrAt h1 (by omega) (by omega) h3 h4
    rcases ha with ha | ha
    · rw [h2, ha] at t1
      cases t1
      refine W.zald hX.1 hX.2.1 c1 c2 c3 c4 c5 rfl rfl hd (hK _ _ _ _ _ _ _ _ _ _ _ hr2 (I.st ?_))
      exact List.forall_mem_cons.mpr ⟨trivial, hs.2.2⟩
    · rw [h2, ha] at t1
      cases t1
      refine W.bald hX.1 hX.2.1 c1 c2 c3 c4 c5 rfl rfl hd (hK _ _ _ _ _ _ _ _ _ _ _ hr2 (I.st ?_))
      exact List.forall_mem_cons.mpr ⟨trivial, hs.2.2⟩
  · cases hr
theorem sn_aaload (hX : Ctx G p s m meth c k) (hK : KOK G p l e R s m args below meth c Q k φ0 h0 res K) (I : IV G s k φ0 h0 φ ψ L st h H locs cells slots ls) (hd : decode (bT k) pc = .ok (.aaload, 1)) (hr : F K C X (.aaload) (pc + 1) a b ts L st h = some res) : W p l e R s m args below meth c H locs cells slots Q (F0 m pc ls (st.map (vv φ))) := by
  have hs := I.2.2.1
  unfold F at hr
  dsimp only at hr
  split at hr
  · simp only [List.forall_mem_cons] at hs
    obtain ⟨x, e, hr2⟩ := bind_some hr
    clear hr
    obtain ⟨q, y, rfl, h1, h2, h2', h3, h4⟩ := gaR_spec e
    obtain ⟨ty, cell, t1, c1, c2, c3, c4, c5, c6⟩ := I.arrAt h1 (by omega) (by omega) h3 h4
    refine W.aald hX.1 hX.2.1 c1 c2 (ref_ty t1 h2) c3 c4 c5 rfl rfl hd (hK _ _ _ _ _ _ _ _ _ _ _ hr2 (I.st ?_))
    exact List.forall_mem_cons.mpr ⟨c6, hs.2.2⟩
  · cases hr
theorem sn_iastore (hX : Ctx G p s m meth c k) (hK : KOK G p l e R s m args below meth c Q k φ0 h0 res K) (I : IV G s k φ0 h0 φ ψ L st h H locs cells slots ls) (hd : decode (bT k) pc = .ok (.iastore, 1)) (hr : F K C X (.iastore) (pc + 1) a b ts L st h = some res) : W p l e R s m args below meth c H locs cells slots Q (F0 m pc ls (st.map (vv φ))) := by
  have hs := I.2.2.1
  unfold F at hr
  dsimp only at hr
  split at hr
  · simp only [List.forall_mem_cons] at hs
    obtain ⟨h1, e, hr2⟩ := bind_some hr
    clear hr
    obtain ⟨q, y, rfl, hx, hkd, hq0, hi, rfl⟩ := pa_spec e
    obtain ⟨ty, cell, t1, c1, c2, c3, c4, -, kk⟩ := wr_arr I hx (by omega) (by omega) hq0 hi hs.1 hs.2.2.2
    rw [hkd] at t1
    cases t1
    refine W.iast hX.1 hX.2.1 c1 c2 c3 c4 rfl rfl hd (fun H' e1 e2 e3 => ?_)
    obtain ⟨ψ', I'⟩ := kk H' e1 e2 e3
    rw [hkd] at I'
    exact hK _ _ _ _ _ _ _ _ _ _ _ hr2 I'
  · cases hr
theorem sn_lastore (hX : Ctx G p s m meth c k) (hK : KOK G p l e R s m args below meth c Q k φ0 h0 res K) (I : IV G s k φ0 h0 φ ψ L st h H locs cells slots ls) (hd : decode (bT k) pc = .ok (.lastore, 1)) (hr : F K C X (.lastore) (pc + 1) a b ts L st h = some res) : W p l e R s m args below meth c H locs cells slots Q (F0 m pc ls (st.map (vv φ))) := by
  have hs := I.2.2.1
  unfold F at hr
  dsimp only at hr
  split at hr
  · simp only [List.forall_mem_cons] at hs
    obtain ⟨h1, e, hr2⟩ := bind_some hr
    clear hr
    obtain ⟨q, y, rfl, hx, hkd, hq0, hi, rfl⟩ := pa_spec e
    obtain ⟨ty, cell, t1, c1, c2, c3, c4, -, kk⟩ := wr_arr I hx (by omega) (by omega) hq0 hi hs.1 hs.2.2.2
    rw [hkd] at t1
    cases t1
  · cases hr
theorem sn_dastore (hX : Ctx G p s m meth c k) (hK : KOK G p l e R s m args below meth c Q k φ0 h0 res K) (I : IV G s k φ0 h0 φ ψ L st h H locs cells slots ls) (hd : decode (bT k) pc = .ok (.dastore, 1)) (hr : F K C X (.dastore) (pc + 1) a b ts L st h = some res) : W p l e R s m args below meth c H locs cells slots Q (F0 m pc ls (st.map (vv φ))) := by
  have hs := I.2.2.1
  unfold F at hr
  dsimp only at hr
  split at hr
  · simp only [List.forall_mem_cons] at hs
    obtain ⟨h1, e, hr2⟩ := bind_some hr
    clear hr
    obtain ⟨q, y, rfl, hx, hkd, hq0, hi, rfl⟩ := pa_spec e
    obtain ⟨ty, cell, t1, c1, c2, c3, c4, -, kk⟩ := wr_arr I hx (by omega) (by omega) hq0 hi hs.1 hs.2.2.2
    rw [hkd] at t1
    cases t1
  · cases hr
theorem sn_bastore (hX : Ctx G p s m meth c k) (hK : KOK G p l e R s m args below meth c Q k φ0 h0 res K) (I : IV G s k φ0 h0 φ ψ L st h H locs cells slots ls) (hd : decode (bT k) pc = .ok (.bastore, 1)) (ha : a = 1002 ∨ a = 1003) (hr : F K C X (.bastore) (pc + 1) a b ts L st h = some res) : W p l e R s m args below meth c H locs cells slots Q (F0 m pc ls (st.map (vv φ))) := by
  have hs := I.2.2.1
  unfold F at hr
  dsimp only at hr
  split at hr
  · rename_i x i o rest
    simp only [List.forall_mem_cons] at hs
    rcases ha with ha | ha
    · rw [ha] at hr
      obtain ⟨hz, hr⟩ := gz_spec hr
      obtain ⟨h1, e, hr2⟩ := bind_some hr
      clear hr
      obtain ⟨q, y, rfl, hx, hkd, hq0, hi, rfl⟩ := pa_spec e
      obtain ⟨ty, cell, t1, c1, c2, c3, c4, -, kk⟩ := wr_arr (v := aI x) I hx (by omega) (by omega) hq0 hi trivial hs.2.2.2
      rw [hkd] at t1
      cases t1
      refine W.zast hX.1 hX.2.1 c1 c2 c3 c4 rfl rfl hd (fun H' e1 e2 e3 => ?_)
      rw [(narrow_z hz).1] at e1
      obtain ⟨ψ', I'⟩ := kk H' e1 e2 e3
      rw [hkd] at I'
      exact hK _ _ _ _ _ _ _ _ _ _ _ hr2 I'
    · rw [ha] at hr
      obtain ⟨h1, e, hr2⟩ := bind_some hr
      clear hr
      obtain ⟨q, y, rfl, hx, hkd, hq0, hi, rfl⟩ := pa_spec e
      obtain ⟨ty, cell, t1, c1, c2, c3, c4, -, kk⟩ := wr_arr (v := aI x.toInt8.toInt32) I hx (by omega) (by omega) hq0 hi trivial hs.2.2.2
      rw [hkd] at t1
      cases t1
      refine W.bast hX.1 hX.2.1 c1 c2 c3 c4 rfl rfl hd (fun H' e1 e2 e3 => ?_)
      obtain ⟨ψ', I'⟩ := kk H' e1 e2 e3
      rw [hkd] at I'
      exact hK _ _ _ _ _ _ _ _ _ _ _ hr2 I'
  · cases hr
theorem sn_arraylength (hX : Ctx G p s m meth c k) (hK : KOK G p l e R s m args below meth c Q k φ0 h0 res K) (I : IV G s k φ0 h0 φ ψ L st h H locs cells slots ls) (hd : decode (bT k) pc = .ok (.arraylength, 1)) (hr : F K C X (.arraylength) (pc + 1) a b ts L st h = some res) : W p l e R s m args below meth c H locs cells slots Q (F0 m pc ls (st.map (vv φ))) := by
  have hs := I.2.2.1
  unfold F at hr
  dsimp only at hr
  split at hr
  · rename_i o rest
    simp only [List.forall_mem_cons] at hs
    obtain ⟨x, e, hr2⟩ := bind_some hr
    clear hr
    unfold len at e
    cases o with
    | none => cases e
    | some q =>
      cases hx : hG h (some q) with
      | none => rw [hx] at e; cases e
      | some y =>
        rw [hx] at e
        dsimp only at e
        split at e
        · rename_i hb
          rw [Bool.and_eq_true] at hb
          cases e
          obtain ⟨ty, t1, cell, c1, c2, c3, c4, c5, c6, -⟩ := I.2.2.2.1.arr hx (Nat.le_of_ble_eq_true hb.1) (by have := Nat.le_of_ble_eq_true hb.2; omega)
          refine W.alen hX.1 hX.2.1 c1 c2 c5 rfl rfl hd (hK _ _ _ _ _ _ _ _ _ _ _ hr2 (I.st ?_))
          exact List.forall_mem_cons.mpr ⟨trivial, hs.2⟩
        · cases e
  · cases hr
end ARR
