/-- what is counted only grows -/
def KMON (res : Out × Hp) (K : KT) : Prop := ∀ (pc : Nat) (L : LV) (st : List AV) (h : Hp), K pc L st h = some res → h.2.1 ≤ res.2.2.1 ∧ h.2.2 ≤ res.2.2.2
def BUD (h0 : Hp) (R : Room) (res : Out × Hp) : Prop := res.2.2.1 ≤ h0.2.1 + R.cells ∧ res.2.2.2 ≤ h0.2.2 + R.slots ∧ R.slots ≤ 10000000
section MK
variable {G : Geo} {p : Program} {l : Launch} {e e0 : Env} {R : Room} {s : State} {m : MethodId} {args : Array Value} {below : List Frame} {meth : Method} {c : Code} {Q : State → Prop} {k : Nat} {φ0 : Nat × Nat → Nat} {h0 : Hp} {res : Out × Hp} {K : KT} {C : CT} {X : XT}
variable {φ ψ : Nat × Nat → Nat} {L : LV} {st : List AV} {h : Hp} {H : Heap} {locs : List Loc} {cells slots : Nat} {ls : Array Slot} {pc a b : Nat} {ts : List Nat}
theorem dfv_dv (φ : Nat × Nat → Nat) (t : Nat) : vv φ (dfv t) = vv (fun _ => 0) (dfv t) := by
  unfold dfv
  split <;> rfl
theorem cl_dfv (h : Hp) (t : Nat) : clV h (dfv t) := by
  unfold dfv
  split <;> trivial
theorem dv_chk : (List.range 23).all (fun a => (List.range (cAt a).2.2).all (fun k => decide (vv (fun _ => 0) (dfv (tgF ((cAt a).2.1 k).2.2.1)) = defaultValue (tyA a k)))) = true := by decide +kernel
theorem cls_word {cn idx a : Nat} (h : clsOk cn idx a = true) (hc : cn < 28) (ha : a < 24) : Cond.classLink (ownS cn) idx (cAt a).1 ∈ lw_tbl := by
  unfold clsOk at h
  obtain ⟨e, he, h⟩ := List.any_eq_true.mp h
  rw [Bool.and_eq_true] at h
  have h1 := Nat.eq_of_beq_eq_true h.1
  have h2 := Nat.eq_of_beq_eq_true h.2
  have hw := cls_in cn hc e he
  unfold clsW at hw
  rw [h1, h2, show Nat.blt a 24 = true from Nat.ble_eq_true_of_le ha] at hw
  exact hw
theorem sn_new {idx : Nat} (hX : Ctx G p s m meth c k) (hK : KOK G p l e R s m args below meth c Q k φ0 h0 res K) (hM : KMON res K) (hB : BUD h0 R res) (I : IV G s k φ0 h0 φ ψ L st h H locs cells slots ls) (hd : decode (bT k) pc = .ok (.new idx, 3)) (hb : b ≠ 0) (ha : a < 23) (hw : clsOk (ownC k) idx a = true) (hts : ts = (List.range (cAt a).2.2).map (fun k => tgF ((cAt a).2.1 k).2.2.1)) (h9 : ∀ l, ts ≠ 9 :: l) (hr : F K C X (.new idx) (pc + 3) a b ts L st h = some res) : W p l e R s m args below meth c H locs cells slots Q (F0 m pc ls (st.map (vv φ))) := by
  have hs := I.2.2.1
  unfold F at hr
  dsimp only at hr
  split at hr
  · exact absurd rfl (h9 _)
  · unfold nob at hr
    have hlen : ts.length = (cAt a).2.2 := by rw [hts]; simp
    have hm := hM _ _ _ _ hr
    have hm1 : h.2.1 + 1 ≤ res.2.2.1 := hm.1
    have hm2 : h.2.2 + ts.length ≤ res.2.2.2 := hm.2
    have i8 := I.2.2.2.2.2.2.2.1
    have i9 := I.2.2.2.2.2.2.2.2
    have hKn := hX.kn.1 a _ (kcl_at (by omega))
    obtain ⟨hB1, hB2, -⟩ := hB
    refine W.newcK hX.1 hX.2.1 hX.2.2.2.1 (hX.w (cls_word hw (own_lt k) (by omega)) rfl) (hX.w (ins_in a ha) rfl) (hX.w (in2_in a ha) rfl) rfl hd (by omega) (by omega) hKn.2.1 rfl fun H1 kC hkC e1 z1 o1 => ?_
    have hrep : cellRep G s φ (a, ts.map dfv) 0 H.size H1 := by
      unfold cellRep
      dsimp only
      rw [if_pos (by omega)]
      refine ⟨by rw [List.length_map]; exact hlen, (u_born (tyA a) (hX.lays (args := args) (by omega)) (fun w hw => hw) hKn hkC e1 (hty_at a (by omega))).to (fun j hj => ?_)⟩
      have hdv := of_decide_eq_true (List.all_eq_true.mp (List.all_eq_true.mp dv_chk a (List.mem_range.mpr ha)) j (List.mem_range.mpr hj))
      unfold rowV
      rw [List.getD_eq_getElem?_getD, List.getElem?_map, hts, List.getElem?_map, List.getElem?_range hj]
      show _ = vv φ (dfv _)
      rw [dfv_dv, hdv]
    obtain ⟨I1, e2⟩ := I.alloc (n := ts.length) hb (x1 := (a, ts.map dfv)) (by unfold isX; dsimp only; omega) (by unfold isH; dsimp only; omega) z1 o1 hrep (fun v hv => by obtain ⟨t, -, rfl⟩ := List.mem_map.mp hv; exact cl_dfv h t) hs
    have := hK _ _ _ _ _ _ _ _ _ _ _ hr I1
    rw [e2] at this
    rw [hlen] at this
    exact this
theorem tyK_akd {t : ArrayType} (h : 0 < akd t) : tyK (akd t) = some (newarray.typeOf t) ∧ (∀ φ, vv φ (dfa (akd t)) = defaultValue (newarray.typeOf t)) ∧ (∀ h, clV h (dfa (akd t))) ∧ 1000 ≤ akd t ∧ akd t < 1010 ∧ (Cond.arrayClass (newarray.typeOf t)) ∈ lw_tbl ∧ componentBytes (newarray.typeOf t) ≤ 8 := by
  cases t <;> first | (exact absurd h (by decide)) | exact ⟨rfl, fun _ => rfl, fun _ => trivial, by decide, by decide, by first | exact acl_boolean | exact acl_int | exact acl_byte, by decide⟩
theorem sn_newarray {t : ArrayType} (hX : Ctx G p s m meth c k) (hK : KOK G p l e R s m args below meth c Q k φ0 h0 res K) (hM : KMON res K) (hB : BUD h0 R res) (I : IV G s k φ0 h0 φ ψ L st h H locs cells slots ls) (hd : decode (bT k) pc = .ok (.newarray t, 2)) (hb : b ≠ 0) (ha : akd t = a) (ha0 : 0 < a) (hr : F K C X (.newarray t) (pc + 2) a b ts L st h = some res) : W p l e R s m args below meth c H locs cells slots Q (F0 m pc ls (st.map (vv φ))) := by
  have hs := I.2.2.1
  subst ha
  obtain ⟨t1, t2, t3, t4, t5, t6, t7⟩ := tyK_akd ha0
  unfold F at hr
  dsimp only at hr
  split at hr
  · rename_i n rest
    simp only [List.forall_mem_cons] at hs
    obtain ⟨q, e1, hr2⟩ := bind_some hr
    clear hr
    unfold nwa at e1
    split at e1
    · cases e1
    · rename_i hn
      cases e1
      have hm := hM _ _ _ _ hr2
      have hm1 : h.2.1 + 1 ≤ res.2.2.1 := hm.1
      have hm2 : h.2.2 + n.toNatClampNeg ≤ res.2.2.2 := hm.2
      have i8 := I.2.2.2.2.2.2.2.1
      have i9 := I.2.2.2.2.2.2.2.2
      obtain ⟨hB1, hB2, hB3⟩ := hB
      refine va_newaK hX.1 hX.2.1 (hX.w t6 rfl) rfl hd rfl hn rfl ?_ (by omega) (by omega) rfl fun H1 cA e1 z1 o1 hAr hNm => ?_
      · have : n.toNatClampNeg * componentBytes (newarray.typeOf t) ≤ n.toNatClampNeg * 8 := Nat.mul_le_mul_left _ t7
        omega
      · have hrep : cellRep G s φ (akd t, List.replicate n.toNatClampNeg (dfa (akd t))) 0 H.size H1 := by
          unfold cellRep
          dsimp only
          rw [if_neg (by omega), if_neg (by omega), if_neg (by omega), if_pos (by omega)]
          refine ⟨_, t1, _, e1, hAr _ _, (fun z => by cases z), ?_, ?_, fun j hj => ?_, fun z hz => ?_⟩
          · rw [arrV_size, List.length_replicate]; exact Nat.le_refl _
          · rw [arrV_size, List.length_replicate]
          · rw [List.length_replicate] at hj
            rw [arrV_read _ _ hj]
            unfold rowV
            rw [List.getD_eq_getElem?_getD, List.getElem?_replicate, if_pos hj]
            exact congrArg some (t2 φ).symm
          · unfold acl at hz
            rw [show Nat.ble 1010 (akd t) = false by
              cases hq : Nat.ble 1010 (akd t)
              · rfl
              · have := Nat.le_of_ble_eq_true hq; omega] at hz
            cases hz
        obtain ⟨I1, e2⟩ := I.alloc (n := n.toNatClampNeg) hb (x1 := (akd t, List.replicate n.toNatClampNeg (dfa (akd t)))) (by unfold isX; dsimp only; omega) (by unfold isH; dsimp only; omega) z1 o1 hrep (fun v hv => by rw [(List.mem_replicate.mp hv).2]; exact t3 h) hs.2
        have := hK _ _ _ _ _ _ _ _ _ _ _ hr2 I1
        rw [e2] at this
        exact this
  · cases hr
theorem anw_ok : anwE.all (fun e => match tyK e.2.2 with | some (.object C) => decide (C ∈ aoN) && Nat.ble 1010 e.2.2 && Nat.blt e.2.2 1900 | _ => false) = true := by decide +kernel
theorem dfa_ref {kd : Nat} (h : 1010 ≤ kd) : dfa kd = aR none := by
  unfold dfa
  split <;> first | omega | rfl
theorem sn_anewarray {idx : Nat} (hX : Ctx G p s m meth c k) (hK : KOK G p l e R s m args below meth c Q k φ0 h0 res K) (hM : KMON res K) (hB : BUD h0 R res) (I : IV G s k φ0 h0 φ ψ L st h H locs cells slots ls) (hd : decode (bT k) pc = .ok (.anewarray idx, 3)) (hb : b ≠ 0) (ha : (ownC k, idx, a) ∈ anwE) (hr : F K C X (.anewarray idx) (pc + 3) a b ts L st h = some res) : W p l e R s m args below meth c H locs cells slots Q (F0 m pc ls (st.map (vv φ))) := by
  have hs := I.2.2.1
  have hw := anw_in _ ha
  have hok := List.all_eq_true.mp anw_ok _ ha
  dsimp only at hw hok
  cases hty : tyK a with
  | none => rw [hty] at hok; cases hok
  | some ty =>
    rw [hty] at hok hw
    cases ty with
    | object Cn =>
      dsimp only at hok hw
      rw [Bool.and_eq_true, Bool.and_eq_true] at hok
      obtain ⟨⟨o1, o2⟩, o3⟩ := hok
      have o1 := of_decide_eq_true o1
      have o2 := Nat.le_of_ble_eq_true o2
      have o3 : a < 1900 := Nat.le_of_ble_eq_true o3
      unfold F at hr
      dsimp only at hr
      split at hr
      · rename_i n rest
        simp only [List.forall_mem_cons] at hs
        obtain ⟨q, e1, hr2⟩ := bind_some hr
        clear hr
        unfold nwa at e1
        split at e1
        · cases e1
        · rename_i hn
          cases e1
          have hm := hM _ _ _ _ hr2
          have hm1 : h.2.1 + 1 ≤ res.2.2.1 := hm.1
          have hm2 : h.2.2 + n.toNatClampNeg ≤ res.2.2.2 := hm.2
          have i8 := I.2.2.2.2.2.2.2.1
          have i9 := I.2.2.2.2.2.2.2.2
          obtain ⟨hB1, hB2, hB3⟩ := hB
          refine W.anew hX.1 hX.2.1 hX.2.2.2.1 (hX.w hw rfl) (va_AO.use (hX.sta.1.2.2.2.1 Cn o1)) rfl hd rfl hn (by omega) (by omega) (by omega) fun cA kA comp f1 f2 f3 f4 => ?_
          generalize hH1 : H.push ({ cls := cA, slots := Array.replicate n.toNatClampNeg .null, vm := .none } : Cell) = H1
          have z1 : H1.size = H.size + 1 := by rw [← hH1, Array.size_push]
          have e1 : H1[H.size]? = some (arrV cA n.toNatClampNeg (fun _ => .null)) := by rw [← hH1, Array.getElem?_push_size, ← arrV_new]
          have o1 : ∀ q : Nat, q < H.size → H1[q]? = H[q]? := fun q hq => by rw [← hH1, Array.getElem?_push, if_neg (Nat.ne_of_lt hq)]
          have hA := hX.sta.1.2.2.1 a _ hty
          obtain ⟨kA', comp', k1, k2, k3, k4⟩ := hA.2
          have hcA : cA = G.2.1 a := Option.some.inj (f1.symm.trans k4)
          have hrep : cellRep G s φ (a, List.replicate n.toNatClampNeg (dfa a)) 0 H.size H1 := by
            unfold cellRep
            dsimp only
            rw [if_neg (by omega), if_neg (by omega), if_neg (by omega), if_pos (by omega)]
            refine ⟨_, hty, _, e1, ⟨(fun k h => by cases h), kA, f2, comp, f3⟩, (fun z => by cases z), ?_, ?_, fun j hj => ?_, fun z hz => ?_⟩
            · rw [arrV_size, List.length_replicate]; exact Nat.le_refl _
            · rw [arrV_size, List.length_replicate]
            · rw [List.length_replicate] at hj
              rw [arrV_read _ _ hj]
              unfold rowV
              rw [List.getD_eq_getElem?_getD, List.getElem?_replicate, if_pos hj, dfa_ref o2]
              rfl
            · unfold acl at hz
              rw [Nat.ble_eq_true_of_le o2] at hz
              cases hz
              exact hcA
          obtain ⟨I1, e2⟩ := I.alloc (n := n.toNatClampNeg) hb (x1 := (a, List.replicate n.toNatClampNeg (dfa a))) (by unfold isX; dsimp only; omega) (by unfold isH; dsimp only; omega) z1 o1 hrep (fun v hv => by rw [(List.mem_replicate.mp hv).2, dfa_ref o2]; trivial) hs.2
          have := hK _ _ _ _ _ _ _ _ _ _ _ hr2 I1
          rw [e2] at this
          exact this
      · cases hr
    | _ => cases hok
theorem sn_checkcast {idx : Nat} (hX : Ctx G p s m meth c k) (hK : KOK G p l e R s m args below meth c Q k φ0 h0 res K) (I : IV G s k φ0 h0 φ ψ L st h H locs cells slots ls) (hd : decode (bT k) pc = .ok (.checkcast idx, 3)) (ha : a < 21) (hw : clsOk (ownC k) idx a = true) (hr : F K C X (.checkcast idx) (pc + 3) a b ts L st h = some res) : W p l e R s m args below meth c H locs cells slots Q (F0 m pc ls (st.map (vv φ))) := by
  have hs := I.2.2.1
  unfold F at hr
  dsimp only at hr
  split at hr
  · rename_i o rest
    cases o with
    | none =>
      unfold acc at hr
      exact lv_castN hX.1 hX.2.1 hd (hK _ _ _ _ _ _ _ _ _ _ _ hr (I.st hs))
    | some q =>
      unfold acc at hr
      dsimp only at hr
      cases hx : hG h (some q) with
      | none => rw [hx] at hr; cases hr
      | some x =>
        rw [hx] at hr
        dsimp only at hr
        split at hr
        · rename_i hb
          have hxa := Nat.eq_of_beq_eq_true hb
          subst hxa
          obtain ⟨-, ⟨cell, q1, q2, q3, -⟩, -⟩ := I.2.2.2.1.obj hx (by omega)
          have hcls := (hX.kn.1 x.1 _ (kcl_at (by omega))).2
          exact va_castS hX.1 hX.2.1 hX.2.2.2.1 (hX.w (cls_word hw (own_lt k) (by omega)) rfl) hcls ⟨cell, q1, by rw [q3]; rfl, by rw [q2]; exact hcls.1⟩ hd (hK _ _ _ _ _ _ _ _ _ _ _ hr (I.st hs))
        · cases hr
  · cases hr
end MK
