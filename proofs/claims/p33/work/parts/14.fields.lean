section FLD
variable {G : Geo} {p : Program} {l : Launch} {e e0 : Env} {R : Room} {s : State} {m : MethodId} {args : Array Value} {below : List Frame} {meth : Method} {c : Code} {Q : State → Prop} {k : Nat} {φ0 : Nat × Nat → Nat} {h0 : Hp} {res : Out × Hp} {K : KT} {C : CT} {X : XT}
variable {φ ψ : Nat × Nat → Nat} {L : LV} {st : List AV} {h : Hp} {H : Heap} {locs : List Loc} {cells slots : Nat} {ls : Array Slot} {pc a b : Nat} {ts : List Nat}
theorem own_lt (k : Nat) : ownC k < 28 := by
  unfold ownC
  repeat' split
  all_goals decide
theorem Ctx.w (hX : Ctx G p s m meth c k) {w : Cond} (h1 : w ∈ lw_tbl) (h2 : okW w = true) : w.before args s = true := hX.2.2.2.2.2.2.2.1.1.at args h1 h2
theorem okW_lay (C : String) (T : u_T) (k : Nat) : okW (u_lay C T k) = true := by
  unfold u_lay
  split <;> rfl
theorem Ctx.lays (hX : Ctx G p s m meth c k) (ha : a < 24) : ∀ w ∈ u_ws (cAt a).1 (cAt a).2.1 (cAt a).2.2, w.before args s = true := fun w hw => hX.w (lay_in a ha w hw) (by obtain ⟨k, -, rfl⟩ := List.mem_map.mp hw; exact okW_lay _ _ _)
theorem Ctx.kn (hX : Ctx G p s m meth c k) : va_K G.1 kcl [] s := hX.2.2.2.2.2.2.2.1.2.1
/-- one object as a world of its own -/
theorem IV.world (I : IV G s k φ0 h0 φ ψ L st h H locs cells slots ls) {q : Nat × Nat} {x : OC} (e : hG h (some q) = some x) (hx : x.1 < 24) : va_P G.1 kcl [(φ q, .inr (x.1, x.2.map (vv φ)))] H := by
  obtain ⟨z1, z2, -⟩ := I.2.2.2.1.obj e hx
  intro j y hy
  match j, hy with
  | 0, hy =>
    cases hy
    refine ⟨_, kcl_at hx, z2.to (fun i hi => ?_)⟩
    unfold rowV vp_V
    rw [List.getD_eq_getElem?_getD, List.getD_eq_getElem?_getD, List.getElem?_map, List.getElem?_eq_getElem (by omega)]
    rfl
  | j + 1, hy => simp at hy
theorem rd_field (hX : Ctx G p s m meth c k) (I : IV G s k φ0 h0 φ ψ L st h H locs cells slots ls) {idx : Nat} {o : Option (Nat × Nat)} {v : AV} {rest : List Value} (hf : fldOk (ownC k) idx a b = true) (ha : a < 24) (e : gf h o a b = some v) (hd : decode (bT k) pc = .ok (.getfield idx, 3))
    (kk : clV h v → W p l e0 R s m args below meth c H locs cells slots Q (F0 m (pc + 3) ls (vv φ v :: rest))) : W p l e0 R s m args below meth c H locs cells slots Q (F0 m pc ls (vv φ (aR o) :: rest)) := by
  obtain ⟨q, x, rfl, hx, hxa, hv⟩ := gf_spec e
  subst hxa
  have hb : b < (cAt x.1).2.2 := by
    rw [← (I.2.2.2.1.obj hx ha).1]
    exact (List.getElem?_eq_some_iff.mp hv).1
  have hcl : clV h v := I.2.2.2.1.2.2.2.2.1 q x hx v (List.mem_of_getElem? hv)
  have hv' : (x.2.map (vv φ))[b]? = some (vv φ v) := by rw [List.getElem?_map, hv]; rfl
  rcases fld_word hf (own_lt k) with hw | ⟨host, hw⟩
  · exact va_get hX.1 hX.2.1 (hX.lays ha) (fun w hw => hw) hX.2.2.2.1 hX.kn (I.world hx ha) 0 rfl (kcl_at ha) b hb (hX.w hw rfl) (fun _ z => z) hv' hd (kk hcl)
  · exact va_getN hX.1 hX.2.1 (hX.lays ha) (fun w hw => hw) hX.2.2.2.1 hX.kn (I.world hx ha) 0 rfl (kcl_at ha) b hb (hX.w hw rfl) (fun _ z => z) hv' hd (kk hcl)
theorem sn_getfield {idx : Nat} (hX : Ctx G p s m meth c k) (hK : KOK G p l e R s m args below meth c Q k φ0 h0 res K) (I : IV G s k φ0 h0 φ ψ L st h H locs cells slots ls) (hd : decode (bT k) pc = .ok (.getfield idx, 3)) (hf : fldOk (ownC k) idx a b = true) (ha : a < 24) (hr : F K C X (.getfield idx) (pc + 3) a b ts L st h = some res) : W p l e R s m args below meth c H locs cells slots Q (F0 m pc ls (st.map (vv φ))) := by
  have hs := I.2.2.1
  unfold F at hr
  dsimp only at hr
  split at hr
  · simp only [List.forall_mem_cons] at hs
    split at hr
    · obtain ⟨x, e, hr⟩ := bind_some hr
      refine rd_field hX I hf ha (oI_eq e) hd (fun hc => hK _ _ _ _ _ _ _ _ _ _ _ hr (I.st ?_))
      exact List.forall_mem_cons.mpr ⟨trivial, hs.2⟩
    · obtain ⟨x, e, hr⟩ := bind_some hr
      refine rd_field hX I hf ha (oL_eq e) hd (fun hc => hK _ _ _ _ _ _ _ _ _ _ _ hr (I.st ?_))
      exact List.forall_mem_cons.mpr ⟨trivial, hs.2⟩
    · obtain ⟨x, e, hr⟩ := bind_some hr
      refine rd_field hX I hf ha (oR_eq e) hd (fun hc => hK _ _ _ _ _ _ _ _ _ _ _ hr (I.st ?_))
      exact List.forall_mem_cons.mpr ⟨hc, hs.2⟩
    · cases hr
  · cases hr
/-- a write of a field: the three forms that the tables know -/
theorem wr_field (hX : Ctx G p s m meth c k) (I : IV G s k φ0 h0 φ ψ L st h H locs cells slots ls) {idx : Nat} {o : Option (Nat × Nat)} {v : AV} {rest : List AV} {h1 : Hp} (hf : fldOk (ownC k) idx a b = true) (ha : a < 24) (e : pf h o a b v = some h1) (hd : decode (bT k) pc = .ok (.putfield idx, 3))
    (hfin : ((cAt a).2.1 b).2.2.2 = false ∨ (kdT k = 2 ∧ ((cAt a).2.1 b).1 = ownS (ownC k))) (hn : narrow (tyA a b) (vv φ v) = vv φ v) (hfit : fits (tyA a b) (vv φ v) = true) (hcv : clV h v) (hcr : ∀ v ∈ rest, clV h v)
    (kk : ∀ ψ' H1 locs1, IV G s k φ0 h0 φ ψ' L rest h1 H1 locs1 cells slots ls → W p l e0 R s m args below meth c H1 locs1 cells slots Q (F0 m (pc + 3) ls (rest.map (vv φ)))) : W p l e0 R s m args below meth c H locs cells slots Q (F0 m pc ls (vv φ v :: vv φ (aR o) :: rest.map (vv φ))) := by
  obtain ⟨q, x, rfl, hx, hxa, hbl, rfl⟩ := pf_spec e
  subst hxa
  obtain ⟨z1, ⟨cell, q1, q2, q3, q4⟩, hq0⟩ := I.2.2.2.1.obj hx ha
  have hb : b < (cAt x.1).2.2 := by omega
  obtain ⟨hS, hfc, kC, hkC, hkind⟩ := hX.kn.1 x.1 _ (kcl_at ha)
  obtain ⟨cf, kf, fi, f, hi, hsl⟩ := hS b hb
  have hlays := hX.lays (args := args) ha
  have hap := va_apart (own := "") (tys := []) (D := G.1) (cl := kcl) hlays (fun w hw => hw) (tyA x.1) (hty_at x.1 ha) (hnm_at x.1 ha) hX.kn (kcl_at ha)
  have hst := (u_facts hfc hkC (u_lays hlays (fun w hw => hw) hb) hi).1
  have hnX : ¬ isX x.1 := by unfold isX; omega
  have hnH : ¬ isH x.1 := by unfold isH; omega
  have key : ∀ H' : Heap, H'[φ q]? = some (cell.setSlot f.slot (vv φ v)) → H'.size = H.size → (∀ y, y ≠ φ q → H'[y]? = H[y]?) → W p l e0 R s m args below meth c H' (locs ++ [⟨φ q, f.slot⟩]) cells slots Q (F0 m (pc + 3) ls (rest.map (vv φ))) := by
    intro H' e1 e2 e3
    refine kk _ H' _ (I.write (x1 := (x.1, x.2.set b v)) f.slot hx hq0 hnX hnX (fun z => absurd z hnH) e2 e3 ?_ ?_ hcr ⟨rfl, Nat.lt_trans ha (by decide)⟩)
    · unfold cellRep
      dsimp only
      rw [if_pos ha, List.length_set]
      refine ⟨z1, t_OB.to (V := updV (rowV φ x.2) b (vv φ v)) ⟨_, e1, q2, q3, by rw [hsl]; exact t_set q4 hap hb _⟩ (fun j hj => ?_)⟩
      unfold updV rowV
      rw [List.getD_eq_getElem?_getD, List.getD_eq_getElem?_getD]
      by_cases c : j = b
      · subst c
        rw [if_pos rfl, List.getElem?_set_self hbl]
        rfl
      · rw [if_neg c, List.getElem?_set_ne (Ne.symm c)]
    · intro w hw
      rcases List.mem_or_eq_of_mem_set hw with z | z
      · exact I.2.2.2.1.2.2.2.2.1 q x hx w z
      · rw [z]; exact hcv
  have hlt : f.slot < cell.slots.size := by rw [hsl]; exact k2_hasslot (q4 b hb)
  have hlay := hlays _ (u_in_lay hb)
  rcases hfin with hfin | ⟨hkd, hown⟩
  · unfold u_lay at hlay
    rw [if_neg (by rw [hfin]; decide)] at hlay
    have h6 := u_store hfc hkC hkind hlay hi (hty_at x.1 ha b hb) hn hfit
    rcases fld_word hf (own_lt k) with hw | ⟨host, hw⟩
    · exact W.putK hX.1 hX.2.1 (f := f) ⟨hX.2.2.2.1, hX.w hw rfl, ⟨_, _, _, hi⟩, hst⟩ (by rw [q2]; exact h6) q1 q3 hlt rfl rfl hd key
    · exact va_WputK hX.1 hX.2.1 (f := f) hX.2.2.2.1 (hX.w hw rfl) hi hst (by rw [q2]; exact h6) q1 q3 hlt rfl rfl hd key
  · by_cases hfin : ((cAt x.1).2.1 b).2.2.2 = false
    · unfold u_lay at hlay
      rw [if_neg (by rw [hfin]; decide)] at hlay
      have h6 := u_store hfc hkC hkind hlay hi (hty_at x.1 ha b hb) hn hfit
      rcases fld_word hf (own_lt k) with hw | ⟨host, hw⟩
      · exact W.putK hX.1 hX.2.1 (f := f) ⟨hX.2.2.2.1, hX.w hw rfl, ⟨_, _, _, hi⟩, hst⟩ (by rw [q2]; exact h6) q1 q3 hlt rfl rfl hd key
      · exact va_WputK hX.1 hX.2.1 (f := f) hX.2.2.2.1 (hX.w hw rfl) hi hst (by rw [q2]; exact h6) q1 q3 hlt rfl rfl hd key
    · have hfin : ((cAt x.1).2.1 b).2.2.2 = true := by
        cases z : ((cAt x.1).2.1 b).2.2.2
        · exact absurd z hfin
        · rfl
      unfold u_lay at hlay
      rw [if_pos hfin] at hlay
      have hcf : m.cls = cf := by
        obtain ⟨_, _, c', _, _, _, -, -, hf', -, -, -, hown2, -⟩ := Cond.laysFinal_spec hlay
        have e1 : c' = cf := by have := hi.symm.trans hf'; simp at this; exact this.1.symm
        rw [hown] at hown2
        rw [← e1]; exact Option.some.inj (hX.2.2.2.1.symm.trans hown2)
      have h6 := u_fits hfc hkC hkind (Or.inr hlay) hi (hty_at x.1 ha b hb) hn hfit
      rcases fld_word hf (own_lt k) with hw | ⟨host, hw⟩
      · exact W.putFinK hX.1 hX.2.1 hX.2.2.2.1 (hX.w hw rfl) hi hst hcf (hX.2.2.2.2.2.2.1 hkd) (by rw [q2]; exact h6) q1 q3 hlt rfl rfl hd key
      · have ha0 : φ q < H.size := (Array.getElem?_eq_some_iff.mp q1).1
        refine va_Wputf hX.1 hX.2.1 hX.2.2.2.1 (hX.w hw rfl) hi hst (Or.inr ⟨hcf, hX.2.2.2.2.2.2.1 hkd⟩) q1 (by rw [q3]; exact fun h => by cases h) hlt h6.1 (by rw [q3, q2]; exact h6.2) rfl rfl hd (key _ ?_ ?_ ?_)
        · simp [Array.getElem?_setIfInBounds, ha0]
        · simp
        · intro y hy
          simp [Array.getElem?_setIfInBounds, Ne.symm hy]
theorem narrow_z {x : Int32} (h : x &&& 1 = x) : narrow .boolean (.int x) = .int x ∧ fits .boolean (.int x) = true := by
  have e : narrow .boolean (.int x) = .int (x &&& 1) := rfl
  refine ⟨by rw [e, h], ?_⟩
  have hx : x = 0 ∨ x = 1 := by
    have h1 : (x.toBitVec &&& 1#32).toNat = x.toBitVec.toNat := congrArg (fun z : Int32 => z.toBitVec.toNat) h
    rw [BitVec.toNat_and] at h1
    have h1 : x.toBitVec.toNat &&& 1 = x.toBitVec.toNat := h1
    rw [Nat.and_one_is_mod] at h1
    have h2 : x.toBitVec.toNat = 0 ∨ x.toBitVec.toNat = 1 := by omega
    rcases h2 with h2 | h2
    · exact Or.inl (Int32.toBitVec_inj.mp (BitVec.eq_of_toNat_eq h2))
    · exact Or.inr (Int32.toBitVec_inj.mp (BitVec.eq_of_toNat_eq h2))
  rcases hx with z | z <;> rw [z] <;> rfl
theorem tgF_nz {d : String} (h : tgF d = 1 ∨ tgF d = 4) : d ≠ "Z" := by
  intro z
  rw [z] at h
  have : tgF "Z" = 0 := rfl
  omega
theorem sn_putfield {idx : Nat} (hX : Ctx G p s m meth c k) (hK : KOK G p l e R s m args below meth c Q k φ0 h0 res K) (I : IV G s k φ0 h0 φ ψ L st h H locs cells slots ls) (hd : decode (bT k) pc = .ok (.putfield idx, 3)) (hf : fldOk (ownC k) idx a b = true) (ha : a < 21) (hb : b < (cAt a).2.2) (hts : if ((cAt a).2.1 b).2.2.1 = "Z" then ts = [5] else ts = [tgF ((cAt a).2.1 b).2.2.1])
    (hfin : ((cAt a).2.1 b).2.2.2 = false ∨ (kdT k = 2 ∧ ((cAt a).2.1 b).1 = ownS (ownC k))) (hr : F K C X (.putfield idx) (pc + 3) a b ts L st h = some res) : W p l e R s m args below meth c H locs cells slots Q (F0 m pc ls (st.map (vv φ))) := by
  have hs := I.2.2.1
  have ha24 : a < 24 := by omega
  obtain ⟨t0, t1, t4, t5⟩ := tg_ty ha24 hb
  unfold F at hr
  dsimp only at hr
  split at hr
  · split at hr
    · simp only [List.forall_mem_cons] at hs
      obtain ⟨h1, e1, hr⟩ := bind_some hr
      have hz : ((cAt a).2.1 b).2.2.1 ≠ "Z" := by
        intro z
        rw [if_pos z] at hts
        cases hts
      rw [if_neg hz] at hts
      have ht := t0 (by simpa using (congrArg (fun l => l.headD 0) hts).symm) hz ha
      exact wr_field hX I hf ha24 e1 hd hfin (by rw [ht]; rfl) (by rw [ht]; rfl) trivial hs.2.2 (fun ψ' H1 locs1 I1 => hK _ _ _ _ _ _ _ _ _ _ _ hr I1)
    · cases hr
  · split at hr
    · simp only [List.forall_mem_cons] at hs
      obtain ⟨hz1, hr⟩ := gz_spec hr
      obtain ⟨h1, e1, hr⟩ := bind_some hr
      have hz : ((cAt a).2.1 b).2.2.1 = "Z" := by
        by_cases z : ((cAt a).2.1 b).2.2.1 = "Z"
        · exact z
        · rw [if_neg z] at hts
          have : tgF ((cAt a).2.1 b).2.2.1 = 5 := by simpa using (congrArg (fun l => l.headD 0) hts).symm
          exfalso
          unfold tgF at this
          revert this
          repeat' split
          all_goals decide
      have ht := t5 hz
      exact wr_field hX I hf ha24 e1 hd hfin (by rw [ht]; exact (narrow_z hz1).1) (by rw [ht]; exact (narrow_z hz1).2) trivial hs.2.2 (fun ψ' H1 locs1 I1 => hK _ _ _ _ _ _ _ _ _ _ _ hr I1)
    · cases hr
  · split at hr
    · simp only [List.forall_mem_cons] at hs
      obtain ⟨h1, e1, hr⟩ := bind_some hr
      have hz : ((cAt a).2.1 b).2.2.1 ≠ "Z" := by
        intro z
        rw [if_pos z] at hts
        cases hts
      rw [if_neg hz] at hts
      have ht := t1 (by simpa using (congrArg (fun l => l.headD 0) hts).symm)
      exact wr_field hX I hf ha24 e1 hd hfin (by rw [ht]; rfl) (by rw [ht]; rfl) trivial hs.2.2 (fun ψ' H1 locs1 I1 => hK _ _ _ _ _ _ _ _ _ _ _ hr I1)
    · cases hr
  · split at hr
    · rename_i x o rest
      simp only [List.forall_mem_cons] at hs
      obtain ⟨h1, e1, hr⟩ := bind_some hr
      have hz : ((cAt a).2.1 b).2.2.1 ≠ "Z" := by
        intro z
        rw [if_pos z] at hts
        cases hts
      rw [if_neg hz] at hts
      have ht := t4 (by simpa using (congrArg (fun l => l.headD 0) hts).symm)
      refine wr_field (v := aR x) hX I hf ha24 e1 hd hfin ?_ ?_ hs.1 hs.2.2 (fun ψ' H1 locs1 I1 => hK _ _ _ _ _ _ _ _ _ _ _ hr I1)
      · rcases ht with ⟨n, ht⟩ | ⟨t, ht⟩ <;> rw [ht] <;> cases x <;> rfl
      · rcases ht with ⟨n, ht⟩ | ⟨t, ht⟩ <;> rw [ht] <;> cases x <;> rfl
    · cases hr
  · cases hr
end FLD
