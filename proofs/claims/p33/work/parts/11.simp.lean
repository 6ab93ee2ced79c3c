def KOK (G : Geo) (p : Program) (l : Launch) (e : Env) (R : Room) (s : State) (m : MethodId) (args : Array Value) (below : List Frame) (meth : Method) (c : Code) (Q : State → Prop) (k : Nat) (φ0 : Nat × Nat → Nat) (h0 : Hp) (res : Out × Hp) (K : KT) : Prop :=
  ∀ (pc : Nat) (L : LV) (st : List AV) (h : Hp) (φ ψ : Nat × Nat → Nat) (H : Heap) (locs : List Loc) (cells slots : Nat) (ls : Array Slot), K pc L st h = some res → IV G s k φ0 h0 φ ψ L st h H locs cells slots ls → W p l e R s m args below meth c H locs cells slots Q (F0 m pc ls (st.map (vv φ)))
theorem IV.st {G : Geo} {s : State} {k : Nat} {φ0 : Nat × Nat → Nat} {h0 : Hp} {φ ψ : Nat × Nat → Nat} {L : LV} {st st' : List AV} {h : Hp} {H : Heap} {locs : List Loc} {cells slots : Nat} {ls : Array Slot} (I : IV G s k φ0 h0 φ ψ L st h H locs cells slots ls) (hs : ∀ v ∈ st', clV h v) : IV G s k φ0 h0 φ ψ L st' h H locs cells slots ls :=
  ⟨I.1, I.2.1, hs, I.2.2.2⟩
theorem IV.lc {G : Geo} {s : State} {k : Nat} {φ0 : Nat × Nat → Nat} {h0 : Hp} {φ ψ : Nat × Nat → Nat} {L L' : LV} {st st' : List AV} {h : Hp} {H : Heap} {locs : List Loc} {cells slots : Nat} {ls ls' : Array Slot} (I : IV G s k φ0 h0 φ ψ L st h H locs cells slots ls) (h1 : lv_has ls' (mlT k) (mapL φ L')) (h2 : ∀ q ∈ L', clV h q.2) (hs : ∀ v ∈ st', clV h v) : IV G s k φ0 h0 φ ψ L' st' h H locs cells slots ls' :=
  ⟨h1, h2, hs, I.2.2.2⟩
theorem bind_some {α : Type} {o : Option α} {f : α → Res} {r : Out × Hp} (h : o.bind f = some r) : ∃ x, o = some x ∧ f x = some r := by
  cases o with
  | none => cases h
  | some x => exact ⟨x, rfl, h⟩
theorem oI_eq {v : Option AV} {x : Int32} (h : oI v = some x) : v = some (aI x) := by
  unfold oI at h; split at h
  · cases h; rfl
  · cases h
theorem oL_eq {v : Option AV} {x : Int64} (h : oL v = some x) : v = some (aL x) := by
  unfold oL at h; split at h
  · cases h; rfl
  · cases h
theorem oD_eq {v : Option AV} {x : UInt64} (h : oD v = some x) : v = some (aD x) := by
  unfold oD at h; split at h
  · cases h; rfl
  · cases h
theorem oR_eq {v : Option AV} {x : Option (Nat × Nat)} (h : oR v = some x) : v = some (aR x) := by
  unfold oR at h; split at h
  · cases h; rfl
  · cases h
section SIMP
variable {G : Geo} {p : Program} {l : Launch} {e : Env} {R : Room} {s : State} {m : MethodId} {args : Array Value} {below : List Frame} {meth : Method} {c : Code} {Q : State → Prop} {k : Nat} {φ0 : Nat × Nat → Nat} {h0 : Hp} {res : Out × Hp} {K : KT} {C : CT} {X : XT}
variable {φ ψ : Nat × Nat → Nat} {L : LV} {st : List AV} {h : Hp} {H : Heap} {locs : List Loc} {cells slots : Nat} {ls : Array Slot} {pc a b : Nat} {ts : List Nat}
theorem sn_iconst {n : Int} (hX : Ctx G p s m meth c k) (hK : KOK G p l e R s m args below meth c Q k φ0 h0 res K) (I : IV G s k φ0 h0 φ ψ L st h H locs cells slots ls) (hd : decode (bT k) pc = .ok (.iconst n, 1)) (hr : F K C X (.iconst n) (pc + 1) a b ts L st h = some res) : W p l e R s m args below meth c H locs cells slots Q (F0 m pc ls (st.map (vv φ))) := by
  have hs := I.2.2.1
  unfold F at hr
  dsimp only at hr
  refine lv_iconst hX.1 hX.2.1 hd rfl (hK _ _ _ _ _ _ _ _ _ _ _ hr (I.st ?_))
  simp only [List.forall_mem_cons]
  exact ⟨trivial, hs⟩
theorem sn_bipush {n : Int} (hX : Ctx G p s m meth c k) (hK : KOK G p l e R s m args below meth c Q k φ0 h0 res K) (I : IV G s k φ0 h0 φ ψ L st h H locs cells slots ls) (hd : decode (bT k) pc = .ok (.bipush n, 2)) (hr : F K C X (.bipush n) (pc + 2) a b ts L st h = some res) : W p l e R s m args below meth c H locs cells slots Q (F0 m pc ls (st.map (vv φ))) := by
  have hs := I.2.2.1
  unfold F at hr
  dsimp only at hr
  refine lv_bipush hX.1 hX.2.1 hd rfl (hK _ _ _ _ _ _ _ _ _ _ _ hr (I.st ?_))
  simp only [List.forall_mem_cons]
  exact ⟨trivial, hs⟩
theorem sn_sipush {n : Int} (hX : Ctx G p s m meth c k) (hK : KOK G p l e R s m args below meth c Q k φ0 h0 res K) (I : IV G s k φ0 h0 φ ψ L st h H locs cells slots ls) (hd : decode (bT k) pc = .ok (.sipush n, 3)) (hr : F K C X (.sipush n) (pc + 3) a b ts L st h = some res) : W p l e R s m args below meth c H locs cells slots Q (F0 m pc ls (st.map (vv φ))) := by
  have hs := I.2.2.1
  unfold F at hr
  dsimp only at hr
  refine lv_sipush hX.1 hX.2.1 hd rfl (hK _ _ _ _ _ _ _ _ _ _ _ hr (I.st ?_))
  simp only [List.forall_mem_cons]
  exact ⟨trivial, hs⟩
theorem sn_lconst {n : Fin 2} (hX : Ctx G p s m meth c k) (hK : KOK G p l e R s m args below meth c Q k φ0 h0 res K) (I : IV G s k φ0 h0 φ ψ L st h H locs cells slots ls) (hd : decode (bT k) pc = .ok (.lconst n, 1)) (hr : F K C X (.lconst n) (pc + 1) a b ts L st h = some res) : W p l e R s m args below meth c H locs cells slots Q (F0 m pc ls (st.map (vv φ))) := by
  have hs := I.2.2.1
  unfold F at hr
  dsimp only at hr
  refine lv_lconst hX.1 hX.2.1 hd rfl (hK _ _ _ _ _ _ _ _ _ _ _ hr (I.st ?_))
  simp only [List.forall_mem_cons]
  exact ⟨trivial, hs⟩
theorem sn_aconst_null (hX : Ctx G p s m meth c k) (hK : KOK G p l e R s m args below meth c Q k φ0 h0 res K) (I : IV G s k φ0 h0 φ ψ L st h H locs cells slots ls) (hd : decode (bT k) pc = .ok (.aconst_null, 1)) (hr : F K C X (.aconst_null) (pc + 1) a b ts L st h = some res) : W p l e R s m args below meth c H locs cells slots Q (F0 m pc ls (st.map (vv φ))) := by
  have hs := I.2.2.1
  unfold F at hr
  dsimp only at hr
  refine lv_null hX.1 hX.2.1 hd (hK _ _ _ _ _ _ _ _ _ _ _ hr (I.st ?_))
  simp only [List.forall_mem_cons]
  exact ⟨trivial, hs⟩
theorem sn_fconst {n : Fin 3} (hX : Ctx G p s m meth c k) (hK : KOK G p l e R s m args below meth c Q k φ0 h0 res K) (I : IV G s k φ0 h0 φ ψ L st h H locs cells slots ls) (hd : decode (bT k) pc = .ok (.fconst n, 1)) (hr : F K C X (.fconst n) (pc + 1) a b ts L st h = some res) : W p l e R s m args below meth c H locs cells slots Q (F0 m pc ls (st.map (vv φ))) := by
  have hs := I.2.2.1
  unfold F at hr
  dsimp only at hr
  split at hr
  · rename_i e
    have e : n = 0 := Fin.ext e
    subst e
    refine lv_fconst0 hX.1 hX.2.1 hd (hK _ _ _ _ _ _ _ _ _ _ _ hr (I.st ?_))
    simp only [List.forall_mem_cons]
    exact ⟨trivial, hs⟩
  · cases hr
theorem sn_dconst {n : Fin 2} (hX : Ctx G p s m meth c k) (hK : KOK G p l e R s m args below meth c Q k φ0 h0 res K) (I : IV G s k φ0 h0 φ ψ L st h H locs cells slots ls) (hd : decode (bT k) pc = .ok (.dconst n, 1)) (hr : F K C X (.dconst n) (pc + 1) a b ts L st h = some res) : W p l e R s m args below meth c H locs cells slots Q (F0 m pc ls (st.map (vv φ))) := by
  have hs := I.2.2.1
  unfold F at hr
  dsimp only at hr
  split at hr
  · rename_i e
    have e : n = 0 := Fin.ext e
    subst e
    refine lv_dconst0 hX.1 hX.2.1 hd (hK _ _ _ _ _ _ _ _ _ _ _ hr (I.st ?_))
    simp only [List.forall_mem_cons]
    exact ⟨trivial, hs⟩
  · cases hr
theorem sn_iload_n {i : Fin 4} (hX : Ctx G p s m meth c k) (hK : KOK G p l e R s m args below meth c Q k φ0 h0 res K) (I : IV G s k φ0 h0 φ ψ L st h H locs cells slots ls) (hd : decode (bT k) pc = .ok (.iload_n i, 1)) (hr : F K C X (.iload_n i) (pc + 1) a b ts L st h = some res) : W p l e R s m args below meth c H locs cells slots Q (F0 m pc ls (st.map (vv φ))) := by
  have hs := I.2.2.1
  unfold F at hr
  dsimp only at hr
  obtain ⟨x, e, hr⟩ := bind_some hr
  have e := oI_eq e
  refine lv_iload_n hX.1 hX.2.1 hd rfl (x := x) (I.ld e).1 (hK _ _ _ _ _ _ _ _ _ _ _ hr (I.st ?_))
  simp only [List.forall_mem_cons]
  exact ⟨trivial, hs⟩
theorem sn_iload {i : Nat} (hX : Ctx G p s m meth c k) (hK : KOK G p l e R s m args below meth c Q k φ0 h0 res K) (I : IV G s k φ0 h0 φ ψ L st h H locs cells slots ls) (hd : decode (bT k) pc = .ok (.iload i, 2)) (hr : F K C X (.iload i) (pc + 2) a b ts L st h = some res) : W p l e R s m args below meth c H locs cells slots Q (F0 m pc ls (st.map (vv φ))) := by
  have hs := I.2.2.1
  unfold F at hr
  dsimp only at hr
  obtain ⟨x, e, hr⟩ := bind_some hr
  have e := oI_eq e
  refine lv_iload hX.1 hX.2.1 hd (x := x) (I.ld e).1 (hK _ _ _ _ _ _ _ _ _ _ _ hr (I.st ?_))
  simp only [List.forall_mem_cons]
  exact ⟨trivial, hs⟩
theorem sn_lload_n {i : Fin 4} (hX : Ctx G p s m meth c k) (hK : KOK G p l e R s m args below meth c Q k φ0 h0 res K) (I : IV G s k φ0 h0 φ ψ L st h H locs cells slots ls) (hd : decode (bT k) pc = .ok (.lload_n i, 1)) (hr : F K C X (.lload_n i) (pc + 1) a b ts L st h = some res) : W p l e R s m args below meth c H locs cells slots Q (F0 m pc ls (st.map (vv φ))) := by
  have hs := I.2.2.1
  unfold F at hr
  dsimp only at hr
  obtain ⟨x, e, hr⟩ := bind_some hr
  have e := oL_eq e
  refine lv_lload_n hX.1 hX.2.1 hd rfl (x := x) (I.ld e).1 (hK _ _ _ _ _ _ _ _ _ _ _ hr (I.st ?_))
  simp only [List.forall_mem_cons]
  exact ⟨trivial, hs⟩
theorem sn_lload {i : Nat} (hX : Ctx G p s m meth c k) (hK : KOK G p l e R s m args below meth c Q k φ0 h0 res K) (I : IV G s k φ0 h0 φ ψ L st h H locs cells slots ls) (hd : decode (bT k) pc = .ok (.lload i, 2)) (hr : F K C X (.lload i) (pc + 2) a b ts L st h = some res) : W p l e R s m args below meth c H locs cells slots Q (F0 m pc ls (st.map (vv φ))) := by
  have hs := I.2.2.1
  unfold F at hr
  dsimp only at hr
  obtain ⟨x, e, hr⟩ := bind_some hr
  have e := oL_eq e
  refine lv_lload hX.1 hX.2.1 hd (x := x) (I.ld e).1 (hK _ _ _ _ _ _ _ _ _ _ _ hr (I.st ?_))
  simp only [List.forall_mem_cons]
  exact ⟨trivial, hs⟩
theorem sn_dload {i : Nat} (hX : Ctx G p s m meth c k) (hK : KOK G p l e R s m args below meth c Q k φ0 h0 res K) (I : IV G s k φ0 h0 φ ψ L st h H locs cells slots ls) (hd : decode (bT k) pc = .ok (.dload i, 2)) (hr : F K C X (.dload i) (pc + 2) a b ts L st h = some res) : W p l e R s m args below meth c H locs cells slots Q (F0 m pc ls (st.map (vv φ))) := by
  have hs := I.2.2.1
  unfold F at hr
  dsimp only at hr
  obtain ⟨x, e, hr⟩ := bind_some hr
  have e := oD_eq e
  refine lv_dload hX.1 hX.2.1 hd (x := x) (I.ld e).1 (hK _ _ _ _ _ _ _ _ _ _ _ hr (I.st ?_))
  simp only [List.forall_mem_cons]
  exact ⟨trivial, hs⟩
theorem sn_aload_n {i : Fin 4} (hX : Ctx G p s m meth c k) (hK : KOK G p l e R s m args below meth c Q k φ0 h0 res K) (I : IV G s k φ0 h0 φ ψ L st h H locs cells slots ls) (hd : decode (bT k) pc = .ok (.aload_n i, 1)) (hr : F K C X (.aload_n i) (pc + 1) a b ts L st h = some res) : W p l e R s m args below meth c H locs cells slots Q (F0 m pc ls (st.map (vv φ))) := by
  have hs := I.2.2.1
  unfold F at hr
  dsimp only at hr
  obtain ⟨x, e, hr⟩ := bind_some hr
  have e := oR_eq e
  have z := I.ld e
  cases x with
  | none =>
    refine lv_aload_nN hX.1 hX.2.1 hd rfl z.1 (hK _ _ _ _ _ _ _ _ _ _ _ hr (I.st ?_))
    simp only [List.forall_mem_cons]
    exact ⟨trivial, hs⟩
  | some q =>
    refine lv_aload_n hX.1 hX.2.1 hd rfl (x := φ q) z.1 (hK _ _ _ _ _ _ _ _ _ _ _ hr (I.st ?_))
    simp only [List.forall_mem_cons]
    exact ⟨z.2, hs⟩
theorem sn_aload {i : Nat} (hX : Ctx G p s m meth c k) (hK : KOK G p l e R s m args below meth c Q k φ0 h0 res K) (I : IV G s k φ0 h0 φ ψ L st h H locs cells slots ls) (hd : decode (bT k) pc = .ok (.aload i, 2)) (hr : F K C X (.aload i) (pc + 2) a b ts L st h = some res) : W p l e R s m args below meth c H locs cells slots Q (F0 m pc ls (st.map (vv φ))) := by
  have hs := I.2.2.1
  unfold F at hr
  dsimp only at hr
  obtain ⟨x, e, hr⟩ := bind_some hr
  have e := oR_eq e
  have z := I.ld e
  cases x with
  | none =>
    refine lv_aloadN hX.1 hX.2.1 hd z.1 (hK _ _ _ _ _ _ _ _ _ _ _ hr (I.st ?_))
    simp only [List.forall_mem_cons]
    exact ⟨trivial, hs⟩
  | some q =>
    refine lv_aload hX.1 hX.2.1 hd (x := φ q) z.1 (hK _ _ _ _ _ _ _ _ _ _ _ hr (I.st ?_))
    simp only [List.forall_mem_cons]
    exact ⟨z.2, hs⟩
theorem sn_istore_n {i : Fin 4} (hX : Ctx G p s m meth c k) (hK : KOK G p l e R s m args below meth c Q k φ0 h0 res K) (I : IV G s k φ0 h0 φ ψ L st h H locs cells slots ls) (hd : decode (bT k) pc = .ok (.istore_n i, 1)) (hi : i.val < mlT k) (hr : F K C X (.istore_n i) (pc + 1) a b ts L st h = some res) : W p l e R s m args below meth c H locs cells slots Q (F0 m pc ls (st.map (vv φ))) := by
  have hs := I.2.2.1
  unfold F at hr
  dsimp only at hr
  split at hr
  · rename_i x st
    simp only [List.forall_mem_cons] at hs
    refine lv_istore_n (lv' := mapL φ (st1 i.val (aI x) L)) hX.1 hX.2.1 hd rfl I.1 hi (by show _ = _ :: mapL φ (rm1 _ L); rw [rm1_map]; rfl) (fun ls' hl' => hK _ _ _ _ _ _ _ _ _ _ _ hr (I.lc hl' ?_ hs.2))
    exact List.forall_mem_cons.mpr ⟨trivial, fun q hq => I.2.1 q (rm1_sub _ _ q hq)⟩
  · cases hr
theorem sn_istore {i : Nat} (hX : Ctx G p s m meth c k) (hK : KOK G p l e R s m args below meth c Q k φ0 h0 res K) (I : IV G s k φ0 h0 φ ψ L st h H locs cells slots ls) (hd : decode (bT k) pc = .ok (.istore i, 2)) (hi : i < mlT k) (hr : F K C X (.istore i) (pc + 2) a b ts L st h = some res) : W p l e R s m args below meth c H locs cells slots Q (F0 m pc ls (st.map (vv φ))) := by
  have hs := I.2.2.1
  unfold F at hr
  dsimp only at hr
  split at hr
  · rename_i x st
    simp only [List.forall_mem_cons] at hs
    refine lv_istore (lv' := mapL φ (st1 i (aI x) L)) hX.1 hX.2.1 hd I.1 hi (by show _ = _ :: mapL φ (rm1 _ L); rw [rm1_map]; rfl) (fun ls' hl' => hK _ _ _ _ _ _ _ _ _ _ _ hr (I.lc hl' ?_ hs.2))
    exact List.forall_mem_cons.mpr ⟨trivial, fun q hq => I.2.1 q (rm1_sub _ _ q hq)⟩
  · cases hr
theorem sn_lstore_n {i : Fin 4} (hX : Ctx G p s m meth c k) (hK : KOK G p l e R s m args below meth c Q k φ0 h0 res K) (I : IV G s k φ0 h0 φ ψ L st h H locs cells slots ls) (hd : decode (bT k) pc = .ok (.lstore_n i, 1)) (hi : i.val + 1 < mlT k) (hr : F K C X (.lstore_n i) (pc + 1) a b ts L st h = some res) : W p l e R s m args below meth c H locs cells slots Q (F0 m pc ls (st.map (vv φ))) := by
  have hs := I.2.2.1
  unfold F at hr
  dsimp only at hr
  split at hr
  · rename_i x st
    simp only [List.forall_mem_cons] at hs
    refine lv_lstore_n (lv' := mapL φ (st2 i.val (aL x) L)) hX.1 hX.2.1 hd rfl I.1 hi (by show _ = _ :: mapL φ (rm2 _ L); rw [rm2_map]; rfl) (fun ls' hl' => hK _ _ _ _ _ _ _ _ _ _ _ hr (I.lc hl' ?_ hs.2))
    exact List.forall_mem_cons.mpr ⟨trivial, fun q hq => I.2.1 q (rm2_sub _ _ q hq)⟩
  · cases hr
theorem sn_lstore {i : Nat} (hX : Ctx G p s m meth c k) (hK : KOK G p l e R s m args below meth c Q k φ0 h0 res K) (I : IV G s k φ0 h0 φ ψ L st h H locs cells slots ls) (hd : decode (bT k) pc = .ok (.lstore i, 2)) (hi : i + 1 < mlT k) (hr : F K C X (.lstore i) (pc + 2) a b ts L st h = some res) : W p l e R s m args below meth c H locs cells slots Q (F0 m pc ls (st.map (vv φ))) := by
  have hs := I.2.2.1
  unfold F at hr
  dsimp only at hr
  split at hr
  · rename_i x st
    simp only [List.forall_mem_cons] at hs
    refine lv_lstore (lv' := mapL φ (st2 i (aL x) L)) hX.1 hX.2.1 hd I.1 hi (by show _ = _ :: mapL φ (rm2 _ L); rw [rm2_map]; rfl) (fun ls' hl' => hK _ _ _ _ _ _ _ _ _ _ _ hr (I.lc hl' ?_ hs.2))
    exact List.forall_mem_cons.mpr ⟨trivial, fun q hq => I.2.1 q (rm2_sub _ _ q hq)⟩
  · cases hr
theorem sn_dstore {i : Nat} (hX : Ctx G p s m meth c k) (hK : KOK G p l e R s m args below meth c Q k φ0 h0 res K) (I : IV G s k φ0 h0 φ ψ L st h H locs cells slots ls) (hd : decode (bT k) pc = .ok (.dstore i, 2)) (hi : i + 1 < mlT k) (hr : F K C X (.dstore i) (pc + 2) a b ts L st h = some res) : W p l e R s m args below meth c H locs cells slots Q (F0 m pc ls (st.map (vv φ))) := by
  have hs := I.2.2.1
  unfold F at hr
  dsimp only at hr
  split at hr
  · rename_i x st
    simp only [List.forall_mem_cons] at hs
    refine lv_dstore (lv' := mapL φ (st2 i (aD x) L)) hX.1 hX.2.1 hd I.1 hi (by show _ = _ :: mapL φ (rm2 _ L); rw [rm2_map]; rfl) (fun ls' hl' => hK _ _ _ _ _ _ _ _ _ _ _ hr (I.lc hl' ?_ hs.2))
    exact List.forall_mem_cons.mpr ⟨trivial, fun q hq => I.2.1 q (rm2_sub _ _ q hq)⟩
  · cases hr
theorem sn_astore_n {i : Fin 4} (hX : Ctx G p s m meth c k) (hK : KOK G p l e R s m args below meth c Q k φ0 h0 res K) (I : IV G s k φ0 h0 φ ψ L st h H locs cells slots ls) (hd : decode (bT k) pc = .ok (.astore_n i, 1)) (hi : i.val < mlT k) (hr : F K C X (.astore_n i) (pc + 1) a b ts L st h = some res) : W p l e R s m args below meth c H locs cells slots Q (F0 m pc ls (st.map (vv φ))) := by
  have hs := I.2.2.1
  unfold F at hr
  dsimp only at hr
  split at hr
  · rename_i x st
    simp only [List.forall_mem_cons] at hs
    cases x with
    | none =>
      refine lv_astore_nN (lv' := mapL φ (st1 i.val (aR (none)) L)) hX.1 hX.2.1 hd rfl I.1 hi (by show _ = _ :: mapL φ (rm1 _ L); rw [rm1_map]; rfl) (fun ls' hl' => hK _ _ _ _ _ _ _ _ _ _ _ hr (I.lc hl' ?_ hs.2))
      exact List.forall_mem_cons.mpr ⟨hs.1, fun q hq => I.2.1 q (rm1_sub _ _ q hq)⟩
    | some q =>
      refine lv_astore_n (lv' := mapL φ (st1 i.val (aR (some q)) L)) hX.1 hX.2.1 hd rfl I.1 hi (by show _ = _ :: mapL φ (rm1 _ L); rw [rm1_map]; rfl) (fun ls' hl' => hK _ _ _ _ _ _ _ _ _ _ _ hr (I.lc hl' ?_ hs.2))
      exact List.forall_mem_cons.mpr ⟨hs.1, fun q hq => I.2.1 q (rm1_sub _ _ q hq)⟩
  · cases hr
theorem sn_astore {i : Nat} (hX : Ctx G p s m meth c k) (hK : KOK G p l e R s m args below meth c Q k φ0 h0 res K) (I : IV G s k φ0 h0 φ ψ L st h H locs cells slots ls) (hd : decode (bT k) pc = .ok (.astore i, 2)) (hi : i < mlT k) (hr : F K C X (.astore i) (pc + 2) a b ts L st h = some res) : W p l e R s m args below meth c H locs cells slots Q (F0 m pc ls (st.map (vv φ))) := by
  have hs := I.2.2.1
  unfold F at hr
  dsimp only at hr
  split at hr
  · rename_i x st
    simp only [List.forall_mem_cons] at hs
    cases x with
    | none =>
      refine lv_astoreN (lv' := mapL φ (st1 i (aR (none)) L)) hX.1 hX.2.1 hd I.1 hi (by show _ = _ :: mapL φ (rm1 _ L); rw [rm1_map]; rfl) (fun ls' hl' => hK _ _ _ _ _ _ _ _ _ _ _ hr (I.lc hl' ?_ hs.2))
      exact List.forall_mem_cons.mpr ⟨hs.1, fun q hq => I.2.1 q (rm1_sub _ _ q hq)⟩
    | some q =>
      refine lv_astore (lv' := mapL φ (st1 i (aR (some q)) L)) hX.1 hX.2.1 hd I.1 hi (by show _ = _ :: mapL φ (rm1 _ L); rw [rm1_map]; rfl) (fun ls' hl' => hK _ _ _ _ _ _ _ _ _ _ _ hr (I.lc hl' ?_ hs.2))
      exact List.forall_mem_cons.mpr ⟨hs.1, fun q hq => I.2.1 q (rm1_sub _ _ q hq)⟩
  · cases hr
theorem sn_iinc {i : Nat} {n : Int} (hX : Ctx G p s m meth c k) (hK : KOK G p l e R s m args below meth c Q k φ0 h0 res K) (I : IV G s k φ0 h0 φ ψ L st h H locs cells slots ls) (hd : decode (bT k) pc = .ok (.iinc i n, 3)) (hi : i < mlT k) (hr : F K C X (.iinc i n) (pc + 3) a b ts L st h = some res) : W p l e R s m args below meth c H locs cells slots Q (F0 m pc ls (st.map (vv φ))) := by
  have hs := I.2.2.1
  unfold F at hr
  dsimp only at hr
  obtain ⟨x, e, hr⟩ := bind_some hr
  have e := oI_eq e
  have z := I.ld e
  obtain ⟨j, hj⟩ := List.getElem?_of_mem (List.mem_map.mpr ⟨(i, aI x), ldL_mem e, rfl⟩ : (i, Value.int x) ∈ mapL φ L)
  refine lv_iinc (lv' := mapL φ (st1 i (aI (x + Int32.ofInt n)) L)) hX.1 hX.2.1 hd I.1 hj rfl hi (by show _ = _ :: mapL φ (rm1 _ L); rw [rm1_map]; rfl) (fun ls' hl' => hK _ _ _ _ _ _ _ _ _ _ _ hr (I.lc hl' ?_ hs))
  exact List.forall_mem_cons.mpr ⟨trivial, fun q hq => I.2.1 q (rm1_sub _ _ q hq)⟩
theorem sn_iadd (hX : Ctx G p s m meth c k) (hK : KOK G p l e R s m args below meth c Q k φ0 h0 res K) (I : IV G s k φ0 h0 φ ψ L st h H locs cells slots ls) (hd : decode (bT k) pc = .ok (.iadd, 1)) (hr : F K C X (.iadd) (pc + 1) a b ts L st h = some res) : W p l e R s m args below meth c H locs cells slots Q (F0 m pc ls (st.map (vv φ))) := by
  have hs := I.2.2.1
  unfold F at hr
  dsimp only at hr
  split at hr
  · simp only [List.forall_mem_cons] at hs
    refine lv_iadd hX.1 hX.2.1 hd (hK _ _ _ _ _ _ _ _ _ _ _ hr (I.st ?_))
    simp only [List.forall_mem_cons]
    exact ⟨trivial, hs.2.2⟩
  · cases hr
theorem sn_isub (hX : Ctx G p s m meth c k) (hK : KOK G p l e R s m args below meth c Q k φ0 h0 res K) (I : IV G s k φ0 h0 φ ψ L st h H locs cells slots ls) (hd : decode (bT k) pc = .ok (.isub, 1)) (hr : F K C X (.isub) (pc + 1) a b ts L st h = some res) : W p l e R s m args below meth c H locs cells slots Q (F0 m pc ls (st.map (vv φ))) := by
  have hs := I.2.2.1
  unfold F at hr
  dsimp only at hr
  split at hr
  · simp only [List.forall_mem_cons] at hs
    refine lv_isub hX.1 hX.2.1 hd (hK _ _ _ _ _ _ _ _ _ _ _ hr (I.st ?_))
    simp only [List.forall_mem_cons]
    exact ⟨trivial, hs.2.2⟩
  · cases hr
theorem sn_imul (hX : Ctx G p s m meth c k) (hK : KOK G p l e R s m args below meth c Q k φ0 h0 res K) (I : IV G s k φ0 h0 φ ψ L st h H locs cells slots ls) (hd : decode (bT k) pc = .ok (.imul, 1)) (hr : F K C X (.imul) (pc + 1) a b ts L st h = some res) : W p l e R s m args below meth c H locs cells slots Q (F0 m pc ls (st.map (vv φ))) := by
  have hs := I.2.2.1
  unfold F at hr
  dsimp only at hr
  split at hr
  · simp only [List.forall_mem_cons] at hs
    refine lv_imul hX.1 hX.2.1 hd (hK _ _ _ _ _ _ _ _ _ _ _ hr (I.st ?_))
    simp only [List.forall_mem_cons]
    exact ⟨trivial, hs.2.2⟩
  · cases hr
theorem sn_iand (hX : Ctx G p s m meth c k) (hK : KOK G p l e R s m args below meth c Q k φ0 h0 res K) (I : IV G s k φ0 h0 φ ψ L st h H locs cells slots ls) (hd : decode (bT k) pc = .ok (.iand, 1)) (hr : F K C X (.iand) (pc + 1) a b ts L st h = some res) : W p l e R s m args below meth c H locs cells slots Q (F0 m pc ls (st.map (vv φ))) := by
  have hs := I.2.2.1
  unfold F at hr
  dsimp only at hr
  split at hr
  · simp only [List.forall_mem_cons] at hs
    refine lv_iand hX.1 hX.2.1 hd (hK _ _ _ _ _ _ _ _ _ _ _ hr (I.st ?_))
    simp only [List.forall_mem_cons]
    exact ⟨trivial, hs.2.2⟩
  · cases hr
theorem sn_ixor (hX : Ctx G p s m meth c k) (hK : KOK G p l e R s m args below meth c Q k φ0 h0 res K) (I : IV G s k φ0 h0 φ ψ L st h H locs cells slots ls) (hd : decode (bT k) pc = .ok (.ixor, 1)) (hr : F K C X (.ixor) (pc + 1) a b ts L st h = some res) : W p l e R s m args below meth c H locs cells slots Q (F0 m pc ls (st.map (vv φ))) := by
  have hs := I.2.2.1
  unfold F at hr
  dsimp only at hr
  split at hr
  · simp only [List.forall_mem_cons] at hs
    refine lv_ixor hX.1 hX.2.1 hd (hK _ _ _ _ _ _ _ _ _ _ _ hr (I.st ?_))
    simp only [List.forall_mem_cons]
    exact ⟨trivial, hs.2.2⟩
  · cases hr
theorem sn_ior (hX : Ctx G p s m meth c k) (hK : KOK G p l e R s m args below meth c Q k φ0 h0 res K) (I : IV G s k φ0 h0 φ ψ L st h H locs cells slots ls) (hd : decode (bT k) pc = .ok (.ior, 1)) (hr : F K C X (.ior) (pc + 1) a b ts L st h = some res) : W p l e R s m args below meth c H locs cells slots Q (F0 m pc ls (st.map (vv φ))) := by
  have hs := I.2.2.1
  unfold F at hr
  dsimp only at hr
  split at hr
  · simp only [List.forall_mem_cons] at hs
    refine lv_ior hX.1 hX.2.1 hd (hK _ _ _ _ _ _ _ _ _ _ _ hr (I.st ?_))
    simp only [List.forall_mem_cons]
    exact ⟨trivial, hs.2.2⟩
  · cases hr
theorem sn_ladd (hX : Ctx G p s m meth c k) (hK : KOK G p l e R s m args below meth c Q k φ0 h0 res K) (I : IV G s k φ0 h0 φ ψ L st h H locs cells slots ls) (hd : decode (bT k) pc = .ok (.ladd, 1)) (hr : F K C X (.ladd) (pc + 1) a b ts L st h = some res) : W p l e R s m args below meth c H locs cells slots Q (F0 m pc ls (st.map (vv φ))) := by
  have hs := I.2.2.1
  unfold F at hr
  dsimp only at hr
  split at hr
  · simp only [List.forall_mem_cons] at hs
    refine lv_ladd hX.1 hX.2.1 hd (hK _ _ _ _ _ _ _ _ _ _ _ hr (I.st ?_))
    simp only [List.forall_mem_cons]
    exact ⟨trivial, hs.2.2⟩
  · cases hr
theorem sn_lsub (hX : Ctx G p s m meth c k) (hK : KOK G p l e R s m args below meth c Q k φ0 h0 res K) (I : IV G s k φ0 h0 φ ψ L st h H locs cells slots ls) (hd : decode (bT k) pc = .ok (.lsub, 1)) (hr : F K C X (.lsub) (pc + 1) a b ts L st h = some res) : W p l e R s m args below meth c H locs cells slots Q (F0 m pc ls (st.map (vv φ))) := by
  have hs := I.2.2.1
  unfold F at hr
  dsimp only at hr
  split at hr
  · simp only [List.forall_mem_cons] at hs
    refine lv_lsub hX.1 hX.2.1 hd (hK _ _ _ _ _ _ _ _ _ _ _ hr (I.st ?_))
    simp only [List.forall_mem_cons]
    exact ⟨trivial, hs.2.2⟩
  · cases hr
theorem sn_lmul (hX : Ctx G p s m meth c k) (hK : KOK G p l e R s m args below meth c Q k φ0 h0 res K) (I : IV G s k φ0 h0 φ ψ L st h H locs cells slots ls) (hd : decode (bT k) pc = .ok (.lmul, 1)) (hr : F K C X (.lmul) (pc + 1) a b ts L st h = some res) : W p l e R s m args below meth c H locs cells slots Q (F0 m pc ls (st.map (vv φ))) := by
  have hs := I.2.2.1
  unfold F at hr
  dsimp only at hr
  split at hr
  · simp only [List.forall_mem_cons] at hs
    refine lv_lmul hX.1 hX.2.1 hd (hK _ _ _ _ _ _ _ _ _ _ _ hr (I.st ?_))
    simp only [List.forall_mem_cons]
    exact ⟨trivial, hs.2.2⟩
  · cases hr
theorem sn_land (hX : Ctx G p s m meth c k) (hK : KOK G p l e R s m args below meth c Q k φ0 h0 res K) (I : IV G s k φ0 h0 φ ψ L st h H locs cells slots ls) (hd : decode (bT k) pc = .ok (.land, 1)) (hr : F K C X (.land) (pc + 1) a b ts L st h = some res) : W p l e R s m args below meth c H locs cells slots Q (F0 m pc ls (st.map (vv φ))) := by
  have hs := I.2.2.1
  unfold F at hr
  dsimp only at hr
  split at hr
  · simp only [List.forall_mem_cons] at hs
    refine lv_land hX.1 hX.2.1 hd (hK _ _ _ _ _ _ _ _ _ _ _ hr (I.st ?_))
    simp only [List.forall_mem_cons]
    exact ⟨trivial, hs.2.2⟩
  · cases hr
theorem sn_lor (hX : Ctx G p s m meth c k) (hK : KOK G p l e R s m args below meth c Q k φ0 h0 res K) (I : IV G s k φ0 h0 φ ψ L st h H locs cells slots ls) (hd : decode (bT k) pc = .ok (.lor, 1)) (hr : F K C X (.lor) (pc + 1) a b ts L st h = some res) : W p l e R s m args below meth c H locs cells slots Q (F0 m pc ls (st.map (vv φ))) := by
  have hs := I.2.2.1
  unfold F at hr
  dsimp only at hr
  split at hr
  · simp only [List.forall_mem_cons] at hs
    refine lv_lor hX.1 hX.2.1 hd (hK _ _ _ _ _ _ _ _ _ _ _ hr (I.st ?_))
    simp only [List.forall_mem_cons]
    exact ⟨trivial, hs.2.2⟩
  · cases hr
theorem sn_ishl (hX : Ctx G p s m meth c k) (hK : KOK G p l e R s m args below meth c Q k φ0 h0 res K) (I : IV G s k φ0 h0 φ ψ L st h H locs cells slots ls) (hd : decode (bT k) pc = .ok (.ishl, 1)) (hr : F K C X (.ishl) (pc + 1) a b ts L st h = some res) : W p l e R s m args below meth c H locs cells slots Q (F0 m pc ls (st.map (vv φ))) := by
  have hs := I.2.2.1
  unfold F at hr
  dsimp only at hr
  split at hr
  · simp only [List.forall_mem_cons] at hs
    refine lv_ishl hX.1 hX.2.1 hd (hK _ _ _ _ _ _ _ _ _ _ _ hr (I.st ?_))
    simp only [List.forall_mem_cons]
    exact ⟨trivial, hs.2.2⟩
  · cases hr
theorem sn_ishr (hX : Ctx G p s m meth c k) (hK : KOK G p l e R s m args below meth c Q k φ0 h0 res K) (I : IV G s k φ0 h0 φ ψ L st h H locs cells slots ls) (hd : decode (bT k) pc = .ok (.ishr, 1)) (hr : F K C X (.ishr) (pc + 1) a b ts L st h = some res) : W p l e R s m args below meth c H locs cells slots Q (F0 m pc ls (st.map (vv φ))) := by
  have hs := I.2.2.1
  unfold F at hr
  dsimp only at hr
  split at hr
  · simp only [List.forall_mem_cons] at hs
    refine lv_ishr hX.1 hX.2.1 hd (hK _ _ _ _ _ _ _ _ _ _ _ hr (I.st ?_))
    simp only [List.forall_mem_cons]
    exact ⟨trivial, hs.2.2⟩
  · cases hr
theorem sn_iushr (hX : Ctx G p s m meth c k) (hK : KOK G p l e R s m args below meth c Q k φ0 h0 res K) (I : IV G s k φ0 h0 φ ψ L st h H locs cells slots ls) (hd : decode (bT k) pc = .ok (.iushr, 1)) (hr : F K C X (.iushr) (pc + 1) a b ts L st h = some res) : W p l e R s m args below meth c H locs cells slots Q (F0 m pc ls (st.map (vv φ))) := by
  have hs := I.2.2.1
  unfold F at hr
  dsimp only at hr
  split at hr
  · simp only [List.forall_mem_cons] at hs
    refine lv_iushr hX.1 hX.2.1 hd rfl (hK _ _ _ _ _ _ _ _ _ _ _ hr (I.st ?_))
    simp only [List.forall_mem_cons]
    exact ⟨trivial, hs.2.2⟩
  · cases hr
theorem sn_lshl (hX : Ctx G p s m meth c k) (hK : KOK G p l e R s m args below meth c Q k φ0 h0 res K) (I : IV G s k φ0 h0 φ ψ L st h H locs cells slots ls) (hd : decode (bT k) pc = .ok (.lshl, 1)) (hr : F K C X (.lshl) (pc + 1) a b ts L st h = some res) : W p l e R s m args below meth c H locs cells slots Q (F0 m pc ls (st.map (vv φ))) := by
  have hs := I.2.2.1
  unfold F at hr
  dsimp only at hr
  split at hr
  · simp only [List.forall_mem_cons] at hs
    refine lv_lshl hX.1 hX.2.1 hd rfl (hK _ _ _ _ _ _ _ _ _ _ _ hr (I.st ?_))
    simp only [List.forall_mem_cons]
    exact ⟨trivial, hs.2.2⟩
  · cases hr
theorem sn_lushr (hX : Ctx G p s m meth c k) (hK : KOK G p l e R s m args below meth c Q k φ0 h0 res K) (I : IV G s k φ0 h0 φ ψ L st h H locs cells slots ls) (hd : decode (bT k) pc = .ok (.lushr, 1)) (hr : F K C X (.lushr) (pc + 1) a b ts L st h = some res) : W p l e R s m args below meth c H locs cells slots Q (F0 m pc ls (st.map (vv φ))) := by
  have hs := I.2.2.1
  unfold F at hr
  dsimp only at hr
  split at hr
  · simp only [List.forall_mem_cons] at hs
    refine lv_lushr hX.1 hX.2.1 hd rfl (hK _ _ _ _ _ _ _ _ _ _ _ hr (I.st ?_))
    simp only [List.forall_mem_cons]
    exact ⟨trivial, hs.2.2⟩
  · cases hr
theorem sn_lcmp (hX : Ctx G p s m meth c k) (hK : KOK G p l e R s m args below meth c Q k φ0 h0 res K) (I : IV G s k φ0 h0 φ ψ L st h H locs cells slots ls) (hd : decode (bT k) pc = .ok (.lcmp, 1)) (hr : F K C X (.lcmp) (pc + 1) a b ts L st h = some res) : W p l e R s m args below meth c H locs cells slots Q (F0 m pc ls (st.map (vv φ))) := by
  have hs := I.2.2.1
  unfold F at hr
  dsimp only at hr
  split at hr
  · simp only [List.forall_mem_cons] at hs
    refine W.lcmp hX.1 hX.2.1 hd (hK _ _ _ _ _ _ _ _ _ _ _ hr (I.st ?_))
    simp only [List.forall_mem_cons]
    exact ⟨trivial, hs.2.2⟩
  · cases hr
theorem sn_irem (hX : Ctx G p s m meth c k) (hK : KOK G p l e R s m args below meth c Q k φ0 h0 res K) (I : IV G s k φ0 h0 φ ψ L st h H locs cells slots ls) (hd : decode (bT k) pc = .ok (.irem, 1)) (hr : F K C X (.irem) (pc + 1) a b ts L st h = some res) : W p l e R s m args below meth c H locs cells slots Q (F0 m pc ls (st.map (vv φ))) := by
  have hs := I.2.2.1
  unfold F at hr
  dsimp only at hr
  split at hr
  · simp only [List.forall_mem_cons] at hs
    split at hr
    · cases hr
    · rename_i hn
      refine lv_irem hX.1 hX.2.1 hd hn (hK _ _ _ _ _ _ _ _ _ _ _ hr (I.st ?_))
      simp only [List.forall_mem_cons]
      exact ⟨trivial, hs.2.2⟩
  · cases hr
theorem sn_ldiv (hX : Ctx G p s m meth c k) (hK : KOK G p l e R s m args below meth c Q k φ0 h0 res K) (I : IV G s k φ0 h0 φ ψ L st h H locs cells slots ls) (hd : decode (bT k) pc = .ok (.ldiv, 1)) (hr : F K C X (.ldiv) (pc + 1) a b ts L st h = some res) : W p l e R s m args below meth c H locs cells slots Q (F0 m pc ls (st.map (vv φ))) := by
  have hs := I.2.2.1
  unfold F at hr
  dsimp only at hr
  split at hr
  · simp only [List.forall_mem_cons] at hs
    split at hr
    · cases hr
    · rename_i hn
      refine lv_ldiv hX.1 hX.2.1 hd hn (hK _ _ _ _ _ _ _ _ _ _ _ hr (I.st ?_))
      simp only [List.forall_mem_cons]
      exact ⟨trivial, hs.2.2⟩
  · cases hr
theorem sn_lrem (hX : Ctx G p s m meth c k) (hK : KOK G p l e R s m args below meth c Q k φ0 h0 res K) (I : IV G s k φ0 h0 φ ψ L st h H locs cells slots ls) (hd : decode (bT k) pc = .ok (.lrem, 1)) (hr : F K C X (.lrem) (pc + 1) a b ts L st h = some res) : W p l e R s m args below meth c H locs cells slots Q (F0 m pc ls (st.map (vv φ))) := by
  have hs := I.2.2.1
  unfold F at hr
  dsimp only at hr
  split at hr
  · simp only [List.forall_mem_cons] at hs
    split at hr
    · cases hr
    · rename_i hn
      refine lv_lrem hX.1 hX.2.1 hd hn (hK _ _ _ _ _ _ _ _ _ _ _ hr (I.st ?_))
      simp only [List.forall_mem_cons]
      exact ⟨trivial, hs.2.2⟩
  · cases hr
theorem sn_fdiv (hX : Ctx G p s m meth c k) (hK : KOK G p l e R s m args below meth c Q k φ0 h0 res K) (I : IV G s k φ0 h0 φ ψ L st h H locs cells slots ls) (hd : decode (bT k) pc = .ok (.fdiv, 1)) (hr : F K C X (.fdiv) (pc + 1) a b ts L st h = some res) : W p l e R s m args below meth c H locs cells slots Q (F0 m pc ls (st.map (vv φ))) := by
  have hs := I.2.2.1
  unfold F at hr
  dsimp only at hr
  split at hr
  · simp only [List.forall_mem_cons] at hs
    split at hr
    · rename_i hn
      refine lv_fdiv hX.1 hX.2.1 hd hn (hK _ _ _ _ _ _ _ _ _ _ _ hr (I.st ?_))
      simp only [List.forall_mem_cons]
      exact ⟨trivial, hs.2.2⟩
    · cases hr
  · cases hr
theorem sn_ddiv (hX : Ctx G p s m meth c k) (hK : KOK G p l e R s m args below meth c Q k φ0 h0 res K) (I : IV G s k φ0 h0 φ ψ L st h H locs cells slots ls) (hd : decode (bT k) pc = .ok (.ddiv, 1)) (hr : F K C X (.ddiv) (pc + 1) a b ts L st h = some res) : W p l e R s m args below meth c H locs cells slots Q (F0 m pc ls (st.map (vv φ))) := by
  have hs := I.2.2.1
  unfold F at hr
  dsimp only at hr
  split at hr
  · simp only [List.forall_mem_cons] at hs
    split at hr
    · rename_i hn
      refine lv_ddiv hX.1 hX.2.1 hd hn (hK _ _ _ _ _ _ _ _ _ _ _ hr (I.st ?_))
      simp only [List.forall_mem_cons]
      exact ⟨trivial, hs.2.2⟩
    · cases hr
  · cases hr
theorem sn_f2d (hX : Ctx G p s m meth c k) (hK : KOK G p l e R s m args below meth c Q k φ0 h0 res K) (I : IV G s k φ0 h0 φ ψ L st h H locs cells slots ls) (hd : decode (bT k) pc = .ok (.f2d, 1)) (hr : F K C X (.f2d) (pc + 1) a b ts L st h = some res) : W p l e R s m args below meth c H locs cells slots Q (F0 m pc ls (st.map (vv φ))) := by
  have hs := I.2.2.1
  unfold F at hr
  dsimp only at hr
  split at hr
  · simp only [List.forall_mem_cons] at hs
    split at hr
    · rename_i hn
      refine lv_f2d hX.1 hX.2.1 hd hn (hK _ _ _ _ _ _ _ _ _ _ _ hr (I.st ?_))
      simp only [List.forall_mem_cons]
      exact ⟨trivial, hs.2⟩
    · cases hr
  · cases hr
theorem sn_ineg (hX : Ctx G p s m meth c k) (hK : KOK G p l e R s m args below meth c Q k φ0 h0 res K) (I : IV G s k φ0 h0 φ ψ L st h H locs cells slots ls) (hd : decode (bT k) pc = .ok (.ineg, 1)) (hr : F K C X (.ineg) (pc + 1) a b ts L st h = some res) : W p l e R s m args below meth c H locs cells slots Q (F0 m pc ls (st.map (vv φ))) := by
  have hs := I.2.2.1
  unfold F at hr
  dsimp only at hr
  split at hr
  · simp only [List.forall_mem_cons] at hs
    refine lv_ineg hX.1 hX.2.1 hd (hK _ _ _ _ _ _ _ _ _ _ _ hr (I.st ?_))
    simp only [List.forall_mem_cons]
    exact ⟨trivial, hs.2⟩
  · cases hr
theorem sn_lneg (hX : Ctx G p s m meth c k) (hK : KOK G p l e R s m args below meth c Q k φ0 h0 res K) (I : IV G s k φ0 h0 φ ψ L st h H locs cells slots ls) (hd : decode (bT k) pc = .ok (.lneg, 1)) (hr : F K C X (.lneg) (pc + 1) a b ts L st h = some res) : W p l e R s m args below meth c H locs cells slots Q (F0 m pc ls (st.map (vv φ))) := by
  have hs := I.2.2.1
  unfold F at hr
  dsimp only at hr
  split at hr
  · simp only [List.forall_mem_cons] at hs
    refine lv_lneg hX.1 hX.2.1 hd (hK _ _ _ _ _ _ _ _ _ _ _ hr (I.st ?_))
    simp only [List.forall_mem_cons]
    exact ⟨trivial, hs.2⟩
  · cases hr
theorem sn_i2f (hX : Ctx G p s m meth c k) (hK : KOK G p l e R s m args below meth c Q k φ0 h0 res K) (I : IV G s k φ0 h0 φ ψ L st h H locs cells slots ls) (hd : decode (bT k) pc = .ok (.i2f, 1)) (hr : F K C X (.i2f) (pc + 1) a b ts L st h = some res) : W p l e R s m args below meth c H locs cells slots Q (F0 m pc ls (st.map (vv φ))) := by
  have hs := I.2.2.1
  unfold F at hr
  dsimp only at hr
  split at hr
  · simp only [List.forall_mem_cons] at hs
    refine lv_i2f hX.1 hX.2.1 hd (hK _ _ _ _ _ _ _ _ _ _ _ hr (I.st ?_))
    simp only [List.forall_mem_cons]
    exact ⟨trivial, hs.2⟩
  · cases hr
theorem sn_i2d (hX : Ctx G p s m meth c k) (hK : KOK G p l e R s m args below meth c Q k φ0 h0 res K) (I : IV G s k φ0 h0 φ ψ L st h H locs cells slots ls) (hd : decode (bT k) pc = .ok (.i2d, 1)) (hr : F K C X (.i2d) (pc + 1) a b ts L st h = some res) : W p l e R s m args below meth c H locs cells slots Q (F0 m pc ls (st.map (vv φ))) := by
  have hs := I.2.2.1
  unfold F at hr
  dsimp only at hr
  split at hr
  · simp only [List.forall_mem_cons] at hs
    refine lv_i2d hX.1 hX.2.1 hd (hK _ _ _ _ _ _ _ _ _ _ _ hr (I.st ?_))
    simp only [List.forall_mem_cons]
    exact ⟨trivial, hs.2⟩
  · cases hr
theorem sn_l2d (hX : Ctx G p s m meth c k) (hK : KOK G p l e R s m args below meth c Q k φ0 h0 res K) (I : IV G s k φ0 h0 φ ψ L st h H locs cells slots ls) (hd : decode (bT k) pc = .ok (.l2d, 1)) (hr : F K C X (.l2d) (pc + 1) a b ts L st h = some res) : W p l e R s m args below meth c H locs cells slots Q (F0 m pc ls (st.map (vv φ))) := by
  have hs := I.2.2.1
  unfold F at hr
  dsimp only at hr
  split at hr
  · simp only [List.forall_mem_cons] at hs
    refine lv_l2d hX.1 hX.2.1 hd (hK _ _ _ _ _ _ _ _ _ _ _ hr (I.st ?_))
    simp only [List.forall_mem_cons]
    exact ⟨trivial, hs.2⟩
  · cases hr
theorem sn_i2l (hX : Ctx G p s m meth c k) (hK : KOK G p l e R s m args below meth c Q k φ0 h0 res K) (I : IV G s k φ0 h0 φ ψ L st h H locs cells slots ls) (hd : decode (bT k) pc = .ok (.i2l, 1)) (hr : F K C X (.i2l) (pc + 1) a b ts L st h = some res) : W p l e R s m args below meth c H locs cells slots Q (F0 m pc ls (st.map (vv φ))) := by
  have hs := I.2.2.1
  unfold F at hr
  dsimp only at hr
  split at hr
  · simp only [List.forall_mem_cons] at hs
    refine lv_i2l hX.1 hX.2.1 hd rfl (hK _ _ _ _ _ _ _ _ _ _ _ hr (I.st ?_))
    simp only [List.forall_mem_cons]
    exact ⟨trivial, hs.2⟩
  · cases hr
theorem sn_l2i (hX : Ctx G p s m meth c k) (hK : KOK G p l e R s m args below meth c Q k φ0 h0 res K) (I : IV G s k φ0 h0 φ ψ L st h H locs cells slots ls) (hd : decode (bT k) pc = .ok (.l2i, 1)) (hr : F K C X (.l2i) (pc + 1) a b ts L st h = some res) : W p l e R s m args below meth c H locs cells slots Q (F0 m pc ls (st.map (vv φ))) := by
  have hs := I.2.2.1
  unfold F at hr
  dsimp only at hr
  split at hr
  · simp only [List.forall_mem_cons] at hs
    refine lv_l2i hX.1 hX.2.1 hd rfl (hK _ _ _ _ _ _ _ _ _ _ _ hr (I.st ?_))
    simp only [List.forall_mem_cons]
    exact ⟨trivial, hs.2⟩
  · cases hr
theorem sn_i2b (hX : Ctx G p s m meth c k) (hK : KOK G p l e R s m args below meth c Q k φ0 h0 res K) (I : IV G s k φ0 h0 φ ψ L st h H locs cells slots ls) (hd : decode (bT k) pc = .ok (.i2b, 1)) (hr : F K C X (.i2b) (pc + 1) a b ts L st h = some res) : W p l e R s m args below meth c H locs cells slots Q (F0 m pc ls (st.map (vv φ))) := by
  have hs := I.2.2.1
  unfold F at hr
  dsimp only at hr
  split at hr
  · simp only [List.forall_mem_cons] at hs
    refine lv_i2b hX.1 hX.2.1 hd rfl (hK _ _ _ _ _ _ _ _ _ _ _ hr (I.st ?_))
    simp only [List.forall_mem_cons]
    exact ⟨trivial, hs.2⟩
  · cases hr
theorem sn_i2c (hX : Ctx G p s m meth c k) (hK : KOK G p l e R s m args below meth c Q k φ0 h0 res K) (I : IV G s k φ0 h0 φ ψ L st h H locs cells slots ls) (hd : decode (bT k) pc = .ok (.i2c, 1)) (hr : F K C X (.i2c) (pc + 1) a b ts L st h = some res) : W p l e R s m args below meth c H locs cells slots Q (F0 m pc ls (st.map (vv φ))) := by
  have hs := I.2.2.1
  unfold F at hr
  dsimp only at hr
  split at hr
  · simp only [List.forall_mem_cons] at hs
    refine lv_i2c hX.1 hX.2.1 hd rfl (hK _ _ _ _ _ _ _ _ _ _ _ hr (I.st ?_))
    simp only [List.forall_mem_cons]
    exact ⟨trivial, hs.2⟩
  · cases hr
theorem sn_dcmp {op : CmpOp} (hX : Ctx G p s m meth c k) (hK : KOK G p l e R s m args below meth c Q k φ0 h0 res K) (I : IV G s k φ0 h0 φ ψ L st h H locs cells slots ls) (hd : decode (bT k) pc = .ok (.dcmp op, 1)) (hr : F K C X (.dcmp op) (pc + 1) a b ts L st h = some res) : W p l e R s m args below meth c H locs cells slots Q (F0 m pc ls (st.map (vv φ))) := by
  have hs := I.2.2.1
  unfold F at hr
  dsimp only at hr
  split at hr
  · simp only [List.forall_mem_cons] at hs
    refine lv_dcmp hX.1 hX.2.1 hd (hK _ _ _ _ _ _ _ _ _ _ _ hr (I.st ?_))
    simp only [List.forall_mem_cons]
    exact ⟨trivial, hs.2.2⟩
  · cases hr
theorem sn_goto {off : Int} (hX : Ctx G p s m meth c k) (hK : KOK G p l e R s m args below meth c Q k φ0 h0 res K) (I : IV G s k φ0 h0 φ ψ L st h H locs cells slots ls) (hd : decode (bT k) pc = .ok (.goto off, 3)) (ht : (pc : Int) + off = (a : Int)) (hr : F K C X (.goto off) (pc + 3) a b ts L st h = some res) : W p l e R s m args below meth c H locs cells slots Q (F0 m pc ls (st.map (vv φ))) := by
  have hs := I.2.2.1
  unfold F at hr
  dsimp only at hr
  exact lv_goto hX.1 hX.2.1 hd ht (hK _ _ _ _ _ _ _ _ _ _ _ hr (I.st hs))
theorem sn_if_eq {off : Int} (hX : Ctx G p s m meth c k) (hK : KOK G p l e R s m args below meth c Q k φ0 h0 res K) (I : IV G s k φ0 h0 φ ψ L st h H locs cells slots ls) (hd : decode (bT k) pc = .ok (.ifCond .eq off, 3)) (ht : (pc : Int) + off = (a : Int)) (hr : F K C X (.ifCond .eq off) (pc + 3) a b ts L st h = some res) : W p l e R s m args below meth c H locs cells slots Q (F0 m pc ls (st.map (vv φ))) := by
  have hs := I.2.2.1
  unfold F at hr
  dsimp only at hr
  split at hr
  · simp only [List.forall_mem_cons] at hs
    refine lv_if_eq hX.1 hX.2.1 hd ht (fun q => ?_) (fun q => ?_)
    · rw [if_pos q] at hr
      exact hK _ _ _ _ _ _ _ _ _ _ _ hr (I.st hs.2)
    · rw [if_neg q] at hr
      exact hK _ _ _ _ _ _ _ _ _ _ _ hr (I.st hs.2)
  · cases hr
theorem sn_if_ne {off : Int} (hX : Ctx G p s m meth c k) (hK : KOK G p l e R s m args below meth c Q k φ0 h0 res K) (I : IV G s k φ0 h0 φ ψ L st h H locs cells slots ls) (hd : decode (bT k) pc = .ok (.ifCond .ne off, 3)) (ht : (pc : Int) + off = (a : Int)) (hr : F K C X (.ifCond .ne off) (pc + 3) a b ts L st h = some res) : W p l e R s m args below meth c H locs cells slots Q (F0 m pc ls (st.map (vv φ))) := by
  have hs := I.2.2.1
  unfold F at hr
  dsimp only at hr
  split at hr
  · simp only [List.forall_mem_cons] at hs
    refine lv_if_ne hX.1 hX.2.1 hd ht (fun q => ?_) (fun q => ?_)
    · rw [if_neg q] at hr
      exact hK _ _ _ _ _ _ _ _ _ _ _ hr (I.st hs.2)
    · rw [if_pos q] at hr
      exact hK _ _ _ _ _ _ _ _ _ _ _ hr (I.st hs.2)
  · cases hr
theorem sn_if_lt {off : Int} (hX : Ctx G p s m meth c k) (hK : KOK G p l e R s m args below meth c Q k φ0 h0 res K) (I : IV G s k φ0 h0 φ ψ L st h H locs cells slots ls) (hd : decode (bT k) pc = .ok (.ifCond .lt off, 3)) (ht : (pc : Int) + off = (a : Int)) (hr : F K C X (.ifCond .lt off) (pc + 3) a b ts L st h = some res) : W p l e R s m args below meth c H locs cells slots Q (F0 m pc ls (st.map (vv φ))) := by
  have hs := I.2.2.1
  unfold F at hr
  dsimp only at hr
  split at hr
  · simp only [List.forall_mem_cons] at hs
    refine lv_if_lt hX.1 hX.2.1 hd ht (fun q => ?_) (fun q => ?_)
    · rw [if_pos q] at hr
      exact hK _ _ _ _ _ _ _ _ _ _ _ hr (I.st hs.2)
    · rw [if_neg q] at hr
      exact hK _ _ _ _ _ _ _ _ _ _ _ hr (I.st hs.2)
  · cases hr
theorem sn_if_ge {off : Int} (hX : Ctx G p s m meth c k) (hK : KOK G p l e R s m args below meth c Q k φ0 h0 res K) (I : IV G s k φ0 h0 φ ψ L st h H locs cells slots ls) (hd : decode (bT k) pc = .ok (.ifCond .ge off, 3)) (ht : (pc : Int) + off = (a : Int)) (hr : F K C X (.ifCond .ge off) (pc + 3) a b ts L st h = some res) : W p l e R s m args below meth c H locs cells slots Q (F0 m pc ls (st.map (vv φ))) := by
  have hs := I.2.2.1
  unfold F at hr
  dsimp only at hr
  split at hr
  · simp only [List.forall_mem_cons] at hs
    refine lv_if_ge hX.1 hX.2.1 hd ht (fun q => ?_) (fun q => ?_)
    · rw [if_pos q] at hr
      exact hK _ _ _ _ _ _ _ _ _ _ _ hr (I.st hs.2)
    · rw [if_neg q] at hr
      exact hK _ _ _ _ _ _ _ _ _ _ _ hr (I.st hs.2)
  · cases hr
theorem sn_if_gt {off : Int} (hX : Ctx G p s m meth c k) (hK : KOK G p l e R s m args below meth c Q k φ0 h0 res K) (I : IV G s k φ0 h0 φ ψ L st h H locs cells slots ls) (hd : decode (bT k) pc = .ok (.ifCond .gt off, 3)) (ht : (pc : Int) + off = (a : Int)) (hr : F K C X (.ifCond .gt off) (pc + 3) a b ts L st h = some res) : W p l e R s m args below meth c H locs cells slots Q (F0 m pc ls (st.map (vv φ))) := by
  have hs := I.2.2.1
  unfold F at hr
  dsimp only at hr
  split at hr
  · simp only [List.forall_mem_cons] at hs
    refine lv_if_gt hX.1 hX.2.1 hd ht (fun q => ?_) (fun q => ?_)
    · rw [if_pos q] at hr
      exact hK _ _ _ _ _ _ _ _ _ _ _ hr (I.st hs.2)
    · rw [if_neg q] at hr
      exact hK _ _ _ _ _ _ _ _ _ _ _ hr (I.st hs.2)
  · cases hr
theorem sn_if_le {off : Int} (hX : Ctx G p s m meth c k) (hK : KOK G p l e R s m args below meth c Q k φ0 h0 res K) (I : IV G s k φ0 h0 φ ψ L st h H locs cells slots ls) (hd : decode (bT k) pc = .ok (.ifCond .le off, 3)) (ht : (pc : Int) + off = (a : Int)) (hr : F K C X (.ifCond .le off) (pc + 3) a b ts L st h = some res) : W p l e R s m args below meth c H locs cells slots Q (F0 m pc ls (st.map (vv φ))) := by
  have hs := I.2.2.1
  unfold F at hr
  dsimp only at hr
  split at hr
  · simp only [List.forall_mem_cons] at hs
    refine lv_if_le hX.1 hX.2.1 hd ht (fun q => ?_) (fun q => ?_)
    · rw [if_pos q] at hr
      exact hK _ _ _ _ _ _ _ _ _ _ _ hr (I.st hs.2)
    · rw [if_neg q] at hr
      exact hK _ _ _ _ _ _ _ _ _ _ _ hr (I.st hs.2)
  · cases hr
theorem sn_icmp_eq {off : Int} (hX : Ctx G p s m meth c k) (hK : KOK G p l e R s m args below meth c Q k φ0 h0 res K) (I : IV G s k φ0 h0 φ ψ L st h H locs cells slots ls) (hd : decode (bT k) pc = .ok (.if_icmp .eq off, 3)) (ht : (pc : Int) + off = (a : Int)) (hr : F K C X (.if_icmp .eq off) (pc + 3) a b ts L st h = some res) : W p l e R s m args below meth c H locs cells slots Q (F0 m pc ls (st.map (vv φ))) := by
  have hs := I.2.2.1
  unfold F at hr
  dsimp only at hr
  split at hr
  · simp only [List.forall_mem_cons] at hs
    refine lv_icmp_eq hX.1 hX.2.1 hd ht (fun q => ?_) (fun q => ?_)
    · rw [if_pos q] at hr
      exact hK _ _ _ _ _ _ _ _ _ _ _ hr (I.st hs.2.2)
    · rw [if_neg q] at hr
      exact hK _ _ _ _ _ _ _ _ _ _ _ hr (I.st hs.2.2)
  · cases hr
theorem sn_icmp_ne {off : Int} (hX : Ctx G p s m meth c k) (hK : KOK G p l e R s m args below meth c Q k φ0 h0 res K) (I : IV G s k φ0 h0 φ ψ L st h H locs cells slots ls) (hd : decode (bT k) pc = .ok (.if_icmp .ne off, 3)) (ht : (pc : Int) + off = (a : Int)) (hr : F K C X (.if_icmp .ne off) (pc + 3) a b ts L st h = some res) : W p l e R s m args below meth c H locs cells slots Q (F0 m pc ls (st.map (vv φ))) := by
  have hs := I.2.2.1
  unfold F at hr
  dsimp only at hr
  split at hr
  · simp only [List.forall_mem_cons] at hs
    refine lv_icmp_ne hX.1 hX.2.1 hd ht (fun q => ?_) (fun q => ?_)
    · rw [if_neg q] at hr
      exact hK _ _ _ _ _ _ _ _ _ _ _ hr (I.st hs.2.2)
    · rw [if_pos q] at hr
      exact hK _ _ _ _ _ _ _ _ _ _ _ hr (I.st hs.2.2)
  · cases hr
theorem sn_icmp_lt {off : Int} (hX : Ctx G p s m meth c k) (hK : KOK G p l e R s m args below meth c Q k φ0 h0 res K) (I : IV G s k φ0 h0 φ ψ L st h H locs cells slots ls) (hd : decode (bT k) pc = .ok (.if_icmp .lt off, 3)) (ht : (pc : Int) + off = (a : Int)) (hr : F K C X (.if_icmp .lt off) (pc + 3) a b ts L st h = some res) : W p l e R s m args below meth c H locs cells slots Q (F0 m pc ls (st.map (vv φ))) := by
  have hs := I.2.2.1
  unfold F at hr
  dsimp only at hr
  split at hr
  · simp only [List.forall_mem_cons] at hs
    refine lv_icmp_lt hX.1 hX.2.1 hd ht (fun q => ?_) (fun q => ?_)
    · rw [if_pos q] at hr
      exact hK _ _ _ _ _ _ _ _ _ _ _ hr (I.st hs.2.2)
    · rw [if_neg q] at hr
      exact hK _ _ _ _ _ _ _ _ _ _ _ hr (I.st hs.2.2)
  · cases hr
theorem sn_icmp_ge {off : Int} (hX : Ctx G p s m meth c k) (hK : KOK G p l e R s m args below meth c Q k φ0 h0 res K) (I : IV G s k φ0 h0 φ ψ L st h H locs cells slots ls) (hd : decode (bT k) pc = .ok (.if_icmp .ge off, 3)) (ht : (pc : Int) + off = (a : Int)) (hr : F K C X (.if_icmp .ge off) (pc + 3) a b ts L st h = some res) : W p l e R s m args below meth c H locs cells slots Q (F0 m pc ls (st.map (vv φ))) := by
  have hs := I.2.2.1
  unfold F at hr
  dsimp only at hr
  split at hr
  · simp only [List.forall_mem_cons] at hs
    refine lv_icmp_ge hX.1 hX.2.1 hd ht (fun q => ?_) (fun q => ?_)
    · rw [if_pos q] at hr
      exact hK _ _ _ _ _ _ _ _ _ _ _ hr (I.st hs.2.2)
    · rw [if_neg q] at hr
      exact hK _ _ _ _ _ _ _ _ _ _ _ hr (I.st hs.2.2)
  · cases hr
theorem sn_icmp_gt {off : Int} (hX : Ctx G p s m meth c k) (hK : KOK G p l e R s m args below meth c Q k φ0 h0 res K) (I : IV G s k φ0 h0 φ ψ L st h H locs cells slots ls) (hd : decode (bT k) pc = .ok (.if_icmp .gt off, 3)) (ht : (pc : Int) + off = (a : Int)) (hr : F K C X (.if_icmp .gt off) (pc + 3) a b ts L st h = some res) : W p l e R s m args below meth c H locs cells slots Q (F0 m pc ls (st.map (vv φ))) := by
  have hs := I.2.2.1
  unfold F at hr
  dsimp only at hr
  split at hr
  · simp only [List.forall_mem_cons] at hs
    refine lv_icmp_gt hX.1 hX.2.1 hd ht (fun q => ?_) (fun q => ?_)
    · rw [if_pos q] at hr
      exact hK _ _ _ _ _ _ _ _ _ _ _ hr (I.st hs.2.2)
    · rw [if_neg q] at hr
      exact hK _ _ _ _ _ _ _ _ _ _ _ hr (I.st hs.2.2)
  · cases hr
theorem sn_icmp_le {off : Int} (hX : Ctx G p s m meth c k) (hK : KOK G p l e R s m args below meth c Q k φ0 h0 res K) (I : IV G s k φ0 h0 φ ψ L st h H locs cells slots ls) (hd : decode (bT k) pc = .ok (.if_icmp .le off, 3)) (ht : (pc : Int) + off = (a : Int)) (hr : F K C X (.if_icmp .le off) (pc + 3) a b ts L st h = some res) : W p l e R s m args below meth c H locs cells slots Q (F0 m pc ls (st.map (vv φ))) := by
  have hs := I.2.2.1
  unfold F at hr
  dsimp only at hr
  split at hr
  · simp only [List.forall_mem_cons] at hs
    refine lv_icmp_le hX.1 hX.2.1 hd ht (fun q => ?_) (fun q => ?_)
    · rw [if_pos q] at hr
      exact hK _ _ _ _ _ _ _ _ _ _ _ hr (I.st hs.2.2)
    · rw [if_neg q] at hr
      exact hK _ _ _ _ _ _ _ _ _ _ _ hr (I.st hs.2.2)
  · cases hr
theorem sn_ifnull {off : Int} (hX : Ctx G p s m meth c k) (hK : KOK G p l e R s m args below meth c Q k φ0 h0 res K) (I : IV G s k φ0 h0 φ ψ L st h H locs cells slots ls) (hd : decode (bT k) pc = .ok (.ifnull off, 3)) (ht : (pc : Int) + off = (a : Int)) (hr : F K C X (.ifnull off) (pc + 3) a b ts L st h = some res) : W p l e R s m args below meth c H locs cells slots Q (F0 m pc ls (st.map (vv φ))) := by
  have hs := I.2.2.1
  unfold F at hr
  dsimp only at hr
  split at hr
  · rename_i x st
    simp only [List.forall_mem_cons] at hs
    cases x with
    | none =>
      rw [if_pos rfl] at hr
      exact lv_ifnullN hX.1 hX.2.1 hd ht (hK _ _ _ _ _ _ _ _ _ _ _ hr (I.st hs.2))
    | some q =>
      rw [if_neg (by intro z; cases z)] at hr
      exact lv_ifnull hX.1 hX.2.1 hd (hK _ _ _ _ _ _ _ _ _ _ _ hr (I.st hs.2))
  · cases hr
theorem sn_ifnonnull {off : Int} (hX : Ctx G p s m meth c k) (hK : KOK G p l e R s m args below meth c Q k φ0 h0 res K) (I : IV G s k φ0 h0 φ ψ L st h H locs cells slots ls) (hd : decode (bT k) pc = .ok (.ifnonnull off, 3)) (ht : (pc : Int) + off = (a : Int)) (hr : F K C X (.ifnonnull off) (pc + 3) a b ts L st h = some res) : W p l e R s m args below meth c H locs cells slots Q (F0 m pc ls (st.map (vv φ))) := by
  have hs := I.2.2.1
  unfold F at hr
  dsimp only at hr
  split at hr
  · rename_i x st
    simp only [List.forall_mem_cons] at hs
    cases x with
    | none =>
      rw [if_pos rfl] at hr
      exact lv_ifnonnullN hX.1 hX.2.1 hd (hK _ _ _ _ _ _ _ _ _ _ _ hr (I.st hs.2))
    | some q =>
      rw [if_neg (by intro z; cases z)] at hr
      exact lv_ifnonnull hX.1 hX.2.1 hd ht (hK _ _ _ _ _ _ _ _ _ _ _ hr (I.st hs.2))
  · cases hr
theorem sn_pop (hX : Ctx G p s m meth c k) (hK : KOK G p l e R s m args below meth c Q k φ0 h0 res K) (I : IV G s k φ0 h0 φ ψ L st h H locs cells slots ls) (hd : decode (bT k) pc = .ok (.pop, 1)) (hr : F K C X (.pop) (pc + 1) a b ts L st h = some res) : W p l e R s m args below meth c H locs cells slots Q (F0 m pc ls (st.map (vv φ))) := by
  have hs := I.2.2.1
  unfold F at hr
  dsimp only at hr
  split at hr
  · simp only [List.forall_mem_cons] at hs
    exact lv_pop hX.1 hX.2.1 hd rfl (hK _ _ _ _ _ _ _ _ _ _ _ hr (I.st hs.2))
  · rename_i x st
    simp only [List.forall_mem_cons] at hs
    exact lv_pop hX.1 hX.2.1 hd (vv_cat φ (aR x)) (hK _ _ _ _ _ _ _ _ _ _ _ hr (I.st hs.2))
  · cases hr
theorem sn_dup (hX : Ctx G p s m meth c k) (hK : KOK G p l e R s m args below meth c Q k φ0 h0 res K) (I : IV G s k φ0 h0 φ ψ L st h H locs cells slots ls) (hd : decode (bT k) pc = .ok (.dup, 1)) (hr : F K C X (.dup) (pc + 1) a b ts L st h = some res) : W p l e R s m args below meth c H locs cells slots Q (F0 m pc ls (st.map (vv φ))) := by
  have hs := I.2.2.1
  unfold F at hr
  dsimp only at hr
  split at hr
  · simp only [List.forall_mem_cons] at hs
    refine lv_dup hX.1 hX.2.1 hd rfl (hK _ _ _ _ _ _ _ _ _ _ _ hr (I.st ?_))
    simp only [List.forall_mem_cons]
    exact ⟨hs.1, hs.1, hs.2⟩
  · rename_i x st
    simp only [List.forall_mem_cons] at hs
    refine lv_dup hX.1 hX.2.1 hd (vv_cat φ (aR x)) (hK _ _ _ _ _ _ _ _ _ _ _ hr (I.st ?_))
    simp only [List.forall_mem_cons]
    exact ⟨hs.1, hs.1, hs.2⟩
  · cases hr
theorem sn_dup_x1 (hX : Ctx G p s m meth c k) (hK : KOK G p l e R s m args below meth c Q k φ0 h0 res K) (I : IV G s k φ0 h0 φ ψ L st h H locs cells slots ls) (hd : decode (bT k) pc = .ok (.dup_x1, 1)) (hr : F K C X (.dup_x1) (pc + 1) a b ts L st h = some res) : W p l e R s m args below meth c H locs cells slots Q (F0 m pc ls (st.map (vv φ))) := by
  have hs := I.2.2.1
  unfold F at hr
  dsimp only at hr
  split at hr
  · rename_i x o st
    simp only [List.forall_mem_cons] at hs
    refine lv_dup_x1 hX.1 hX.2.1 hd rfl (vv_cat φ (aR o)) (hK _ _ _ _ _ _ _ _ _ _ _ hr (I.st ?_))
    simp only [List.forall_mem_cons]
    exact ⟨hs.1, hs.2.1, hs.1, hs.2.2⟩
  · rename_i x o st
    simp only [List.forall_mem_cons] at hs
    refine lv_dup_x1 hX.1 hX.2.1 hd (vv_cat φ (aR x)) (vv_cat φ (aR o)) (hK _ _ _ _ _ _ _ _ _ _ _ hr (I.st ?_))
    simp only [List.forall_mem_cons]
    exact ⟨hs.1, hs.2.1, hs.1, hs.2.2⟩
  · cases hr
theorem sn_dup2 (hX : Ctx G p s m meth c k) (hK : KOK G p l e R s m args below meth c Q k φ0 h0 res K) (I : IV G s k φ0 h0 φ ψ L st h H locs cells slots ls) (hd : decode (bT k) pc = .ok (.dup2, 1)) (hr : F K C X (.dup2) (pc + 1) a b ts L st h = some res) : W p l e R s m args below meth c H locs cells slots Q (F0 m pc ls (st.map (vv φ))) := by
  have hs := I.2.2.1
  unfold F at hr
  dsimp only at hr
  split at hr
  · rename_i i o st
    simp only [List.forall_mem_cons] at hs
    refine lv_dup2_11 hX.1 hX.2.1 hd rfl (vv_cat φ (aR o)) (hK _ _ _ _ _ _ _ _ _ _ _ hr (I.st ?_))
    simp only [List.forall_mem_cons]
    exact ⟨hs.1, hs.2.1, hs.1, hs.2.1, hs.2.2⟩
  · cases hr
end SIMP
