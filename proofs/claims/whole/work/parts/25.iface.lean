/-! ===== the two calls by an interface ===== -/
set_option maxRecDepth 100000 in
theorem ifl1 : Cond.methodLink RX19 124 yAsks ∈ lw_tbl := in_of (gs := [2495]) (ws := [Cond.methodLink RX19 124 yAsks]) rfl _ (by simp)
set_option maxRecDepth 100000 in
theorem ifl2 : Cond.methodLink RX19 134 yTakes ∈ lw_tbl := in_of (gs := [2829]) (ws := [Cond.methodLink RX19 134 yTakes]) rfl _ (by simp)
set_option maxRecDepth 100000 in
theorem ifs1 : Cond.selects RX16 yAsks (yT 196) ∈ lw_tbl := in_of (gs := [2499]) (ws := [Cond.selects RX16 yAsks (yT 196)]) rfl _ (by simp)
set_option maxRecDepth 100000 in
theorem ifs2 : Cond.selects RX16 yTakes (yT 197) ∈ lw_tbl := in_of (gs := [2832]) (ws := [Cond.selects RX16 yTakes (yT 197)]) rfl _ (by simp)
theorem ifd1 : decode (bT 242) 289 = .ok (.invokeinterface 124 7, 5) := by decide +kernel
theorem ifd2 : decode (bT 245) 110 = .ok (.invokeinterface 134 3, 5) := by decide +kernel
section IFC
variable {G : Geo} {p : Program} {l : Launch} {e e0 : Env} {R : Room} {s : State} {m : MethodId} {args : Array Value} {below : List Frame} {meth : Method} {c : Code} {Q : State → Prop} {k : Nat} {φ0 : Nat × Nat → Nat} {h0 : Hp} {res : Out × Hp} {K : KT} {C : CT} {X : XT}
variable {φ ψ : Nat × Nat → Nat} {L : LV} {st : List AV} {h : Hp} {H : Heap} {locs : List Loc} {cells slots : Nat} {ls : Array Slot} {pc a b : Nat} {ts : List Nat}
theorem sn_if0 {idx cnt : Nat} {x : MethodName} (hX : Ctx G p s m meth c k) (S : SUR l G p e0 R s m args below meth c Q k φ0 h0 res K C X pc L) (I : IV G s k φ0 h0 φ ψ L st h H locs cells slots ls) (hd : decode (bT k) pc = .ok (.invokeinterface idx cnt, 5)) (hi : INV K C X (pc + 5) a b L st h res)
    (w2 : rkT a < rkT k) (w4 : kdT a = 0) (w5 : mlT a ≤ 30) (w6 : a ∈ calA) (w7 : a ∈ calB) (w9 : (yT a).cls = ownS (ownC a)) (w10 : ownC a = 16) (hF : va_Fw RX16 x (yT a) s) (hl : Cond.methodLink (ownS (ownC k)) idx x ∈ lw_tbl) (hs9 : Cond.selects RX16 x (yT a) ∈ lw_tbl) (hx : x.cls ≠ "java/lang/invoke/MethodHandle" ∧ x.cls ≠ "java/lang/invoke/VarHandle") (hpar : ∀ sig, parseMethodDescriptor x.desc = some sig → b - 1 = sig.parameters.length) : W p l e0 R s m args below meth c H locs cells slots Q (F0 m pc ls (st.map (vv φ))) := by
  obtain ⟨as, rest, r1, p1, p2, p3, p4, p5, p6, p7, p8, p9, p10, p11⟩ := call_pre hX S I hi w2 w5 w6 (fun z => by rw [z] at w4; exact absurd w4 (by decide))
  obtain ⟨q1, q2, q3⟩ := calF_at w6
  obtain ⟨o, as', y, rfl, r2, r3⟩ := S.2.2.2.2.1 a w6 as h r1 p6 (Or.inl w4)
  have hins : (Cond.instanceMethod (yT a)).before args s = true := by
    have := calA_in a w6
    unfold calWA at this
    rw [w4] at this
    exact hX.w this rfl
  have hini : (Cond.initialized (yT a).cls).before args s = true := by rw [w9]; exact hX.w (ini_in _ q1) rfl
  have hcode : (calWB a).before args s = true := hX.w (calB_in a w7) (calWB_ok a)
  have hlen : (as'.map (vv φ)).length = b - 1 := by rw [List.length_map]; rw [List.length_cons] at p1; omega
  have hwd := word_of (a := a) hX w7
  rw [calWB_code (by rw [w4]; decide)] at hcode p9 hwd
  obtain ⟨cell, c1, c2, c3⟩ := rc_cls hX I.2.2.2.1 w6 r2 r3
  rw [w10, ownS_cAt 16 (by decide)] at c3
  obtain ⟨pb, pp⟩ := pre_of hX I (aR (some o) :: as')
  rw [p2, List.map_cons, List.reverse_cons, List.append_assoc]
  exact run_use5 I p4 p7 (vx_runF (C := RX16) (x := x) (cls_at hX (j := 16) (by decide)) (fix_of hX) p9 ⟨⟨rfl, rfl, p10.1, p10.2, hwd, List.mem_singleton.mpr rfl⟩, hX.w hl rfl, va_any rfl hF.1, va_any rfl hF.2.1, hX.w hs9 rfl, hins, va_any rfl hF.2.2.1, va_any rfl hF.2.2.2.1, va_any rfl hF.2.2.2.2, hini, hcode, hx, hpar⟩ ⟨pb, ⟨cell, c1, c2, c3⟩, pp⟩ rfl hlen (by rw [I.1.1]) rfl (by exact (Nat.zero_add _).symm ▸ p5) hd p11) S.2.2.1 S.2.1 p8
theorem sn_invokeinterface {idx cnt : Nat} (hX : Ctx G p s m meth c k) (S : SUR l G p e0 R s m args below meth c Q k φ0 h0 res K C X pc L) (I : IV G s k φ0 h0 φ ψ L st h H locs cells slots ls) (hd : decode (bT k) pc = .ok (.invokeinterface idx cnt, 5)) (hw : (k, pc, a, b, ts) ∈ ifcE) (hrk : rkT a < rkT k) (hr : F K C X (.invokeinterface idx cnt) (pc + 5) a b ts L st h = some res) : W p l e0 R s m args below meth c H locs cells slots Q (F0 m pc ls (st.map (vv φ))) := by
  have hi := inv_spec (idx := idx) hr
  have hF := hX.sta.1.2.2.2.2.2.2
  rcases List.mem_cons.mp hw with z | z
  · cases z
    have hd2 := hd.symm.trans ifd1
    have hid : idx = 124 := (Instr.invokeinterface.inj (Prod.mk.inj (Except.ok.inj hd2)).1).1
    subst hid
    exact sn_if0 hX S I hd hi hrk rfl (by decide) (by decide +kernel) (by decide +kernel) rfl rfl hF.1 ifl1 ifs1 (by decide) (by decide +kernel)
  · rcases List.mem_cons.mp z with z | z
    · cases z
      have hd2 := hd.symm.trans ifd2
      have hid : idx = 134 := (Instr.invokeinterface.inj (Prod.mk.inj (Except.ok.inj hd2)).1).1
      subst hid
      exact sn_if0 hX S I hd hi hrk rfl (by decide) (by decide +kernel) (by decide +kernel) rfl rfl hF.2.1 ifl2 ifs2 (by decide) (by decide +kernel)
    · cases z
end IFC
