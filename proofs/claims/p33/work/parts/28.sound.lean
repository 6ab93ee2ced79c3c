/-! ===== one instruction, whatever it is ===== -/
theorem fld_lt : (List.range 28).all (fun c => (fldE c).all (fun e => decide (e.2.1 < 21 ∧ e.2.2.1 < (cAt e.2.1).2.2))) = true := by decide +kernel
theorem fldOk_lt {c idx a b : Nat} (h : fldOk c idx a b = true) (hc : c < 28) : a < 21 ∧ b < (cAt a).2.2 := by
  unfold fldOk at h
  obtain ⟨e, he, h⟩ := List.any_eq_true.mp h
  rw [Bool.and_eq_true, Bool.and_eq_true] at h
  have h1 := Nat.eq_of_beq_eq_true h.1.2
  have h2 := Nat.eq_of_beq_eq_true h.2
  have := of_decide_eq_true (List.all_eq_true.mp (List.all_eq_true.mp fld_lt c (List.mem_range.mpr hc)) e he)
  rw [h1, h2] at this
  exact this
theorem str_lt : ∀ t ∈ strE, t.2.2 < 30 := fun t ht => of_decide_eq_true (List.all_eq_true.mp (show strE.all (fun t => decide (t.2.2 < 30)) = true by decide +kernel) t ht)
def isRet (ins : Instr) : Bool := match ins with | .ireturn => true | .lreturn => true | .freturn => true | .dreturn => true | .areturn => true | .return_ => true | _ => false
section SND
variable {G : Geo} {p : Program} {l : Launch} {e e0 : Env} {R : Room} {s : State} {m : MethodId} {args : Array Value} {below : List Frame} {meth : Method} {c : Code} {Q : State → Prop} {k : Nat} {φ0 : Nat × Nat → Nat} {h0 : Hp} {res : Out × Hp} {K : KT} {C : CT} {X : XT}
variable {φ ψ : Nat × Nat → Nat} {L : LV} {st : List AV} {h : Hp} {H : Heap} {locs : List Loc} {cells slots : Nat} {ls : Array Slot} {pc a b : Nat} {ts : List Nat}
/-- the rows that are told apart: returns, throws, the one array of arrays -/
def SPC (l : Launch) (G : Geo) (p : Program) (e0 : Env) (R : Room) (s : State) (m : MethodId) (args : Array Value) (below : List Frame) (meth : Method) (c : Code) (Q : State → Prop) (k : Nat) (φ0 : Nat × Nat → Nat) (h0 : Hp) (res : Out × Hp) (K : KT) (C : CT) (X : XT) (pc : Nat) (L : LV) : Prop :=
  ∀ (ins : Instr) (a b : Nat) (ts : List Nat) (st : List AV) (h : Hp) (φ ψ : Nat × Nat → Nat) (H : Heap) (locs : List Loc) (cells slots : Nat) (ls : Array Slot), (isRet ins = true ∨ (∃ idx l9, ins = .new idx ∧ ts = 9 :: l9) ∨ ∃ i j, ins = .multianewarray i j) → decode (bT k) pc = .ok (ins, ilen ins) → lnk k pc ins (pc + ilen ins) a b ts = true → F K C X ins (pc + ilen ins) a b ts L st h = some res → IV G s k φ0 h0 φ ψ L st h H locs cells slots ls → W p l e0 R s m args below meth c H locs cells slots Q (F0 m pc ls (st.map (vv φ)))
theorem or_dec {x y : Bool} (h : (x || y) = true) : x = true ∨ y = true := by
  cases x
  · exact Or.inr h
  · exact Or.inl rfl
set_option maxHeartbeats 2000000 in
theorem F_sound (hX : Ctx G p s m meth c k) (S : SUR l G p e0 R s m args below meth c Q k φ0 h0 res K C X pc L) (hCp : ∀ a, 419 < a → ∀ as h, C a as h = prim a as h) (hSp : SPC l G p e0 R s m args below meth c Q k φ0 h0 res K C X pc L) (I : IV G s k φ0 h0 φ ψ L st h H locs cells slots ls) (ins : Instr) (hne : ∀ d lo hi o, ins ≠ .tableswitch d lo hi o) (hd : decode (bT k) pc = .ok (ins, ilen ins)) (hlk : lnk k pc ins (pc + ilen ins) a b ts = true) (hr : F K C X ins (pc + ilen ins) a b ts L st h = some res) : W p l e0 R s m args below meth c H locs cells slots Q (F0 m pc ls (st.map (vv φ))) := by
  have hK := S.2.1
  have hZ := S.1
  have hB := S.2.2.2.2.2.1
  have hM : KMON res K := fun pc L st h z => S.2.2.2.2.2.2.2.1 pc L st h res z
  by_cases hsp : isRet ins = true ∨ (∃ idx l9, ins = .new idx ∧ ts = 9 :: l9) ∨ ∃ i j, ins = .multianewarray i j
  · exact hSp ins a b ts st h φ ψ H locs cells slots ls hsp hd hlk hr I
  cases ins
  case aconst_null => exact sn_aconst_null hX hK I hd hr
  case iadd => exact sn_iadd hX hK I hd hr
  case isub => exact sn_isub hX hK I hd hr
  case imul => exact sn_imul hX hK I hd hr
  case iand => exact sn_iand hX hK I hd hr
  case ixor => exact sn_ixor hX hK I hd hr
  case ior => exact sn_ior hX hK I hd hr
  case ladd => exact sn_ladd hX hK I hd hr
  case lsub => exact sn_lsub hX hK I hd hr
  case lmul => exact sn_lmul hX hK I hd hr
  case land => exact sn_land hX hK I hd hr
  case lor => exact sn_lor hX hK I hd hr
  case ishl => exact sn_ishl hX hK I hd hr
  case ishr => exact sn_ishr hX hK I hd hr
  case iushr => exact sn_iushr hX hK I hd hr
  case lshl => exact sn_lshl hX hK I hd hr
  case lushr => exact sn_lushr hX hK I hd hr
  case lcmp => exact sn_lcmp hX hK I hd hr
  case irem => exact sn_irem hX hK I hd hr
  case ldiv => exact sn_ldiv hX hK I hd hr
  case lrem => exact sn_lrem hX hK I hd hr
  case fdiv => exact sn_fdiv hX hK I hd hr
  case ddiv => exact sn_ddiv hX hK I hd hr
  case f2d => exact sn_f2d hX hK I hd hr
  case ineg => exact sn_ineg hX hK I hd hr
  case lneg => exact sn_lneg hX hK I hd hr
  case i2f => exact sn_i2f hX hK I hd hr
  case i2d => exact sn_i2d hX hK I hd hr
  case l2d => exact sn_l2d hX hK I hd hr
  case i2l => exact sn_i2l hX hK I hd hr
  case l2i => exact sn_l2i hX hK I hd hr
  case i2b => exact sn_i2b hX hK I hd hr
  case i2c => exact sn_i2c hX hK I hd hr
  case pop => exact sn_pop hX hK I hd hr
  case dup => exact sn_dup hX hK I hd hr
  case dup_x1 => exact sn_dup_x1 hX hK I hd hr
  case dup2 => exact sn_dup2 hX hK I hd hr
  case iaload => exact sn_iaload hX hK I hd hr
  case laload => exact sn_laload hX hK I hd hr
  case daload => exact sn_daload hX hK I hd hr
  case aaload => exact sn_aaload hX hK I hd hr
  case iastore => exact sn_iastore hX hK I hd hr
  case lastore => exact sn_lastore hX hK I hd hr
  case dastore => exact sn_dastore hX hK I hd hr
  case arraylength => exact sn_arraylength hX hK I hd hr
  case aastore => exact sn_aastore hX hK I hd hr
  case iconst n => exact sn_iconst hX hK I hd hr
  case bipush n => exact sn_bipush hX hK I hd hr
  case sipush n => exact sn_sipush hX hK I hd hr
  case lconst n => exact sn_lconst hX hK I hd hr
  case fconst n => exact sn_fconst hX hK I hd hr
  case dconst n => exact sn_dconst hX hK I hd hr
  case iload_n n => exact sn_iload_n hX hK I hd hr
  case iload n => exact sn_iload hX hK I hd hr
  case lload_n n => exact sn_lload_n hX hK I hd hr
  case lload n => exact sn_lload hX hK I hd hr
  case dload n => exact sn_dload hX hK I hd hr
  case aload_n n => exact sn_aload_n hX hK I hd hr
  case aload n => exact sn_aload hX hK I hd hr
  case dcmp n => exact sn_dcmp hX hK I hd hr
  case istore_n n => exact sn_istore_n hX hK I hd (Nat.le_of_ble_eq_true hlk) hr
  case istore n => exact sn_istore hX hK I hd (Nat.le_of_ble_eq_true hlk) hr
  case astore_n n => exact sn_astore_n hX hK I hd (Nat.le_of_ble_eq_true hlk) hr
  case astore n => exact sn_astore hX hK I hd (Nat.le_of_ble_eq_true hlk) hr
  case lstore_n n => exact sn_lstore_n hX hK I hd (Nat.le_of_ble_eq_true hlk) hr
  case lstore n => exact sn_lstore hX hK I hd (Nat.le_of_ble_eq_true hlk) hr
  case dstore n => exact sn_dstore hX hK I hd (Nat.le_of_ble_eq_true hlk) hr
  case iinc i n => exact sn_iinc hX hK I hd (Nat.le_of_ble_eq_true hlk) hr
  case goto off => exact sn_goto hX hK I hd (of_decide_eq_true hlk) hr
  case ifnull off => exact sn_ifnull hX hK I hd (of_decide_eq_true hlk) hr
  case ifnonnull off => exact sn_ifnonnull hX hK I hd (of_decide_eq_true hlk) hr
  case ifCond c9 off =>
    have ht := of_decide_eq_true hlk
    cases c9
    case eq => exact sn_if_eq hX hK I hd ht hr
    case ne => exact sn_if_ne hX hK I hd ht hr
    case lt => exact sn_if_lt hX hK I hd ht hr
    case ge => exact sn_if_ge hX hK I hd ht hr
    case gt => exact sn_if_gt hX hK I hd ht hr
    case le => exact sn_if_le hX hK I hd ht hr
  case if_icmp c9 off =>
    have ht := of_decide_eq_true hlk
    cases c9
    case eq => exact sn_icmp_eq hX hK I hd ht hr
    case ne => exact sn_icmp_ne hX hK I hd ht hr
    case lt => exact sn_icmp_lt hX hK I hd ht hr
    case ge => exact sn_icmp_ge hX hK I hd ht hr
    case gt => exact sn_icmp_gt hX hK I hd ht hr
    case le => exact sn_icmp_le hX hK I hd ht hr
  case if_acmp c9 off =>
    have ht := of_decide_eq_true hlk
    cases c9
    case eq => exact sn_acmp_eq hX hK I hd ht hr
    case ne => exact sn_acmp_ne hX hK I hd ht hr
  case getfield idx =>
    have z : (fldOk (ownC k) idx a b && decide (ts = [tgF ((cAt a).2.1 b).2.2.1])) = true := hlk
    rw [Bool.and_eq_true] at z
    exact sn_getfield hX hK I hd z.1 (Nat.lt_of_lt_of_le (fldOk_lt z.1 (own_lt k)).1 (by decide)) hr
  case putfield idx =>
    have z : (fldOk (ownC k) idx a b && (if ((cAt a).2.1 b).2.2.1 = "Z" then decide (ts = [5]) else decide (ts = [tgF ((cAt a).2.1 b).2.2.1])) && decide (((cAt a).2.1 b).2.2.2 = false ∨ (kdT k = 2 ∧ ((cAt a).2.1 b).1 = ownS (ownC k)))) = true := hlk
    rw [Bool.and_eq_true, Bool.and_eq_true] at z
    have f := fldOk_lt z.1.1 (own_lt k)
    exact sn_putfield hX hK I hd z.1.1 f.1 f.2 (by
      have z2 := z.1.2
      split at z2
      · rename_i q; rw [if_pos q]; exact of_decide_eq_true z2
      · rename_i q; rw [if_neg q]; exact of_decide_eq_true z2) (of_decide_eq_true z.2) hr
  case baload => exact sn_baload hX hK I hd ((or_dec hlk).imp Nat.eq_of_beq_eq_true Nat.eq_of_beq_eq_true) hr
  case bastore => exact sn_bastore hX hK I hd ((or_dec hlk).imp Nat.eq_of_beq_eq_true Nat.eq_of_beq_eq_true) hr
  case new idx =>
    have h9 : ∀ l9, ts ≠ 9 :: l9 := fun l9 z => hsp (Or.inr (Or.inl ⟨idx, l9, rfl, z⟩))
    have z : (Nat.blt 0 b && Nat.blt b 300 && (match (generalizing := false) ts with
      | 9 :: _ => Nat.blt 29 a && Nat.blt a 33 && Nat.beq (hdlT k).length 0 && (Nat.ble 6 (rkT k) && Nat.ble 90 (lcT k)) && decide ((k, pc, a) ∈ excE)
      | _ => Nat.blt a 23 && clsOk (ownC k) idx a && decide (ts = (List.range (cAt a).2.2).map (fun k => tgF ((cAt a).2.1 k).2.2.1)))) = true := hlk
    rw [Bool.and_eq_true, Bool.and_eq_true] at z
    obtain ⟨⟨z1, -⟩, z2⟩ := z
    have z1 : 0 < b := Nat.le_of_ble_eq_true z1
    split at z2
    · exact absurd rfl (h9 _)
    · rw [Bool.and_eq_true, Bool.and_eq_true] at z2
      exact sn_new hX hK hM hB I hd (by omega) (Nat.le_of_ble_eq_true z2.1.1) z2.1.2 (of_decide_eq_true z2.2) h9 hr
  case newarray t =>
    have z : (Nat.blt 0 b && Nat.blt b 300 && Nat.beq (akd t) a && Nat.blt 0 a) = true := hlk
    simp only [Bool.and_eq_true] at z
    have z1 : 0 < b := Nat.le_of_ble_eq_true z.1.1.1
    exact sn_newarray hX hK hM hB I hd (by omega) (Nat.eq_of_beq_eq_true z.1.2) (Nat.le_of_ble_eq_true z.2) hr
  case anewarray idx =>
    have z : (Nat.blt 0 b && Nat.blt b 300 && decide ((ownC k, idx, a) ∈ anwE)) = true := hlk
    simp only [Bool.and_eq_true] at z
    have z1 : 0 < b := Nat.le_of_ble_eq_true z.1.1
    exact sn_anewarray hX hK hM hB I hd (by omega) (of_decide_eq_true z.2) hr
  case checkcast idx =>
    have z : (clsOk (ownC k) idx a && Nat.blt a 21) = true := hlk
    rw [Bool.and_eq_true] at z
    exact sn_checkcast hX hK I hd (Nat.le_of_ble_eq_true z.2) z.1 hr
  case ldc idx =>
    have z : (decide (ts = [1]) && decide ((ownC k, idx, a) ∈ strE) || decide (ts = [0]) && decide (Cond.constant (ownS (ownC k)) idx (Int32.ofNat a) ∈ cstW)) = true := hlk
    simp only [Bool.or_eq_true, Bool.and_eq_true, decide_eq_true_eq] at z
    refine sn_ldc hX hZ hK I hd z (fun z1 => ?_) hr
    rcases z with z | z
    · exact str_lt _ z.2
    · rw [z.1] at z1
      cases z1
  case ldc_w idx =>
    have z : (decide (ts = [0]) && decide (Cond.constant (ownS (ownC k)) idx (Int32.ofNat a) ∈ cstW)) = true := hlk
    simp only [Bool.and_eq_true, decide_eq_true_eq] at z
    exact sn_ldc_w hX hK I hd z.1 z.2 hr
  case ldc2_w idx => exact sn_ldc2_w hX hK I hd (of_decide_eq_true hlk) hr
  case getstatic idx =>
    have z := of_decide_eq_true (show decide (ts = [0] ∧ a = 1 ∧ (ownC k, idx) ∈ [(8, 52)]) = true from hlk)
    have z3 := Prod.mk.inj (List.mem_singleton.mp z.2.2)
    exact sn_getstatic hX hZ hK I hd z.1 z.2.1 z3.1 z3.2 hr
  case invokestatic idx => exact sn_invokestatic hX S I hd (or_dec hlk) hr
  case invokespecial idx => exact sn_invokespecial hX S hCp I hd hlk hr
  case invokevirtual idx => exact sn_invokevirtual hX S I hd hlk hr
  case invokeinterface idx cnt =>
    have z : (decide ((k, pc, a, b, ts) ∈ ifcE) && Nat.blt (rkT a) (rkT k)) = true := hlk
    rw [Bool.and_eq_true] at z
    exact sn_invokeinterface hX S I hd (of_decide_eq_true z.1) (Nat.le_of_ble_eq_true z.2) hr
  case tableswitch d lo hi o => exact absurd rfl (hne d lo hi o)
  case multianewarray i j => exact absurd (Or.inr (Or.inr ⟨i, j, rfl⟩)) hsp
  all_goals first | exact absurd (Or.inl rfl) hsp | exact absurd (show (none : Res) = some res from hr) (by simp)
end SND
