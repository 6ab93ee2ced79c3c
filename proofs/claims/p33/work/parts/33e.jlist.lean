/-! ===== lists: the methods that write ===== -/
section JLIST
variable {l : Launch} {G : Geo} {H : Heap}
theorem va_Any.moved {C : String} {a : Nat} {u U : State} (hvm : u.vm.Alike U.vm) (h : va_Any C u H a) : va_Any C U H a := by
  obtain ⟨cell, h1, h2, ⟨k, h3⟩, h4⟩ := h
  obtain ⟨k', hk', -⟩ := hvm.2.2 _ _ h3
  refine ⟨cell, h1, h2, ⟨k', hk'⟩, fun comp hc => ?_⟩
  rw [hvm.assignable]
  exact h4 comp (by rw [← hvm.findClass]; exact hc)
theorem va_Any.kept {C : String} {a : Nat} {U : State} {H1 : Heap} (hq : H1[a]? = H[a]?) (h : va_Any C U H a) : va_Any C U H1 a := by
  obtain ⟨cell, h1, h2⟩ := h
  exact ⟨cell, by rw [hq]; exact h1, h2⟩
/-- the first n places of a row hold null or objects -/
def jEl (n : Nat) (f : Nat → Option Nat) (H : Heap) : State → Prop := fun U => ∀ i, i < n → ∀ y, f i = some y → va_Any "java/lang/Object" U H y
theorem jEl_k {n : Nat} {f : Nat → Option Nat} : jEk (jEl n f H) := fun u U hvm h i hi y hy => (h i hi y hy).moved hvm
abbrev jL0 (a : Nat) (mc : Int32) (v : Value) (n : Int32) : Nat × va_E := (a, .inr (21, [.int mc, v, .int n]))
theorem jA_self {a n : Nat} {fr : List Nat} (h : a ∈ fr) : jA fr n a := Or.inl h
section STEPS
variable {E : State → Prop} {p : Program} {e : Env} {R : Room} {s : State} {m : MethodId} {args : Array Value} {below : List Frame} {meth : Method} {c : Code} {Q : State → Prop}
variable {locs : List Loc} {cells slots : Nat} {ls : Array Slot} {pc : Nat} {own : String} {cc : ByteArray} {nL : Nat} {ret : Option FieldType} {rest : List Value}
theorem j_oin {lv : List (Nat × Value)} {idx a : Nat} (X : JX G E p s m meth c own cc nL ret) (hl : lv_has ls nL lv) (w1 : (Cond.methodLink own idx Lib.objectInit).before args s = true) (w2 : (Cond.instanceMethod Lib.objectInit).before args s = true) (w3 : (Cond.code Lib.objectInit ⟨#[0xb1]⟩ 1 none).before args s = true) (hR : 1 ≤ R.frames ∧ 12 ≤ R.locals) (hd : decode cc pc = .ok (.invokespecial idx, 3))
    (kk : W p l e R s m args below meth c H locs cells slots Q (F0 m (pc + 3) ls [])) : W p l e R s m args below meth c H locs cells slots Q (F0 m pc ls [.ref a]) :=
  W.objInit X.1 X.2.1 X.2.2.2.1 w1 w2 w3 rfl (by rw [X.2.2.1]; exact hl.1) rfl hd hR.1 hR.2 kk
theorem j_dce {A : Nat → Prop} {idx : Nat} (X : JX G E p s m meth c own cc nL ret) (hA : ∀ q, A q → frz G q) (hS : va_S A s.heap H locs) (w : (Cond.fieldLink own idx "java/util/ArrayList" "DEFAULTCAPACITY_EMPTY_ELEMENTDATA" "[Ljava/lang/Object;").before args s = true) (hd : decode cc pc = .ok (.getstatic idx, 3))
    (kk : W p l e R s m args below meth c H locs cells slots Q (F0 m (pc + 3) ls (.ref (G.2.2.2 2) :: rest))) : W p l e R s m args below meth c H locs cells slots Q (F0 m pc ls rest) :=
  va_gets X.1 X.2.1 (va_Z.narrow X.2.2.2.2.2.2.1.2.2.1 hA) hS X.2.2.2.1 w (fun _ z => z) hd kk
/-- the length of the shared empty row -/
theorem j_len0 (X : JX G E p s m meth c own cc nL ret) {A : Nat → Prop} (hA : ∀ q, A q → frz G q) (hS : va_S A s.heap H locs) (hd : decode cc pc = .ok (.arraylength, 1))
    (kk : W p l e R s m args below meth c H locs cells slots Q (F0 m (pc + 1) ls (.int 0 :: rest))) : W p l e R s m args below meth c H locs cells slots Q (F0 m pc ls (.ref (G.2.2.2 2) :: rest)) := by
  obtain ⟨cell, h1, h2, h3, h4, h5, -⟩ := (X.st hS hA).2.2.2.2.1.1
  exact W.alen (n := 0) X.1 X.2.1 h1 h2 h5 rfl rfl hd kk
end STEPS
def jy_aC : MethodName := ⟨"java/util/AbstractCollection", "<init>", "()V"⟩
abbrev jc_aC : ByteArray := prog_46_method_1_code
abbrev jr_aC : Option FieldType := (Option.none : Option Jvm.ClassFile.FieldType)
theorem jd_aC_0 : decode jc_aC 0 = .ok (.aload_n 0, 1) := by decide +kernel
theorem jd_aC_1 : decode jc_aC 1 = .ok (.invokespecial 1, 3) := by decide +kernel
theorem jd_aC_4 : decode jc_aC 4 = .ok (.return_, 1) := by decide +kernel
theorem jb_aC : jB jy_aC 0 := by decide +kernel
theorem c_aC {a : Nat} : JM l G jE0 jy_aC jc_aC 1 jr_aC 1 12 [.ref a] [] H (jR H none) 0 0 := by
  refine jm_of (by decide +kernel) (Nat.le_of_ble_eq_true rfl) (fun p e R s m args below meth c ls X hH hl hF hL hmc hms => ?_)
  subst hH
  refine lv_aload_n X.1 X.2.1 jd_aC_0 rfl (lv_at hl 0 rfl) ?_
  refine j_oin X hl (X.w 36 rfl rfl) (X.w 16 rfl rfl) (X.w 17 rfl rfl) ⟨hF, hL⟩ jd_aC_1 ?_
  exact j_vret X va_S.rf ⟨rfl, rfl⟩ jd_aC_4
def jy_aL : MethodName := ⟨"java/util/AbstractList", "<init>", "()V"⟩
abbrev jc_aL : ByteArray := prog_47_method_1_code
abbrev jr_aL : Option FieldType := (Option.none : Option Jvm.ClassFile.FieldType)
theorem jd_aL_0 : decode jc_aL 0 = .ok (.aload_n 0, 1) := by decide +kernel
theorem jd_aL_1 : decode jc_aL 1 = .ok (.invokespecial 1, 3) := by decide +kernel
theorem jd_aL_4 : decode jc_aL 4 = .ok (.aload_n 0, 1) := by decide +kernel
theorem jd_aL_5 : decode jc_aL 5 = .ok (.iconst 0, 1) := by decide +kernel
theorem jd_aL_6 : decode jc_aL 6 = .ok (.putfield 7, 3) := by decide +kernel
theorem jd_aL_9 : decode jc_aL 9 = .ok (.return_, 1) := by decide +kernel
theorem jb_aL : jB jy_aL 0 := by decide +kernel
theorem c_aL {a : Nat} {mc n : Int32} {v : Value} (hfz : G.2.2.1 ≤ H.size) (ha : G.2.2.1 ≤ a) (hP : va_P G.1 kcl [jL0 a mc v n] H) : JM l G jE0 jy_aL jc_aL 1 jr_aL 2 40 [.ref a] [a] H (fun v1 H1 => v1 = none ∧ va_P G.1 kcl [jL0 a 0 v n] H1) 0 0 := by
  refine jm_of (by decide +kernel) (Nat.le_of_ble_eq_true rfl) (fun p e R s m args below meth c ls X hH hl hF hL hmc hms => ?_)
  subst hH
  have hA := jA_frz (G := G) (fr := [a]) (fun q h => by rw [List.mem_singleton.mp h]; exact ha) hfz
  have hD : va_D (jA [a] s.heap.size) [jL0 a mc v n] := j_D1 (Or.inl List.mem_cons_self)
  refine lv_aload_n X.1 X.2.1 jd_aL_0 rfl (lv_at hl 0 rfl) ?_
  refine j_callI a [] [] X hl (jE0_ok s) c_aC (X.w 33 rfl rfl) (X.w 34 rfl rfl) (X.w 6 rfl rfl) (jw_in _ (List.mem_of_getElem? (i := 35) rfl)) jb_aC (by decide) ⟨by omega, by omega⟩ ⟨by omega, by omega⟩ (Nat.zero_le _) va_S.rf hA (jA_sub (fun _ h => nomatch h) (Nat.le_refl _)) jd_aL_1 (fun v1 H1 locs hq hz hk hS => ?_)
  obtain ⟨rfl, rfl⟩ := hq
  refine lv_aload_n X.1 X.2.1 jd_aL_4 rfl (lv_at hl 0 rfl) ?_
  refine lv_iconst (v := 0) X.1 X.2.1 jd_aL_5 (by decide) ?_
  refine j_put (ci := 21) (q0 := 0) (k := 0) X hP hD hS rfl (by decide) (by decide +kernel) (X.w 40 rfl rfl) (fun _ z => z) (by decide +kernel) rfl rfl (Nat.le_of_ble_eq_true rfl) jd_aL_6 (fun H locs hP hD hS => ?_)
  exact j_vret X hS ⟨rfl, hP⟩ jd_aL_9
def jy_lIn : MethodName := ⟨"java/util/ArrayList", "<init>", "()V"⟩
abbrev jc_lIn : ByteArray := prog_48_method_2_code
abbrev jr_lIn : Option FieldType := (Option.none : Option Jvm.ClassFile.FieldType)
theorem jd_lIn_0 : decode jc_lIn 0 = .ok (.aload_n 0, 1) := by decide +kernel
theorem jd_lIn_1 : decode jc_lIn 1 = .ok (.invokespecial 1, 3) := by decide +kernel
theorem jd_lIn_4 : decode jc_lIn 4 = .ok (.aload_n 0, 1) := by decide +kernel
theorem jd_lIn_5 : decode jc_lIn 5 = .ok (.getstatic 39, 3) := by decide +kernel
theorem jd_lIn_8 : decode jc_lIn 8 = .ok (.putfield 9, 3) := by decide +kernel
theorem jd_lIn_11 : decode jc_lIn 11 = .ok (.return_, 1) := by decide +kernel
theorem jb_lIn : jB jy_lIn 0 := by decide +kernel
theorem c_lIn {a : Nat} {mc n : Int32} {v : Value} (hfz : G.2.2.1 ≤ H.size) (ha : G.2.2.1 ≤ a) (hP : va_P G.1 kcl [jL0 a mc v n] H) : JM l G jE0 jy_lIn jc_lIn 1 jr_lIn 3 70 [.ref a] [a] H (fun v1 H1 => v1 = none ∧ va_P G.1 kcl [jLI a 0 (G.2.2.2 2) n] H1) 0 0 := by
  refine jm_of (by decide +kernel) (Nat.le_of_ble_eq_true rfl) (fun p e R s m args below meth c ls X hH hl hF hL hmc hms => ?_)
  subst hH
  have hA := jA_frz (G := G) (fr := [a]) (fun q h => by rw [List.mem_singleton.mp h]; exact ha) hfz
  refine lv_aload_n X.1 X.2.1 jd_lIn_0 rfl (lv_at hl 0 rfl) ?_
  refine j_callI a [] [] X hl (jE0_ok s) (c_aL hfz ha hP) (X.w 30 rfl rfl) (X.w 31 rfl rfl) (X.w 7 rfl rfl) (jw_in _ (List.mem_of_getElem? (i := 32) rfl)) jb_aL (by decide) ⟨by omega, by omega⟩ ⟨by omega, by omega⟩ (Nat.zero_le _) va_S.rf hA (jA_sub (fun q h => Or.inl h) (Nat.le_refl _)) jd_lIn_1 (fun v1 H1 locs hq hz hk hS => ?_)
  obtain ⟨rfl, hP⟩ := hq
  have hD : va_D (jA [a] s.heap.size) [jL0 a 0 v n] := j_D1 (Or.inl List.mem_cons_self)
  refine lv_aload_n X.1 X.2.1 jd_lIn_4 rfl (lv_at hl 0 rfl) ?_
  refine j_dce X hA hS (X.w 37 rfl rfl) jd_lIn_5 ?_
  refine j_put (ci := 21) (q0 := 0) (k := 1) X hP hD hS rfl (by decide) (by decide +kernel) (X.w 38 rfl rfl) (fun _ z => z) (by decide +kernel) rfl rfl (Nat.le_of_ble_eq_true rfl) jd_lIn_8 (fun H locs hP hD hS => ?_)
  exact j_vret X hS ⟨rfl, hP⟩ jd_lIn_11
def jy_cp3 : MethodName := ⟨"java/util/Arrays", "copyOf", "([Ljava/lang/Object;ILjava/lang/Class;)[Ljava/lang/Object;"⟩
abbrev jc_cp3 : ByteArray := prog_49_method_120_code
abbrev jr_cp3 : Option FieldType := (Option.some (Jvm.ClassFile.FieldType.array (Jvm.ClassFile.FieldType.object "java/lang/Object")))
theorem jd_cp3_0 : decode jc_cp3 0 = .ok (.aload_n 2, 1) := by decide +kernel
theorem jd_cp3_1 : decode jc_cp3 1 = .ok (.ldc 110, 2) := by decide +kernel
theorem jd_cp3_3 : decode jc_cp3 3 = .ok (.if_acmp .ne 10, 3) := by decide +kernel
theorem jd_cp3_6 : decode jc_cp3 6 = .ok (.iload_n 1, 1) := by decide +kernel
theorem jd_cp3_7 : decode jc_cp3 7 = .ok (.anewarray 2, 3) := by decide +kernel
theorem jd_cp3_10 : decode jc_cp3 10 = .ok (.goto 14, 3) := by decide +kernel
theorem jd_cp3_13 : decode jc_cp3 13 = .ok (.aload_n 2, 1) := by decide +kernel
theorem jd_cp3_14 : decode jc_cp3 14 = .ok (.invokevirtual 90, 3) := by decide +kernel
theorem jd_cp3_17 : decode jc_cp3 17 = .ok (.iload_n 1, 1) := by decide +kernel
theorem jd_cp3_18 : decode jc_cp3 18 = .ok (.invokestatic 95, 3) := by decide +kernel
theorem jd_cp3_21 : decode jc_cp3 21 = .ok (.checkcast 110, 3) := by decide +kernel
theorem jd_cp3_24 : decode jc_cp3 24 = .ok (.astore_n 3, 1) := by decide +kernel
theorem jd_cp3_25 : decode jc_cp3 25 = .ok (.aload_n 0, 1) := by decide +kernel
theorem jd_cp3_26 : decode jc_cp3 26 = .ok (.iconst 0, 1) := by decide +kernel
theorem jd_cp3_27 : decode jc_cp3 27 = .ok (.aload_n 3, 1) := by decide +kernel
theorem jd_cp3_28 : decode jc_cp3 28 = .ok (.iconst 0, 1) := by decide +kernel
theorem jd_cp3_29 : decode jc_cp3 29 = .ok (.aload_n 0, 1) := by decide +kernel
theorem jd_cp3_30 : decode jc_cp3 30 = .ok (.arraylength, 1) := by decide +kernel
theorem jd_cp3_31 : decode jc_cp3 31 = .ok (.iload_n 1, 1) := by decide +kernel
theorem jd_cp3_32 : decode jc_cp3 32 = .ok (.invokestatic 304, 3) := by decide +kernel
theorem jd_cp3_35 : decode jc_cp3 35 = .ok (.invokestatic 150, 3) := by decide +kernel
theorem jd_cp3_38 : decode jc_cp3 38 = .ok (.aload_n 3, 1) := by decide +kernel
theorem jd_cp3_39 : decode jc_cp3 39 = .ok (.areturn, 1) := by decide +kernel
theorem jb_cp3 : jB jy_cp3 3 := by decide +kernel
theorem c_cp3 {d cap cap' : Nat} {f : Nat → Option Nat} (hfz : G.2.2.1 ≤ H.size) (hd1 : G.2.2.1 ≤ d) (hP : va_P G.1 kcl [jRO G d cap f] H) (hc : cap ≤ cap') (hc' : cap' < 100000) : JM l G (jEl cap f H) jy_cp3 jc_cp3 4 jr_cp3 1 40 [.ref d, .int (nI cap'), .ref (G.2.2.2 3)] [d] H (fun v1 H1 => ∃ q, v1 = some (.ref q) ∧ H.size ≤ q ∧ va_P G.1 kcl [jRO G q cap' (va_cpy f (fun _ => none) 0 0 cap)] H1) 1 cap' := by
  refine jm_of (by decide +kernel) (Nat.le_of_ble_eq_true rfl) (fun p e R s m args below meth c ls X hH hl hF hL hmc hms => ?_)
  subst hH
  have hE := X.2.2.2.2.2.2.2
  have hSt := X.2.2.2.2.2.2.1
  have hPd := hP 0 _ rfl
  have hD : va_D (jA [d] s.heap.size) [jRO G d cap f] := j_D1 (Or.inl List.mem_cons_self)
  have em : (if nI cap' < nI cap then nI cap' else nI cap) = nI cap := if_neg (nI_nlt (by omega) (by omega))
  refine lv_aload_n X.1 X.2.1 jd_cp3_0 rfl (lv_at hl 2 rfl) ?_
  refine va_ldcM X.1 X.2.1 X.2.2.2.1 (X.w 103 rfl rfl) hSt.1.2.2.2.2.2.2.2.2.2.1 jd_cp3_1 ?_
  refine lv_acmp_ne (rx := some (G.2.2.2 3)) (ry := some (G.2.2.2 3)) (tgt := 13) X.1 X.2.1 jd_cp3_3 (by decide) (fun z => absurd rfl z) (fun _ => ?_)
  refine lv_iload_n X.1 X.2.1 jd_cp3_6 rfl (lv_at hl 1 rfl) ?_
  refine va_newq X.1 X.2.1 X.2.2.2.1 (X.w 104 rfl rfl) (hSt.1.2.2.2.1 _ (by decide +kernel)) X.kn hP hD va_S.rf jA_new (nI_pos (by omega)) (nI_clamp (by omega)) (by omega) (by omega) (by omega) jd_cp3_7 (fun q cA H1 hK1 hP hD hS => ?_)
  obtain ⟨-, -, -, -, -, y1⟩ := (hK1.2 2 _ rfl).2
  obtain ⟨-, -, -, -, -, y2⟩ := (X.kn.2 0 _ rfl).2
  have hcA : cA = G.2.1 1010 := Option.some.inj (y1.symm.trans y2)
  subst hcA
  have hP : va_P G.1 kcl [jRO G d cap f, jRO G q cap' (fun _ => none)] H1 := hP
  have hD : va_D (jA [d] s.heap.size) [jRO G d cap f, jRO G q cap' (fun _ => none)] := hD
  have hq : s.heap.size ≤ q := (hD.2 1 _ rfl).resolve_left (fun z => absurd (hD.1 0 1 _ _ rfl rfl (List.mem_singleton.mp z).symm) (by decide))
  refine lv_goto (tgt := 24) X.1 X.2.1 jd_cp3_10 (by decide) ?_
  refine j_astore X (Or.inr ⟨_, rfl⟩) jd_cp3_24 rfl hl (by decide) rfl (fun ls hl => ?_)
  refine lv_aload_n X.1 X.2.1 jd_cp3_25 rfl (lv_at hl 1 rfl) ?_
  refine lv_iconst (v := 0) X.1 X.2.1 jd_cp3_26 (by decide) ?_
  refine lv_aload_n X.1 X.2.1 jd_cp3_27 rfl (lv_at hl 0 rfl) ?_
  refine lv_iconst (v := 0) X.1 X.2.1 jd_cp3_28 (by decide) ?_
  refine lv_aload_n X.1 X.2.1 jd_cp3_29 rfl (lv_at hl 1 rfl) ?_
  refine va_alen X.1 X.2.1 X.kn hP 0 0 rfl rfl (v := nI cap) rfl jd_cp3_30 ?_
  refine lv_iload_n X.1 X.2.1 jd_cp3_31 rfl (lv_at hl 2 rfl) ?_
  refine j_min X hl (X.w 105 rfl rfl) (X.w 52 rfl rfl) (X.w 9 rfl rfl) (X.w 53 rfl rfl) ⟨by omega, by show 4 + 13 ≤ R.locals; omega⟩ ⟨by omega, by omega⟩ em jd_cp3_32 ?_
  refine va_copyM X.1 X.2.1 (by rw [hl.1]; exact X.2.2.1) X.2.2.2.1 (X.w 106 rfl rfl) (X.w 108 rfl rfl) (X.w 107 rfl rfl) (X.w 14 rfl rfl) X.kn hP hD hS 0 1 0 0 rfl rfl rfl rfl (by decide) (by decide) (nI_pos (by omega)) (by rw [nI_clamp (by omega), sb_cl0]; omega) (by rw [nI_clamp (by omega), sb_cl0]; omega) (fun i hi y hy => ?_) (by omega) (Nat.le_trans (Nat.le_of_ble_eq_true rfl) hL) jd_cp3_35 (fun H2 locs2 hP hD hS => ?_)
  · rw [nI_clamp (by omega)] at hi
    rw [sb_cl0, Nat.zero_add] at hy
    have h9 := hE i hi y hy
    refine h9.kept ?_
    by_cases hyd : y = d
    · rw [hyd]
      exact (hP 0 _ rfl : H1[d]? = _).trans (hPd : s.heap[d]? = _).symm
    · obtain ⟨cell, z1, -⟩ := h9
      exact hS.2.1 y (Array.getElem?_eq_some_iff.mp z1).1 (fun z => z.elim (fun w => hyd (List.mem_singleton.mp w)) (fun w => absurd (Array.getElem?_eq_some_iff.mp z1).1 (Nat.not_lt.mpr w)))
  rw [nI_clamp (by omega), sb_cl0] at hP hD
  refine lv_aload_n X.1 X.2.1 jd_cp3_38 rfl (lv_at hl 0 rfl) ?_
  refine W.widen (k := 1) (n := cap') (by omega) (by omega) ?_
  exact j_aret X (Or.inr ⟨_, rfl⟩) (Or.inr ⟨_, rfl⟩) hS ⟨q, rfl, hq, j_P1 (hP 1 _ rfl)⟩ jd_cp3_39
def jy_cp2 : MethodName := ⟨"java/util/Arrays", "copyOf", "([Ljava/lang/Object;I)[Ljava/lang/Object;"⟩
abbrev jc_cp2 : ByteArray := prog_49_method_119_code
abbrev jr_cp2 : Option FieldType := (Option.some (Jvm.ClassFile.FieldType.array (Jvm.ClassFile.FieldType.object "java/lang/Object")))
theorem jd_cp2_0 : decode jc_cp2 0 = .ok (.aload_n 0, 1) := by decide +kernel
theorem jd_cp2_1 : decode jc_cp2 1 = .ok (.iload_n 1, 1) := by decide +kernel
theorem jd_cp2_2 : decode jc_cp2 2 = .ok (.aload_n 0, 1) := by decide +kernel
theorem jd_cp2_3 : decode jc_cp2 3 = .ok (.invokevirtual 86, 3) := by decide +kernel
theorem jd_cp2_6 : decode jc_cp2 6 = .ok (.invokestatic 300, 3) := by decide +kernel
theorem jd_cp2_9 : decode jc_cp2 9 = .ok (.areturn, 1) := by decide +kernel
theorem jb_cp2 : jB jy_cp2 2 := by decide +kernel
theorem c_cp2 {d cap cap' : Nat} {f : Nat → Option Nat} (hfz : G.2.2.1 ≤ H.size) (hd1 : G.2.2.1 ≤ d) (hP : va_P G.1 kcl [jRO G d cap f] H) (hc : cap ≤ cap') (hc' : cap' < 100000) : JM l G (jEl cap f H) jy_cp2 jc_cp2 2 jr_cp2 2 70 [.ref d, .int (nI cap')] [d] H (fun v1 H1 => ∃ q, v1 = some (.ref q) ∧ H.size ≤ q ∧ va_P G.1 kcl [jRO G q cap' (va_cpy f (fun _ => none) 0 0 cap)] H1) 1 cap' := by
  refine jm_of (by decide +kernel) (Nat.le_of_ble_eq_true rfl) (fun p e R s m args below meth c ls X hH hl hF hL hmc hms => ?_)
  subst hH
  have hE := X.2.2.2.2.2.2.2
  have hSt := X.2.2.2.2.2.2.1
  have hA := jA_frz (G := G) (fr := [d]) (fun q h => by rw [List.mem_singleton.mp h]; exact hd1) hfz
  refine lv_aload_n X.1 X.2.1 jd_cp2_0 rfl (lv_at hl 0 rfl) ?_
  refine lv_iload_n X.1 X.2.1 jd_cp2_1 rfl (lv_at hl 1 rfl) ?_
  refine lv_aload_n X.1 X.2.1 jd_cp2_2 rfl (lv_at hl 0 rfl) ?_
  refine va_getC X.1 X.2.1 (by rw [hl.1]; exact X.2.2.1) X.2.2.2.1 (X.w 97 rfl rfl) (X.w 143 rfl rfl) (X.w 142 rfl rfl) (X.w 98 rfl rfl) (X.w 99 rfl rfl) hSt.1.2.2.2.2.2.2.2.2.2.1 ⟨_, hP 0 _ rfl, rfl, va_nmO (X.kn.2 0 _ rfl).2 (by decide +kernel)⟩ (by omega) (by show 2 + 14 ≤ R.locals; omega) jd_cp2_3 ?_
  refine j_callS [.ref d, .int (nI cap'), .ref (G.2.2.2 3)] [] X hl ⟨jEl_k, hE⟩ (c_cp3 hfz hd1 hP hc hc') (X.w 100 rfl rfl) (X.w 101 rfl rfl) (X.w 13 rfl rfl) (jw_in _ (List.mem_of_getElem? (i := 102) rfl)) jb_cp3 ⟨by omega, by omega⟩ ⟨by omega, by omega⟩ (Nat.zero_le _) va_S.rf hA (jA_sub (fun q h => Or.inl h) (Nat.le_refl _)) jd_cp2_6 (fun v1 H1 locs hq hz hk hS => ?_)
  obtain ⟨q, rfl, h1, h2⟩ := hq
  refine W.widen (k := 1) (n := cap') (by omega) (by omega) ?_
  exact j_aret X (Or.inr ⟨_, rfl⟩) (Or.inr ⟨_, rfl⟩) hS ⟨q, rfl, h1, h2⟩ jd_cp2_9
/-! growing -/
abbrev jGr (G : Geo) (a : Nat) (mc n : Int32) (cap' : Nat) (f' : Nat → Option Nat) (z : Nat) : Option Value → Heap → Prop := fun v1 H1 => ∃ q, v1 = some (.ref q) ∧ z ≤ q ∧ va_P G.1 kcl [jLI a mc q n, jRO G q cap' f'] H1
def jy_gr1 : MethodName := ⟨"java/util/ArrayList", "grow", "(I)[Ljava/lang/Object;"⟩
abbrev jc_gr1 : ByteArray := prog_48_method_6_code
abbrev jr_gr1 : Option FieldType := (Option.some (Jvm.ClassFile.FieldType.array (Jvm.ClassFile.FieldType.object "java/lang/Object")))
theorem jd_gr1_0 : decode jc_gr1 0 = .ok (.aload_n 0, 1) := by decide +kernel
theorem jd_gr1_1 : decode jc_gr1 1 = .ok (.getfield 9, 3) := by decide +kernel
theorem jd_gr1_4 : decode jc_gr1 4 = .ok (.arraylength, 1) := by decide +kernel
theorem jd_gr1_5 : decode jc_gr1 5 = .ok (.istore_n 2, 1) := by decide +kernel
theorem jd_gr1_6 : decode jc_gr1 6 = .ok (.iload_n 2, 1) := by decide +kernel
theorem jd_gr1_7 : decode jc_gr1 7 = .ok (.ifCond .gt 13, 3) := by decide +kernel
theorem jd_gr1_10 : decode jc_gr1 10 = .ok (.aload_n 0, 1) := by decide +kernel
theorem jd_gr1_11 : decode jc_gr1 11 = .ok (.getfield 9, 3) := by decide +kernel
theorem jd_gr1_14 : decode jc_gr1 14 = .ok (.getstatic 39, 3) := by decide +kernel
theorem jd_gr1_17 : decode jc_gr1 17 = .ok (.if_acmp .eq 28, 3) := by decide +kernel
theorem jd_gr1_20 : decode jc_gr1 20 = .ok (.iload_n 2, 1) := by decide +kernel
theorem jd_gr1_21 : decode jc_gr1 21 = .ok (.iload_n 1, 1) := by decide +kernel
theorem jd_gr1_22 : decode jc_gr1 22 = .ok (.iload_n 2, 1) := by decide +kernel
theorem jd_gr1_23 : decode jc_gr1 23 = .ok (.isub, 1) := by decide +kernel
theorem jd_gr1_24 : decode jc_gr1 24 = .ok (.iload_n 2, 1) := by decide +kernel
theorem jd_gr1_25 : decode jc_gr1 25 = .ok (.iconst 1, 1) := by decide +kernel
theorem jd_gr1_26 : decode jc_gr1 26 = .ok (.ishr, 1) := by decide +kernel
theorem jd_gr1_27 : decode jc_gr1 27 = .ok (.invokestatic 73, 3) := by decide +kernel
theorem jd_gr1_30 : decode jc_gr1 30 = .ok (.istore_n 3, 1) := by decide +kernel
theorem jd_gr1_31 : decode jc_gr1 31 = .ok (.aload_n 0, 1) := by decide +kernel
theorem jd_gr1_32 : decode jc_gr1 32 = .ok (.aload_n 0, 1) := by decide +kernel
theorem jd_gr1_33 : decode jc_gr1 33 = .ok (.getfield 9, 3) := by decide +kernel
theorem jd_gr1_36 : decode jc_gr1 36 = .ok (.iload_n 3, 1) := by decide +kernel
theorem jd_gr1_37 : decode jc_gr1 37 = .ok (.invokestatic 66, 3) := by decide +kernel
theorem jd_gr1_40 : decode jc_gr1 40 = .ok (.dup_x1, 1) := by decide +kernel
theorem jd_gr1_41 : decode jc_gr1 41 = .ok (.putfield 9, 3) := by decide +kernel
theorem jd_gr1_44 : decode jc_gr1 44 = .ok (.areturn, 1) := by decide +kernel
theorem jd_gr1_45 : decode jc_gr1 45 = .ok (.aload_n 0, 1) := by decide +kernel
theorem jd_gr1_46 : decode jc_gr1 46 = .ok (.bipush 10, 2) := by decide +kernel
theorem jd_gr1_48 : decode jc_gr1 48 = .ok (.iload_n 1, 1) := by decide +kernel
theorem jd_gr1_49 : decode jc_gr1 49 = .ok (.invokestatic 79, 3) := by decide +kernel
theorem jd_gr1_52 : decode jc_gr1 52 = .ok (.anewarray 7, 3) := by decide +kernel
theorem jd_gr1_55 : decode jc_gr1 55 = .ok (.dup_x1, 1) := by decide +kernel
theorem jd_gr1_56 : decode jc_gr1 56 = .ok (.putfield 9, 3) := by decide +kernel
theorem jd_gr1_59 : decode jc_gr1 59 = .ok (.areturn, 1) := by decide +kernel
theorem jb_gr1 : jB jy_gr1 1 := by decide +kernel
theorem c_gr1a {a : Nat} {mc n : Int32} (hfz : G.2.2.1 ≤ H.size) (ha : G.2.2.1 ≤ a) (hP : va_P G.1 kcl [jLI a mc (G.2.2.2 2) n] H) : JM l G jE0 jy_gr1 jc_gr1 4 jr_gr1 3 110 [.ref a, .int (nI 1)] [a] H (jGr G a mc n 10 (fun _ => none) H.size) 1 10 := by
  refine jm_of (by decide +kernel) (Nat.le_of_ble_eq_true rfl) (fun p e R s m args below meth c ls X hH hl hF hL hmc hms => ?_)
  subst hH
  have hSt := X.2.2.2.2.2.2.1
  have hA := jA_frz (G := G) (fr := [a]) (fun q h => by rw [List.mem_singleton.mp h]; exact ha) hfz
  have hD : va_D (jA [a] s.heap.size) [jLI a mc (G.2.2.2 2) n] := j_D1 (Or.inl List.mem_cons_self)
  refine lv_aload_n X.1 X.2.1 jd_gr1_0 rfl (lv_at hl 0 rfl) ?_
  refine j_get (ci := 21) (q0 := 0) (k := 1) X hP rfl (by decide) (by decide +kernel) (X.w 38 rfl rfl) (fun _ z => z) rfl jd_gr1_1 ?_
  refine j_len0 X hA va_S.rf jd_gr1_4 ?_
  refine lv_istore_n X.1 X.2.1 jd_gr1_5 rfl hl (by decide) rfl (fun ls hl => ?_)
  refine lv_iload_n X.1 X.2.1 jd_gr1_6 rfl (lv_at hl 0 rfl) ?_
  refine lv_if_gt (tgt := 20) X.1 X.2.1 jd_gr1_7 (by decide) (fun h9 => absurd h9 (by decide)) (fun _ => ?_)
  refine lv_aload_n X.1 X.2.1 jd_gr1_10 rfl (lv_at hl 1 rfl) ?_
  refine j_get (ci := 21) (q0 := 0) (k := 1) X hP rfl (by decide) (by decide +kernel) (X.w 38 rfl rfl) (fun _ z => z) rfl jd_gr1_11 ?_
  refine j_dce X hA va_S.rf (X.w 37 rfl rfl) jd_gr1_14 ?_
  refine lv_acmp_eq (rx := some (G.2.2.2 2)) (ry := some (G.2.2.2 2)) (tgt := 45) X.1 X.2.1 jd_gr1_17 (by decide) (fun _ => ?_) (fun z => absurd rfl z)
  refine lv_aload_n X.1 X.2.1 jd_gr1_45 rfl (lv_at hl 1 rfl) ?_
  refine lv_bipush (v := 10) X.1 X.2.1 jd_gr1_46 (by decide) ?_
  refine lv_iload_n X.1 X.2.1 jd_gr1_48 rfl (lv_at hl 2 rfl) ?_
  refine j_max X hl (X.w 109 rfl rfl) (X.w 91 rfl rfl) (X.w 9 rfl rfl) (X.w 92 rfl rfl) ⟨by omega, by show 1 + 13 ≤ R.locals; omega⟩ ⟨Nat.zero_le _, Nat.zero_le _⟩ (z := 10) (by decide) jd_gr1_49 ?_
  refine va_newq (N' := 10) X.1 X.2.1 X.2.2.2.1 (X.w 110 rfl rfl) (hSt.1.2.2.2.1 _ (by decide +kernel)) X.kn hP hD va_S.rf jA_new (by decide) (by decide) (by omega) (by omega) (by omega) jd_gr1_52 (fun q cA H1 hK1 hP hD hS => ?_)
  obtain ⟨-, -, -, -, -, y1⟩ := (hK1.2 2 _ rfl).2
  obtain ⟨-, -, -, -, -, y2⟩ := (X.kn.2 0 _ rfl).2
  have hcA : cA = G.2.1 1010 := Option.some.inj (y1.symm.trans y2)
  subst hcA
  have hP : va_P G.1 kcl [jLI a mc (G.2.2.2 2) n, jRO G q 10 (fun _ => none)] H1 := hP
  have hD : va_D (jA [a] s.heap.size) [jLI a mc (G.2.2.2 2) n, jRO G q 10 (fun _ => none)] := hD
  have hq : s.heap.size ≤ q := (hD.2 1 _ rfl).resolve_left (fun z => absurd (hD.1 0 1 _ _ rfl rfl (List.mem_singleton.mp z).symm) (by decide))
  refine lv_dup_x1 X.1 X.2.1 jd_gr1_55 rfl rfl ?_
  refine j_put (ci := 21) (q0 := 0) (k := 1) X hP hD hS rfl (by decide) (by decide +kernel) (X.w 38 rfl rfl) (fun _ z => z) (by decide +kernel) rfl rfl (Nat.le_of_ble_eq_true rfl) jd_gr1_56 (fun H locs hP hD hS => ?_)
  refine W.widen (k := 1) (n := 10) (by omega) (by omega) ?_
  exact j_aret X (Or.inr ⟨_, rfl⟩) (Or.inr ⟨_, rfl⟩) hS ⟨q, rfl, hq, hP⟩ jd_gr1_59
theorem c_gr1b {a d cap : Nat} {mc n : Int32} {f : Nat → Option Nat} (hfz : G.2.2.1 ≤ H.size) (ha : G.2.2.1 ≤ a) (hd1 : G.2.2.1 ≤ d) (hne : a ≠ d) (hP : va_P G.1 kcl [jLI a mc d n, jRO G d cap f] H) (h2 : 2 ≤ cap) (hc : cap < 60000) : JM l G (jEl cap f H) jy_gr1 jc_gr1 4 jr_gr1 3 110 [.ref a, .int (nI (cap + 1))] [a, d] H (jGr G a mc n (cap + cap / 2) (va_cpy f (fun _ => none) 0 0 cap) H.size) 1 (cap + cap / 2) := by
  refine jm_of (by decide +kernel) (Nat.le_of_ble_eq_true rfl) (fun p e R s m args below meth c ls X hH hl hF hL hmc hms => ?_)
  subst hH
  have hE := X.2.2.2.2.2.2.2
  have hA := jA_frz (G := G) (fr := [a, d]) (fun q h => by rcases List.mem_cons.mp h with z | z; exact z ▸ ha; exact (List.mem_singleton.mp z) ▸ hd1) hfz
  have hal : a < s.heap.size := (hP 0 _ rfl).lt
  have e1 : nI (cap + 1) - nI cap = nI 1 := by
    have k := pk_sub (a := cap + 1) (b := cap) (by omega)
    rw [Nat.add_sub_cancel_left] at k
    exact k
  have e2 : nI cap >>> ((1 : Int32) &&& 31) = nI (cap / 2) := by
    have k := pk_shrN (n := cap) (by omega) ((1 : Int32) &&& 31) 1 (by decide)
    rw [Nat.pow_one] at k
    exact k
  have e3 : nI cap + (if nI 1 < nI (cap / 2) then nI (cap / 2) else nI 1) = nI (cap + cap / 2) := by
    by_cases c1 : 1 < cap / 2
    · rw [if_pos (nI_lt c1 (by omega))]
      exact nI_add cap (cap / 2)
    · rw [if_neg (nI_nlt (by omega) (by decide))]
      have h9 : cap / 2 = 1 := by omega
      rw [h9]
      exact nI_add cap 1
  refine lv_aload_n X.1 X.2.1 jd_gr1_0 rfl (lv_at hl 0 rfl) ?_
  refine j_get (ci := 21) (q0 := 0) (k := 1) X hP rfl (by decide) (by decide +kernel) (X.w 38 rfl rfl) (fun _ z => z) rfl jd_gr1_1 ?_
  refine va_alen X.1 X.2.1 X.kn hP 1 0 rfl rfl (v := nI cap) rfl jd_gr1_4 ?_
  refine lv_istore_n X.1 X.2.1 jd_gr1_5 rfl hl (by decide) rfl (fun ls hl => ?_)
  refine lv_iload_n X.1 X.2.1 jd_gr1_6 rfl (lv_at hl 0 rfl) ?_
  refine lv_if_gt (tgt := 20) X.1 X.2.1 jd_gr1_7 (by decide) (fun _ => ?_) (fun h9 => absurd (nI_lt (a := 0) (by omega) (by omega)) h9)
  refine lv_iload_n X.1 X.2.1 jd_gr1_20 rfl (lv_at hl 0 rfl) ?_
  refine lv_iload_n X.1 X.2.1 jd_gr1_21 rfl (lv_at hl 2 rfl) ?_
  refine lv_iload_n X.1 X.2.1 jd_gr1_22 rfl (lv_at hl 0 rfl) ?_
  refine lv_isub X.1 X.2.1 jd_gr1_23 ?_
  refine j_top e1 ?_
  refine lv_iload_n X.1 X.2.1 jd_gr1_24 rfl (lv_at hl 0 rfl) ?_
  refine lv_iconst (v := 1) X.1 X.2.1 jd_gr1_25 (by decide) ?_
  refine lv_ishr X.1 X.2.1 jd_gr1_26 ?_
  refine j_top e2 ?_
  refine j_callS [.int (nI cap), .int (nI 1), .int (nI (cap / 2))] [] X hl (jE0_ok s) (c_nLen e3 (nI_nle (by omega) (by omega)) (show ¬ nI 2147483639 < nI (cap + cap / 2) from nI_nlt (by omega) (by decide))) (X.w 87 rfl rfl) (X.w 88 rfl rfl) (X.w 12 rfl rfl) (jw_in _ (List.mem_of_getElem? (i := 89) rfl)) jb_nLen ⟨by omega, by omega⟩ ⟨by omega, by omega⟩ (Nat.zero_le _) va_S.rf hA (jA_sub (fun _ h => nomatch h) (Nat.le_refl _)) jd_gr1_27 (fun v1 H1 locs hq hz hk hS => ?_)
  obtain ⟨rfl, rfl⟩ := hq
  refine lv_istore_n X.1 X.2.1 jd_gr1_30 rfl hl (by decide) rfl (fun ls hl => ?_)
  refine lv_aload_n X.1 X.2.1 jd_gr1_31 rfl (lv_at hl 2 rfl) ?_
  refine lv_aload_n X.1 X.2.1 jd_gr1_32 rfl (lv_at hl 2 rfl) ?_
  refine j_get (ci := 21) (q0 := 0) (k := 1) X hP rfl (by decide) (by decide +kernel) (X.w 38 rfl rfl) (fun _ z => z) rfl jd_gr1_33 ?_
  refine lv_iload_n X.1 X.2.1 jd_gr1_36 rfl (lv_at hl 0 rfl) ?_
  refine j_callS [.ref d, .int (nI (cap + cap / 2))] [.ref a] X hl ⟨jEl_k, hE⟩ (c_cp2 (cap' := cap + cap / 2) hfz hd1 (j_P1 (hP 1 _ rfl)) (by omega) (by omega)) (X.w 94 rfl rfl) (X.w 95 rfl rfl) (X.w 13 rfl rfl) (jw_in _ (List.mem_of_getElem? (i := 96) rfl)) jb_cp2 ⟨by omega, by omega⟩ ⟨by omega, by omega⟩ (Nat.le_of_ble_eq_true rfl) hS hA (jA_sub (fun q h => Or.inl (List.mem_cons_of_mem _ h)) (Nat.le_refl _)) jd_gr1_37 (fun v1 H1 locs hq hz hk hS => ?_)
  obtain ⟨q, rfl, h1, hP2⟩ := hq
  have hPn : va_P G.1 kcl [jLI a mc d n, jRO G q (cap + cap / 2) (va_cpy f (fun _ => none) 0 0 cap)] H1 := j_P2 ((hP 0 _ rfl).kept (hk a hal (fun z => hne (List.mem_singleton.mp z)))) (hP2 0 _ rfl)
  have hD : va_D (jA [a, d] s.heap.size) [jLI a mc d n, jRO G q (cap + cap / 2) (va_cpy f (fun _ => none) 0 0 cap)] := j_D2 (by show a ≠ q; omega) (Or.inl List.mem_cons_self) (Or.inr h1)
  have hP := hPn
  refine lv_dup_x1 X.1 X.2.1 jd_gr1_40 rfl rfl ?_
  refine j_put (ci := 21) (q0 := 0) (k := 1) X hP hD hS rfl (by decide) (by decide +kernel) (X.w 38 rfl rfl) (fun _ z => z) (by decide +kernel) rfl rfl (Nat.le_of_ble_eq_true rfl) jd_gr1_41 (fun H locs hP hD hS => ?_)
  refine W.widen (k := 1) (n := cap + cap / 2) (by omega) (by omega) ?_
  exact j_aret X (Or.inr ⟨_, rfl⟩) (Or.inr ⟨_, rfl⟩) hS ⟨q, rfl, h1, hP⟩ jd_gr1_44
def jy_gr0 : MethodName := ⟨"java/util/ArrayList", "grow", "()[Ljava/lang/Object;"⟩
abbrev jc_gr0 : ByteArray := prog_48_method_7_code
abbrev jr_gr0 : Option FieldType := (Option.some (Jvm.ClassFile.FieldType.array (Jvm.ClassFile.FieldType.object "java/lang/Object")))
theorem jd_gr0_0 : decode jc_gr0 0 = .ok (.aload_n 0, 1) := by decide +kernel
theorem jd_gr0_1 : decode jc_gr0 1 = .ok (.aload_n 0, 1) := by decide +kernel
theorem jd_gr0_2 : decode jc_gr0 2 = .ok (.getfield 48, 3) := by decide +kernel
theorem jd_gr0_5 : decode jc_gr0 5 = .ok (.iconst 1, 1) := by decide +kernel
theorem jd_gr0_6 : decode jc_gr0 6 = .ok (.iadd, 1) := by decide +kernel
theorem jd_gr0_7 : decode jc_gr0 7 = .ok (.invokevirtual 69, 3) := by decide +kernel
theorem jd_gr0_10 : decode jc_gr0 10 = .ok (.areturn, 1) := by decide +kernel
theorem jb_gr0 : jB jy_gr0 0 := by decide +kernel
theorem c_gr0a {a : Nat} {mc : Int32} (hfz : G.2.2.1 ≤ H.size) (ha : G.2.2.1 ≤ a) (hP : va_P G.1 kcl [jLI a mc (G.2.2.2 2) (nI 0)] H) : JM l G jE0 jy_gr0 jc_gr0 1 jr_gr0 4 140 [.ref a] [a] H (jGr G a mc (nI 0) 10 (fun _ => none) H.size) 1 10 := by
  refine jm_of (by decide +kernel) (Nat.le_of_ble_eq_true rfl) (fun p e R s m args below meth c ls X hH hl hF hL hmc hms => ?_)
  subst hH
  have hA := jA_frz (G := G) (fr := [a]) (fun q h => by rw [List.mem_singleton.mp h]; exact ha) hfz
  refine lv_aload_n X.1 X.2.1 jd_gr0_0 rfl (lv_at hl 0 rfl) ?_
  refine lv_aload_n X.1 X.2.1 jd_gr0_1 rfl (lv_at hl 0 rfl) ?_
  refine j_get (ci := 21) (q0 := 0) (k := 2) X hP rfl (by decide) (by decide +kernel) (X.w 39 rfl rfl) (fun _ z => z) rfl jd_gr0_2 ?_
  refine lv_iconst (v := 1) X.1 X.2.1 jd_gr0_5 (by decide) ?_
  refine lv_iadd X.1 X.2.1 jd_gr0_6 ?_
  refine j_top (nI_1 0) ?_
  refine j_callV a [.int (nI 1)] [] X hl (jE0_ok s) (c_gr1a hfz ha hP) (X.w 84 rfl rfl) (X.w 85 rfl rfl) (X.w 8 rfl rfl) (jw_in _ (List.mem_of_getElem? (i := 86) rfl)) (X.w 2 rfl rfl) (j_rc (q0 := 0) X hP rfl (by decide)) jb_gr1 ⟨by omega, by omega⟩ ⟨by omega, by omega⟩ (Nat.zero_le _) va_S.rf hA (jA_sub (fun q h => Or.inl h) (Nat.le_refl _)) jd_gr0_7 (fun v1 H1 locs hq hz hk hS => ?_)
  obtain ⟨q, rfl, h1, hP2⟩ := hq
  refine W.widen (k := 1) (n := 10) (by omega) (by omega) ?_
  exact j_aret X (Or.inr ⟨_, rfl⟩) (Or.inr ⟨_, rfl⟩) hS ⟨q, rfl, h1, hP2⟩ jd_gr0_10
theorem c_gr0b {a d cap : Nat} {mc : Int32} {f : Nat → Option Nat} (hfz : G.2.2.1 ≤ H.size) (ha : G.2.2.1 ≤ a) (hd1 : G.2.2.1 ≤ d) (hne : a ≠ d) (hP : va_P G.1 kcl [jLI a mc d (nI cap), jRO G d cap f] H) (h2 : 2 ≤ cap) (hc : cap < 60000) : JM l G (jEl cap f H) jy_gr0 jc_gr0 1 jr_gr0 4 140 [.ref a] [a, d] H (jGr G a mc (nI cap) (cap + cap / 2) (va_cpy f (fun _ => none) 0 0 cap) H.size) 1 (cap + cap / 2) := by
  refine jm_of (by decide +kernel) (Nat.le_of_ble_eq_true rfl) (fun p e R s m args below meth c ls X hH hl hF hL hmc hms => ?_)
  subst hH
  have hE := X.2.2.2.2.2.2.2
  have hA := jA_frz (G := G) (fr := [a, d]) (fun q h => by rcases List.mem_cons.mp h with z | z; exact z ▸ ha; exact (List.mem_singleton.mp z) ▸ hd1) hfz
  refine lv_aload_n X.1 X.2.1 jd_gr0_0 rfl (lv_at hl 0 rfl) ?_
  refine lv_aload_n X.1 X.2.1 jd_gr0_1 rfl (lv_at hl 0 rfl) ?_
  refine j_get (ci := 21) (q0 := 0) (k := 2) X hP rfl (by decide) (by decide +kernel) (X.w 39 rfl rfl) (fun _ z => z) rfl jd_gr0_2 ?_
  refine lv_iconst (v := 1) X.1 X.2.1 jd_gr0_5 (by decide) ?_
  refine lv_iadd X.1 X.2.1 jd_gr0_6 ?_
  refine j_top (nI_1 cap) ?_
  refine j_callV a [.int (nI (cap + 1))] [] X hl ⟨jEl_k, hE⟩ (c_gr1b hfz ha hd1 hne hP h2 hc) (X.w 84 rfl rfl) (X.w 85 rfl rfl) (X.w 8 rfl rfl) (jw_in _ (List.mem_of_getElem? (i := 86) rfl)) (X.w 2 rfl rfl) (j_rc (q0 := 0) X hP rfl (by decide)) jb_gr1 ⟨by omega, by omega⟩ ⟨by omega, by omega⟩ (Nat.zero_le _) va_S.rf hA (jA_sub (fun q h => Or.inl h) (Nat.le_refl _)) jd_gr0_7 (fun v1 H1 locs hq hz hk hS => ?_)
  obtain ⟨q, rfl, h1, hP2⟩ := hq
  refine W.widen (k := 1) (n := cap + cap / 2) (by omega) (by omega) ?_
  exact j_aret X (Or.inr ⟨_, rfl⟩) (Or.inr ⟨_, rfl⟩) hS ⟨q, rfl, h1, hP2⟩ jd_gr0_10
end JLIST
