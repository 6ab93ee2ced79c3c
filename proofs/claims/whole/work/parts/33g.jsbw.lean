/-! ===== string builders: the methods that write ===== -/
section JSBW
variable {l : Launch} {G : Geo} {H : Heap}
theorem j_sel {E : State → Prop} {p : Program} {s : State} {m : MethodId} {args : Array Value} {meth : Method} {c : Code} {own : String} {cc : ByteArray} {nL : Nat} {ret : Option FieldType} (X : JX G E p s m meth c own cc nL ret) {y : MethodName} (hy : y ∈ sbPr) : (Cond.selects "java/lang/StringBuilder" y y).before args s = true := okW_at rfl (State.WarmedH.refl s) (X.2.2.2.2.2.2.1.1.2.2.2.2.2.2.2.2.2.2.2 y hy)
abbrev jS0 (a : Nat) (v : Value) (x y n : Int32) : Nat × va_E := (a, .inr (22, [v, .int x, .int y, .int n]))
def jy_bIn : MethodName := ⟨"java/lang/AbstractStringBuilder", "<init>", "(I)V"⟩
abbrev jc_bIn : ByteArray := prog_25_method_2_code
abbrev jr_bIn : Option FieldType := (Option.none : Option Jvm.ClassFile.FieldType)
theorem jd_bIn_0 : decode jc_bIn 0 = .ok (.aload_n 0, 1) := by decide +kernel
theorem jd_bIn_1 : decode jc_bIn 1 = .ok (.invokespecial 3, 3) := by decide +kernel
theorem jd_bIn_4 : decode jc_bIn 4 = .ok (.getstatic 18, 3) := by decide +kernel
theorem jd_bIn_7 : decode jc_bIn 7 = .ok (.ifCond .eq 18, 3) := by decide +kernel
theorem jd_bIn_10 : decode jc_bIn 10 = .ok (.aload_n 0, 1) := by decide +kernel
theorem jd_bIn_11 : decode jc_bIn 11 = .ok (.iload_n 1, 1) := by decide +kernel
theorem jd_bIn_12 : decode jc_bIn 12 = .ok (.newarray .byte, 2) := by decide +kernel
theorem jd_bIn_14 : decode jc_bIn 14 = .ok (.putfield 15, 3) := by decide +kernel
theorem jd_bIn_17 : decode jc_bIn 17 = .ok (.aload_n 0, 1) := by decide +kernel
theorem jd_bIn_18 : decode jc_bIn 18 = .ok (.iconst 0, 1) := by decide +kernel
theorem jd_bIn_19 : decode jc_bIn 19 = .ok (.putfield 22, 3) := by decide +kernel
theorem jd_bIn_22 : decode jc_bIn 22 = .ok (.goto 16, 3) := by decide +kernel
theorem jd_bIn_25 : decode jc_bIn 25 = .ok (.aload_n 0, 1) := by decide +kernel
theorem jd_bIn_26 : decode jc_bIn 26 = .ok (.iload_n 1, 1) := by decide +kernel
theorem jd_bIn_27 : decode jc_bIn 27 = .ok (.invokestatic 26, 3) := by decide +kernel
theorem jd_bIn_30 : decode jc_bIn 30 = .ok (.putfield 15, 3) := by decide +kernel
theorem jd_bIn_33 : decode jc_bIn 33 = .ok (.aload_n 0, 1) := by decide +kernel
theorem jd_bIn_34 : decode jc_bIn 34 = .ok (.iconst 1, 1) := by decide +kernel
theorem jd_bIn_35 : decode jc_bIn 35 = .ok (.putfield 22, 3) := by decide +kernel
theorem jd_bIn_38 : decode jc_bIn 38 = .ok (.return_, 1) := by decide +kernel
theorem jb_bIn : jB jy_bIn 1 := by decide +kernel
theorem c_bIn {a : Nat} {v : Value} {x y n : Int32} (hfz : G.2.2.1 ≤ H.size) (ha : G.2.2.1 ≤ a) (hP : va_P G.1 kcl [jS0 a v x y n] H) : JM l G jE0 jy_bIn jc_bIn 2 jr_bIn 1 20 [.ref a, .int 16] [a] H (fun v1 H1 => v1 = none ∧ ∃ q, H.size ≤ q ∧ va_P G.1 kcl [jSB a q y n, jRB G q 16 (fun _ => 0)] H1) 1 16 := by
  refine jm_of (by decide +kernel) (Nat.le_of_ble_eq_true rfl) (fun p e R s m args below meth c ls X hH hl hF hL hmc hms => ?_)
  subst hH
  have hA := jA_frz (G := G) (fr := [a]) (fun q h => by rw [List.mem_singleton.mp h]; exact ha) hfz
  have hD : va_D (jA [a] s.heap.size) [jS0 a v x y n] := j_D1 (Or.inl List.mem_cons_self)
  refine lv_aload_n X.1 X.2.1 jd_bIn_0 rfl (lv_at hl 0 rfl) ?_
  refine j_oin X hl (X.w 22 rfl rfl) (X.w 16 rfl rfl) (X.w 17 rfl rfl) ⟨by omega, by omega⟩ jd_bIn_1 ?_
  refine j_cs X hA va_S.rf (X.w 23 rfl rfl) jd_bIn_4 ?_
  refine lv_if_eq (tgt := 25) X.1 X.2.1 jd_bIn_7 (by decide) (fun h9 => absurd h9 (by decide)) (fun _ => ?_)
  refine lv_aload_n X.1 X.2.1 jd_bIn_10 rfl (lv_at hl 0 rfl) ?_
  refine lv_iload_n X.1 X.2.1 jd_bIn_11 rfl (lv_at hl 1 rfl) ?_
  refine va_newa (atype := .byte) (ty := .byte) (N' := 16) (a0 := (16, .inl (fun _ => 0))) X.1 X.2.1 (X.w 29 rfl rfl) rfl X.kn hP hD va_S.rf jA_new (fun _ => rfl) (by decide) (by decide) (by decide) (by omega) (by omega) jd_bIn_12 (fun q cA H1 hK1 hP hD hS => ?_)
  have y1 : s.vm.findClass ("[" ++ (FieldType.byte).toString) = some cA := (hK1.2 2 _ rfl).2
  have y2 : s.vm.findClass ("[" ++ (FieldType.byte).toString) = some (G.2.1 1003) := (X.kn.2 1 _ rfl).2
  have hcA : cA = G.2.1 1003 := Option.some.inj (y1.symm.trans y2)
  subst hcA
  have hP : va_P G.1 kcl [jS0 a v x y n, jRB G q 16 (fun _ => 0)] H1 := hP
  have hD : va_D (jA [a] s.heap.size) [jS0 a v x y n, jRB G q 16 (fun _ => 0)] := hD
  have hq : s.heap.size ≤ q := (hD.2 1 _ rfl).resolve_left (fun z => absurd (hD.1 0 1 _ _ rfl rfl (List.mem_singleton.mp z).symm) (by decide))
  refine j_put (ci := 22) (q0 := 0) (k := 0) X hP hD hS rfl (by decide) (by decide +kernel) (X.w 24 rfl rfl) (fun _ z => z) (by decide +kernel) rfl rfl (Nat.le_of_ble_eq_true rfl) jd_bIn_14 (fun H locs hP hD hS => ?_)
  refine lv_aload_n X.1 X.2.1 jd_bIn_17 rfl (lv_at hl 0 rfl) ?_
  refine lv_iconst (v := 0) X.1 X.2.1 jd_bIn_18 (by decide) ?_
  refine j_put (ci := 22) (q0 := 0) (k := 1) X hP hD hS rfl (by decide) (by decide +kernel) (X.w 25 rfl rfl) (fun _ z => z) (by decide +kernel) rfl rfl (Nat.le_of_ble_eq_true rfl) jd_bIn_19 (fun H locs hP hD hS => ?_)
  refine lv_goto (tgt := 38) X.1 X.2.1 jd_bIn_22 (by decide) ?_
  refine W.widen (k := 1) (n := 16) (by omega) (by omega) ?_
  exact j_vret X hS ⟨rfl, q, hq, hP⟩ jd_bIn_38
def jy_sIn : MethodName := ⟨"java/lang/StringBuilder", "<init>", "()V"⟩
abbrev jc_sIn : ByteArray := prog_41_method_1_code
abbrev jr_sIn : Option FieldType := (Option.none : Option Jvm.ClassFile.FieldType)
theorem jd_sIn_0 : decode jc_sIn 0 = .ok (.aload_n 0, 1) := by decide +kernel
theorem jd_sIn_1 : decode jc_sIn 1 = .ok (.bipush 16, 2) := by decide +kernel
theorem jd_sIn_3 : decode jc_sIn 3 = .ok (.invokespecial 1, 3) := by decide +kernel
theorem jd_sIn_6 : decode jc_sIn 6 = .ok (.return_, 1) := by decide +kernel
theorem jb_sIn : jB jy_sIn 0 := by decide +kernel
theorem c_sIn {a : Nat} {v : Value} {x y n : Int32} (hfz : G.2.2.1 ≤ H.size) (ha : G.2.2.1 ≤ a) (hP : va_P G.1 kcl [jS0 a v x y n] H) : JM l G jE0 jy_sIn jc_sIn 1 jr_sIn 2 50 [.ref a] [a] H (fun v1 H1 => v1 = none ∧ ∃ q, H.size ≤ q ∧ va_P G.1 kcl [jSB a q y n, jRB G q 16 (fun _ => 0)] H1) 1 16 := by
  refine jm_of (by decide +kernel) (Nat.le_of_ble_eq_true rfl) (fun p e R s m args below meth c ls X hH hl hF hL hmc hms => ?_)
  subst hH
  have hA := jA_frz (G := G) (fr := [a]) (fun q h => by rw [List.mem_singleton.mp h]; exact ha) hfz
  refine lv_aload_n X.1 X.2.1 jd_sIn_0 rfl (lv_at hl 0 rfl) ?_
  refine lv_bipush (v := 16) X.1 X.2.1 jd_sIn_1 (by decide) ?_
  refine j_callI a [.int 16] [] X hl (jE0_ok s) (c_bIn hfz ha hP) (X.w 19 rfl rfl) (X.w 20 rfl rfl) (X.w 4 rfl rfl) (jw_in _ (List.mem_of_getElem? (i := 21) rfl)) jb_bIn (by decide) ⟨by omega, by omega⟩ ⟨by omega, by omega⟩ (Nat.zero_le _) va_S.rf hA (jA_sub (fun q h => Or.inl h) (Nat.le_refl _)) jd_sIn_3 (fun v1 H1 locs hq hz hk hS => ?_)
  obtain ⟨rfl, h9⟩ := hq
  refine W.widen (k := 1) (n := 16) (by omega) (by omega) ?_
  exact j_vret X hS ⟨rfl, h9⟩ jd_sIn_6
def jy_cpB : MethodName := ⟨"java/util/Arrays", "copyOf", "([BI)[B"⟩
abbrev jc_cpB : ByteArray := prog_52_method_121_code
abbrev jr_cpB : Option FieldType := (Option.some (Jvm.ClassFile.FieldType.array Jvm.ClassFile.FieldType.byte))
theorem jd_cpB_0 : decode jc_cpB 0 = .ok (.iload_n 1, 1) := by decide +kernel
theorem jd_cpB_1 : decode jc_cpB 1 = .ok (.aload_n 0, 1) := by decide +kernel
theorem jd_cpB_2 : decode jc_cpB 2 = .ok (.arraylength, 1) := by decide +kernel
theorem jd_cpB_3 : decode jc_cpB 3 = .ok (.if_icmp .ne 11, 3) := by decide +kernel
theorem jd_cpB_6 : decode jc_cpB 6 = .ok (.aload_n 0, 1) := by decide +kernel
theorem jd_cpB_7 : decode jc_cpB 7 = .ok (.invokevirtual 310, 3) := by decide +kernel
theorem jd_cpB_10 : decode jc_cpB 10 = .ok (.checkcast 311, 3) := by decide +kernel
theorem jd_cpB_13 : decode jc_cpB 13 = .ok (.areturn, 1) := by decide +kernel
theorem jd_cpB_14 : decode jc_cpB 14 = .ok (.iload_n 1, 1) := by decide +kernel
theorem jd_cpB_15 : decode jc_cpB 15 = .ok (.newarray .byte, 2) := by decide +kernel
theorem jd_cpB_17 : decode jc_cpB 17 = .ok (.astore_n 2, 1) := by decide +kernel
theorem jd_cpB_18 : decode jc_cpB 18 = .ok (.aload_n 0, 1) := by decide +kernel
theorem jd_cpB_19 : decode jc_cpB 19 = .ok (.iconst 0, 1) := by decide +kernel
theorem jd_cpB_20 : decode jc_cpB 20 = .ok (.aload_n 2, 1) := by decide +kernel
theorem jd_cpB_21 : decode jc_cpB 21 = .ok (.iconst 0, 1) := by decide +kernel
theorem jd_cpB_22 : decode jc_cpB 22 = .ok (.aload_n 0, 1) := by decide +kernel
theorem jd_cpB_23 : decode jc_cpB 23 = .ok (.arraylength, 1) := by decide +kernel
theorem jd_cpB_24 : decode jc_cpB 24 = .ok (.iload_n 1, 1) := by decide +kernel
theorem jd_cpB_25 : decode jc_cpB 25 = .ok (.invokestatic 304, 3) := by decide +kernel
theorem jd_cpB_28 : decode jc_cpB 28 = .ok (.invokestatic 150, 3) := by decide +kernel
theorem jd_cpB_31 : decode jc_cpB 31 = .ok (.aload_n 2, 1) := by decide +kernel
theorem jd_cpB_32 : decode jc_cpB 32 = .ok (.areturn, 1) := by decide +kernel
theorem jb_cpB : jB jy_cpB 2 := by decide +kernel
theorem c_cpB {d cap cap' : Nat} {f : Nat → Int32} (hfz : G.2.2.1 ≤ H.size) (hP : va_P G.1 kcl [jRB G d cap f] H) (hf : sb_Fit f) (hc : cap < cap') (hc' : cap' < 300000) : JM l G jE0 jy_cpB jc_cpB 3 jr_cpB 1 40 [.ref d, .int (nI cap')] [d] H (fun v1 H1 => ∃ q, v1 = some (.ref q) ∧ H.size ≤ q ∧ va_P G.1 kcl [jRB G q cap' (va_cpy f (fun _ => 0) 0 0 cap)] H1) 1 cap' := by
  refine jm_of (by decide +kernel) (Nat.le_of_ble_eq_true rfl) (fun p e R s m args below meth c ls X hH hl hF hL hmc hms => ?_)
  subst hH
  have hD : va_D (jA [d] s.heap.size) [jRB G d cap f] := j_D1 (Or.inl List.mem_cons_self)
  have em : (if nI cap' < nI cap then nI cap' else nI cap) = nI cap := if_neg (nI_nlt (by omega) (by omega))
  refine lv_iload_n X.1 X.2.1 jd_cpB_0 rfl (lv_at hl 1 rfl) ?_
  refine lv_aload_n X.1 X.2.1 jd_cpB_1 rfl (lv_at hl 0 rfl) ?_
  refine va_alen X.1 X.2.1 X.kn hP 0 1 rfl rfl (v := nI cap) rfl jd_cpB_2 ?_
  refine lv_icmp_ne (tgt := 14) X.1 X.2.1 jd_cpB_3 (by decide) (fun _ => ?_) (fun h9 => absurd h9 (fun z => absurd ((nI_eq (by omega) (by omega)).mp z) (by omega)))
  refine lv_iload_n X.1 X.2.1 jd_cpB_14 rfl (lv_at hl 1 rfl) ?_
  refine va_newa (atype := .byte) (ty := .byte) (N' := cap') (a0 := (cap', .inl (fun _ => 0))) X.1 X.2.1 (X.w 29 rfl rfl) rfl X.kn hP hD va_S.rf jA_new (fun _ => rfl) (nI_pos (by omega)) (nI_clamp (by omega)) (by show cap' * 1 ≤ 536870912; omega) (by omega) (by omega) jd_cpB_15 (fun q cA H1 hK1 hP hD hS => ?_)
  have y1 : s.vm.findClass ("[" ++ (FieldType.byte).toString) = some cA := (hK1.2 2 _ rfl).2
  have y2 : s.vm.findClass ("[" ++ (FieldType.byte).toString) = some (G.2.1 1003) := (X.kn.2 1 _ rfl).2
  have hcA : cA = G.2.1 1003 := Option.some.inj (y1.symm.trans y2)
  subst hcA
  have hP : va_P G.1 kcl [jRB G d cap f, jRB G q cap' (fun _ => 0)] H1 := hP
  have hD : va_D (jA [d] s.heap.size) [jRB G d cap f, jRB G q cap' (fun _ => 0)] := hD
  have hq : s.heap.size ≤ q := (hD.2 1 _ rfl).resolve_left (fun z => absurd (hD.1 0 1 _ _ rfl rfl (List.mem_singleton.mp z).symm) (by decide))
  refine j_astore X (Or.inr ⟨_, rfl⟩) jd_cpB_17 rfl hl (by decide) rfl (fun ls hl => ?_)
  refine lv_aload_n X.1 X.2.1 jd_cpB_18 rfl (lv_at hl 1 rfl) ?_
  refine lv_iconst (v := 0) X.1 X.2.1 jd_cpB_19 (by decide) ?_
  refine lv_aload_n X.1 X.2.1 jd_cpB_20 rfl (lv_at hl 0 rfl) ?_
  refine lv_iconst (v := 0) X.1 X.2.1 jd_cpB_21 (by decide) ?_
  refine lv_aload_n X.1 X.2.1 jd_cpB_22 rfl (lv_at hl 1 rfl) ?_
  refine va_alen X.1 X.2.1 X.kn hP 0 1 rfl rfl (v := nI cap) rfl jd_cpB_23 ?_
  refine lv_iload_n X.1 X.2.1 jd_cpB_24 rfl (lv_at hl 2 rfl) ?_
  refine j_min X hl (X.w 110 rfl rfl) (X.w 53 rfl rfl) (X.w 10 rfl rfl) (X.w 54 rfl rfl) ⟨by omega, by show 4 + 13 ≤ R.locals; omega⟩ ⟨by omega, by omega⟩ em jd_cpB_25 ?_
  refine va_copyi X.1 X.2.1 (by rw [hl.1]; exact X.2.2.1) X.2.2.2.1 (X.w 111 rfl rfl) (X.w 113 rfl rfl) (X.w 112 rfl rfl) (X.w 12 rfl rfl) X.kn hP hD hS 0 1 1 1 rfl rfl rfl rfl rfl (by decide) (by decide) (nI_pos (by omega)) (by rw [nI_clamp (by omega), sb_cl0]; omega) (by rw [nI_clamp (by omega), sb_cl0]; omega) (fun i hi => hf _) (by omega) (Nat.le_trans (Nat.le_of_ble_eq_true rfl) hL) jd_cpB_28 (fun H2 locs2 hP hD hS => ?_)
  rw [nI_clamp (by omega), sb_cl0] at hP hD
  refine lv_aload_n X.1 X.2.1 jd_cpB_31 rfl (lv_at hl 0 rfl) ?_
  refine W.widen (k := 1) (n := cap') (by omega) (by omega) ?_
  exact j_aret X (Or.inr ⟨_, rfl⟩) (Or.inr ⟨_, rfl⟩) hS ⟨q, rfl, hq, j_P1 (hP 1 _ rfl)⟩ jd_cpB_32
def jy_ens : MethodName := ⟨"java/lang/AbstractStringBuilder", "ensureCapacityInternal", "(I)V"⟩
abbrev jc_ens : ByteArray := prog_25_method_9_code
abbrev jr_ens : Option FieldType := (Option.none : Option Jvm.ClassFile.FieldType)
theorem jd_ens_0 : decode jc_ens 0 = .ok (.aload_n 0, 1) := by decide +kernel
theorem jd_ens_1 : decode jc_ens 1 = .ok (.getfield 15, 3) := by decide +kernel
theorem jd_ens_4 : decode jc_ens 4 = .ok (.arraylength, 1) := by decide +kernel
theorem jd_ens_5 : decode jc_ens 5 = .ok (.aload_n 0, 1) := by decide +kernel
theorem jd_ens_6 : decode jc_ens 6 = .ok (.getfield 22, 3) := by decide +kernel
theorem jd_ens_9 : decode jc_ens 9 = .ok (.ishr, 1) := by decide +kernel
theorem jd_ens_10 : decode jc_ens 10 = .ok (.istore_n 2, 1) := by decide +kernel
theorem jd_ens_11 : decode jc_ens 11 = .ok (.iload_n 1, 1) := by decide +kernel
theorem jd_ens_12 : decode jc_ens 12 = .ok (.iload_n 2, 1) := by decide +kernel
theorem jd_ens_13 : decode jc_ens 13 = .ok (.isub, 1) := by decide +kernel
theorem jd_ens_14 : decode jc_ens 14 = .ok (.ifCond .le 24, 3) := by decide +kernel
theorem jd_ens_17 : decode jc_ens 17 = .ok (.aload_n 0, 1) := by decide +kernel
theorem jd_ens_18 : decode jc_ens 18 = .ok (.aload_n 0, 1) := by decide +kernel
theorem jd_ens_19 : decode jc_ens 19 = .ok (.getfield 15, 3) := by decide +kernel
theorem jd_ens_22 : decode jc_ens 22 = .ok (.aload_n 0, 1) := by decide +kernel
theorem jd_ens_23 : decode jc_ens 23 = .ok (.iload_n 1, 1) := by decide +kernel
theorem jd_ens_24 : decode jc_ens 24 = .ok (.invokevirtual 104, 3) := by decide +kernel
theorem jd_ens_27 : decode jc_ens 27 = .ok (.aload_n 0, 1) := by decide +kernel
theorem jd_ens_28 : decode jc_ens 28 = .ok (.getfield 22, 3) := by decide +kernel
theorem jd_ens_31 : decode jc_ens 31 = .ok (.ishl, 1) := by decide +kernel
theorem jd_ens_32 : decode jc_ens 32 = .ok (.invokestatic 108, 3) := by decide +kernel
theorem jd_ens_35 : decode jc_ens 35 = .ok (.putfield 15, 3) := by decide +kernel
theorem jd_ens_38 : decode jc_ens 38 = .ok (.return_, 1) := by decide +kernel
theorem jb_ens : jB jy_ens 1 := by decide +kernel
/-- there is room -/
theorem c_ens0 {a d cap q : Nat} {ml n : Int32} {f : Nat → Int32} (hfz : G.2.2.1 ≤ H.size) (hP : va_P G.1 kcl [jSB a d ml n, jRB G d cap f] H) (hq : q ≤ cap) (hc : cap < 100000) : JM l G jE0 jy_ens jc_ens 3 jr_ens 0 0 [.ref a, .int (nI q)] [] H (jR H none) 0 0 := by
  refine jm_of (by decide +kernel) (Nat.le_of_ble_eq_true rfl) (fun p e R s m args below meth c ls X hH hl hF hL hmc hms => ?_)
  subst hH
  have e1 : nI q - nI cap ≤ 0 := by
    rw [Int32.le_iff_toInt_le, pk_sub_toInt (by omega) (by omega), Int32.toInt_zero]
    omega
  refine lv_aload_n X.1 X.2.1 jd_ens_0 rfl (lv_at hl 0 rfl) ?_
  refine j_get (ci := 22) (q0 := 0) (k := 0) X hP rfl (by decide) (by decide +kernel) (X.w 24 rfl rfl) (fun _ z => z) rfl jd_ens_1 ?_
  refine va_alen X.1 X.2.1 X.kn hP 1 1 rfl rfl (v := nI cap) rfl jd_ens_4 ?_
  refine lv_aload_n X.1 X.2.1 jd_ens_5 rfl (lv_at hl 0 rfl) ?_
  refine j_get (ci := 22) (q0 := 0) (k := 1) X hP rfl (by decide) (by decide +kernel) (X.w 25 rfl rfl) (fun _ z => z) rfl jd_ens_6 ?_
  refine lv_ishr X.1 X.2.1 jd_ens_9 ?_
  refine j_top (sb_shr0 _) ?_
  refine lv_istore_n X.1 X.2.1 jd_ens_10 rfl hl (by decide) rfl (fun ls hl => ?_)
  refine lv_iload_n X.1 X.2.1 jd_ens_11 rfl (lv_at hl 2 rfl) ?_
  refine lv_iload_n X.1 X.2.1 jd_ens_12 rfl (lv_at hl 0 rfl) ?_
  refine lv_isub X.1 X.2.1 jd_ens_13 ?_
  refine lv_if_le (tgt := 38) X.1 X.2.1 jd_ens_14 (by decide) (fun _ => ?_) (fun h9 => absurd (e1) h9)
  exact j_vret X va_S.rf ⟨rfl, rfl⟩ jd_ens_38
theorem c_ens1 {a d cap : Nat} {ml n : Int32} {f : Nat → Int32} (hfz : G.2.2.1 ≤ H.size) (ha : G.2.2.1 ≤ a) (hd1 : G.2.2.1 ≤ d) (hne : a ≠ d) (hP : va_P G.1 kcl [jSB a d ml n, jRB G d cap f] H) (hf : sb_Fit f) (hc : cap < 100000) : JM l G jE0 jy_ens jc_ens 3 jr_ens 3 90 [.ref a, .int (nI (cap + 1))] [a, d] H (fun v1 H1 => v1 = none ∧ ∃ q, H.size ≤ q ∧ va_P G.1 kcl [jSB a q ml n, jRB G q (2 * cap + 2) (va_cpy f (fun _ => 0) 0 0 cap)] H1) 1 (2 * cap + 2) := by
  refine jm_of (by decide +kernel) (Nat.le_of_ble_eq_true rfl) (fun p e R s m args below meth c ls X hH hl hF hL hmc hms => ?_)
  subst hH
  have hA := frz2 hfz ha hd1
  have hal : a < s.heap.size := (hP 0 _ rfl).lt
  have e1 : nI (cap + 1) - nI cap = nI 1 := by
    have k := pk_sub (a := cap + 1) (b := cap) (by omega)
    rw [Nat.add_sub_cancel_left] at k
    exact k
  refine lv_aload_n X.1 X.2.1 jd_ens_0 rfl (lv_at hl 0 rfl) ?_
  refine j_get (ci := 22) (q0 := 0) (k := 0) X hP rfl (by decide) (by decide +kernel) (X.w 24 rfl rfl) (fun _ z => z) rfl jd_ens_1 ?_
  refine va_alen X.1 X.2.1 X.kn hP 1 1 rfl rfl (v := nI cap) rfl jd_ens_4 ?_
  refine lv_aload_n X.1 X.2.1 jd_ens_5 rfl (lv_at hl 0 rfl) ?_
  refine j_get (ci := 22) (q0 := 0) (k := 1) X hP rfl (by decide) (by decide +kernel) (X.w 25 rfl rfl) (fun _ z => z) rfl jd_ens_6 ?_
  refine lv_ishr X.1 X.2.1 jd_ens_9 ?_
  refine j_top (sb_shr0 _) ?_
  refine lv_istore_n X.1 X.2.1 jd_ens_10 rfl hl (by decide) rfl (fun ls hl => ?_)
  refine lv_iload_n X.1 X.2.1 jd_ens_11 rfl (lv_at hl 2 rfl) ?_
  refine lv_iload_n X.1 X.2.1 jd_ens_12 rfl (lv_at hl 0 rfl) ?_
  refine lv_isub X.1 X.2.1 jd_ens_13 ?_
  refine j_top e1 ?_
  refine lv_if_le (tgt := 38) X.1 X.2.1 jd_ens_14 (by decide) (fun h9 => absurd h9 (by decide)) (fun _ => ?_)
  refine lv_aload_n X.1 X.2.1 jd_ens_17 rfl (lv_at hl 1 rfl) ?_
  refine lv_aload_n X.1 X.2.1 jd_ens_18 rfl (lv_at hl 1 rfl) ?_
  refine j_get (ci := 22) (q0 := 0) (k := 0) X hP rfl (by decide) (by decide +kernel) (X.w 24 rfl rfl) (fun _ z => z) rfl jd_ens_19 ?_
  refine lv_aload_n X.1 X.2.1 jd_ens_22 rfl (lv_at hl 1 rfl) ?_
  refine lv_iload_n X.1 X.2.1 jd_ens_23 rfl (lv_at hl 2 rfl) ?_
  refine j_callU a [.int (nI (cap + 1))] [.ref d, .ref a] X hl (jE0_ok s) (c_nCap hfz hP hc) (X.w 96 rfl rfl) (X.w 97 rfl rfl) (X.w 4 rfl rfl) (jw_in _ (List.mem_of_getElem? (i := 98) rfl)) (C := "java/lang/StringBuilder") (j_sel X (by decide +kernel)) (X.w 162 rfl rfl) (j_rc (q0 := 0) X hP rfl (by decide)) jb_nCap ⟨by omega, by omega⟩ ⟨by omega, by omega⟩ (Nat.le_of_ble_eq_true rfl) va_S.rf hA (jA_sub (fun _ h => nomatch h) (Nat.le_refl _)) jd_ens_24 (fun v1 H1 locs hq hz hk hS => ?_)
  obtain ⟨rfl, rfl⟩ := hq
  refine lv_aload_n X.1 X.2.1 jd_ens_27 rfl (lv_at hl 1 rfl) ?_
  refine j_get (ci := 22) (q0 := 0) (k := 1) X hP rfl (by decide) (by decide +kernel) (X.w 25 rfl rfl) (fun _ z => z) rfl jd_ens_28 ?_
  refine lv_ishl X.1 X.2.1 jd_ens_31 ?_
  refine j_top (sb_shl0 _) ?_
  refine j_callS [.ref d, .int (nI (2 * cap + 2))] [.ref a] X hl (jE0_ok s) (c_cpB (cap' := 2 * cap + 2) hfz (j_P1 (hP 1 _ rfl)) hf (by omega) (by omega)) (X.w 107 rfl rfl) (X.w 108 rfl rfl) (X.w 11 rfl rfl) (jw_in _ (List.mem_of_getElem? (i := 109) rfl)) jb_cpB ⟨by omega, by omega⟩ ⟨by omega, by omega⟩ (Nat.le_of_ble_eq_true rfl) hS hA (jA_sub (fun q h => Or.inl (List.mem_cons_of_mem _ h)) (Nat.le_refl _)) jd_ens_32 (fun v1 H1 locs hq hz hk hS => ?_)
  obtain ⟨q, rfl, h1, hP2⟩ := hq
  have hPn : va_P G.1 kcl [jSB a d ml n, jRB G q (2 * cap + 2) (va_cpy f (fun _ => 0) 0 0 cap)] H1 := j_P2 ((hP 0 _ rfl).kept (hk a hal (fun z => hne (List.mem_singleton.mp z)))) (hP2 0 _ rfl)
  have hD : va_D (jA [a, d] s.heap.size) [jSB a d ml n, jRB G q (2 * cap + 2) (va_cpy f (fun _ => 0) 0 0 cap)] := j_D2 (by show a ≠ q; omega) (Or.inl List.mem_cons_self) (Or.inr h1)
  have hP := hPn
  refine j_put (ci := 22) (q0 := 0) (k := 0) X hP hD hS rfl (by decide) (by decide +kernel) (X.w 24 rfl rfl) (fun _ z => z) (by decide +kernel) rfl rfl (Nat.le_of_ble_eq_true rfl) jd_ens_35 (fun H locs hP hD hS => ?_)
  refine W.widen (k := 1) (n := 2 * cap + 2) (by omega) (by omega) ?_
  exact j_vret X hS ⟨rfl, q, h1, hP⟩ jd_ens_38
def jy_bApp : MethodName := ⟨"java/lang/AbstractStringBuilder", "append", "(C)Ljava/lang/AbstractStringBuilder;"⟩
abbrev jc_bApp : ByteArray := prog_25_method_31_code
abbrev jr_bApp : Option FieldType := (Option.some (Jvm.ClassFile.FieldType.object "java/lang/AbstractStringBuilder"))
theorem jd_bApp_0 : decode jc_bApp 0 = .ok (.aload_n 0, 1) := by decide +kernel
theorem jd_bApp_1 : decode jc_bApp 1 = .ok (.aload_n 0, 1) := by decide +kernel
theorem jd_bApp_2 : decode jc_bApp 2 = .ok (.getfield 79, 3) := by decide +kernel
theorem jd_bApp_5 : decode jc_bApp 5 = .ok (.iconst 1, 1) := by decide +kernel
theorem jd_bApp_6 : decode jc_bApp 6 = .ok (.iadd, 1) := by decide +kernel
theorem jd_bApp_7 : decode jc_bApp 7 = .ok (.invokevirtual 100, 3) := by decide +kernel
theorem jd_bApp_10 : decode jc_bApp 10 = .ok (.aload_n 0, 1) := by decide +kernel
theorem jd_bApp_11 : decode jc_bApp 11 = .ok (.invokevirtual 83, 3) := by decide +kernel
theorem jd_bApp_14 : decode jc_bApp 14 = .ok (.ifCond .eq 31, 3) := by decide +kernel
theorem jd_bApp_17 : decode jc_bApp 17 = .ok (.iload_n 1, 1) := by decide +kernel
theorem jd_bApp_18 : decode jc_bApp 18 = .ok (.invokestatic 191, 3) := by decide +kernel
theorem jd_bApp_21 : decode jc_bApp 21 = .ok (.ifCond .eq 24, 3) := by decide +kernel
theorem jd_bApp_24 : decode jc_bApp 24 = .ok (.aload_n 0, 1) := by decide +kernel
theorem jd_bApp_25 : decode jc_bApp 25 = .ok (.getfield 15, 3) := by decide +kernel
theorem jd_bApp_28 : decode jc_bApp 28 = .ok (.aload_n 0, 1) := by decide +kernel
theorem jd_bApp_29 : decode jc_bApp 29 = .ok (.dup, 1) := by decide +kernel
theorem jd_bApp_30 : decode jc_bApp 30 = .ok (.getfield 79, 3) := by decide +kernel
theorem jd_bApp_33 : decode jc_bApp 33 = .ok (.dup_x1, 1) := by decide +kernel
theorem jd_bApp_34 : decode jc_bApp 34 = .ok (.iconst 1, 1) := by decide +kernel
theorem jd_bApp_35 : decode jc_bApp 35 = .ok (.iadd, 1) := by decide +kernel
theorem jd_bApp_36 : decode jc_bApp 36 = .ok (.putfield 79, 3) := by decide +kernel
theorem jd_bApp_39 : decode jc_bApp 39 = .ok (.iload_n 1, 1) := by decide +kernel
theorem jd_bApp_40 : decode jc_bApp 40 = .ok (.i2b, 1) := by decide +kernel
theorem jd_bApp_41 : decode jc_bApp 41 = .ok (.bastore, 1) := by decide +kernel
theorem jd_bApp_42 : decode jc_bApp 42 = .ok (.goto 33, 3) := by decide +kernel
theorem jd_bApp_45 : decode jc_bApp 45 = .ok (.aload_n 0, 1) := by decide +kernel
theorem jd_bApp_46 : decode jc_bApp 46 = .ok (.invokevirtual 83, 3) := by decide +kernel
theorem jd_bApp_49 : decode jc_bApp 49 = .ok (.ifCond .eq 7, 3) := by decide +kernel
theorem jd_bApp_52 : decode jc_bApp 52 = .ok (.aload_n 0, 1) := by decide +kernel
theorem jd_bApp_53 : decode jc_bApp 53 = .ok (.invokevirtual 195, 3) := by decide +kernel
theorem jd_bApp_56 : decode jc_bApp 56 = .ok (.aload_n 0, 1) := by decide +kernel
theorem jd_bApp_57 : decode jc_bApp 57 = .ok (.getfield 15, 3) := by decide +kernel
theorem jd_bApp_60 : decode jc_bApp 60 = .ok (.aload_n 0, 1) := by decide +kernel
theorem jd_bApp_61 : decode jc_bApp 61 = .ok (.dup, 1) := by decide +kernel
theorem jd_bApp_62 : decode jc_bApp 62 = .ok (.getfield 79, 3) := by decide +kernel
theorem jd_bApp_65 : decode jc_bApp 65 = .ok (.dup_x1, 1) := by decide +kernel
theorem jd_bApp_66 : decode jc_bApp 66 = .ok (.iconst 1, 1) := by decide +kernel
theorem jd_bApp_67 : decode jc_bApp 67 = .ok (.iadd, 1) := by decide +kernel
theorem jd_bApp_68 : decode jc_bApp 68 = .ok (.putfield 79, 3) := by decide +kernel
theorem jd_bApp_71 : decode jc_bApp 71 = .ok (.iload_n 1, 1) := by decide +kernel
theorem jd_bApp_72 : decode jc_bApp 72 = .ok (.invokestatic 197, 3) := by decide +kernel
theorem jd_bApp_75 : decode jc_bApp 75 = .ok (.aload_n 0, 1) := by decide +kernel
theorem jd_bApp_76 : decode jc_bApp 76 = .ok (.areturn, 1) := by decide +kernel
theorem jb_bApp : jB jy_bApp 1 := by decide +kernel
/-- the end of append, from where there is room -/
theorem t_app {E : State → Prop} {p : Program} {e : Env} {R : Room} {s : State} {m : MethodId} {args : Array Value} {below : List Frame} {meth : Method} {c : Code} {locs : List Loc} {cells slots mc' ms' : Nat} {ls : Array Slot} {a q n cap : Nat} {ml x : Int32} {f : Nat → Int32} {fr : List Nat} {QQ : Option Value → Heap → Prop} {lv : List (Nat × Value)}
    (X : JX G E p s m meth c jy_bApp.cls jc_bApp 2 jr_bApp) (hl : lv_has ls 2 lv) (h0 : ls[0]? = some (.val (.ref a))) (h1 : ls[1]? = some (.val (.int x))) (hfz : G.2.2.1 ≤ H.size) (hA : ∀ q, jA fr s.heap.size q → frz G q) (hF : 5 ≤ R.frames) (hL : 130 ≤ R.locals) (hcs : cells ≤ R.cells ∧ slots ≤ R.slots)
    (hP : va_P G.1 kcl [jSB a q ml (nI n), jRB G q cap f] H) (hD : va_D (jA fr s.heap.size) [jSB a q ml (nI n), jRB G q cap f]) (hS : va_S (jA fr s.heap.size) s.heap H locs) (hn : n < cap) (hc : cap < 300000) (hx : ¬ 255 < x) (hm : cells ≤ mc' ∧ slots ≤ ms')
    (hq : ∀ H1, va_P G.1 kcl [jSB a q ml (nI (n + 1)), jRB G q cap (upd f n x.toInt8.toInt32)] H1 → QQ (some (.ref a)) H1) : W p l e R s m args below meth c H locs cells slots (MQ below (jQ fr QQ) args s mc' ms' (jA fr s.heap.size)) (F0 m 10 ls []) := by
  refine lv_aload_n X.1 X.2.1 jd_bApp_10 rfl h0 ?_
  refine j_callU a [] [] X hl (jE0_ok s) (c_bL1 hfz hP) (X.w 114 rfl rfl) (X.w 115 rfl rfl) (X.w 4 rfl rfl) (jw_in _ (List.mem_of_getElem? (i := 118) rfl)) (X.w 117 rfl rfl) (X.w 116 rfl rfl) (j_rc (q0 := 0) X hP rfl (by decide)) jb_bL1 ⟨by omega, by omega⟩ ⟨by omega, by omega⟩ (Nat.zero_le _) hS hA (jA_sub (fun _ h => nomatch h) hS.1) jd_bApp_11 (fun v1 H1 locs2 hq hz hk hS2 => ?_)
  obtain ⟨rfl, e9⟩ := hq
  rw [e9] at hS2 ⊢
  clear hk hz e9 H1 hS
  have hS := hS2
  refine lv_if_eq (tgt := 45) X.1 X.2.1 jd_bApp_14 (by decide) (fun h9 => absurd h9 (by decide)) (fun _ => ?_)
  refine lv_iload_n X.1 X.2.1 jd_bApp_17 rfl h1 ?_
  refine j_callS [.int x] [] X hl (jE0_ok s) (c_cEn hx) (X.w 119 rfl rfl) (X.w 120 rfl rfl) (X.w 13 rfl rfl) (jw_in _ (List.mem_of_getElem? (i := 121) rfl)) jb_cEn ⟨by omega, by omega⟩ ⟨by omega, by omega⟩ (Nat.zero_le _) hS hA (jA_sub (fun _ h => nomatch h) hS.1) jd_bApp_18 (fun v1 H1 locs2 hq hz hk hS2 => ?_)
  obtain ⟨rfl, e9⟩ := hq
  rw [e9] at hS2 ⊢
  clear hk hz e9 H1 hS
  have hS := hS2
  refine lv_if_eq (tgt := 45) X.1 X.2.1 jd_bApp_21 (by decide) (fun h9 => absurd h9 (by decide)) (fun _ => ?_)
  refine lv_aload_n X.1 X.2.1 jd_bApp_24 rfl h0 ?_
  refine j_get (ci := 22) (q0 := 0) (k := 0) X hP rfl (by decide) (by decide +kernel) (X.w 24 rfl rfl) (fun _ z => z) rfl jd_bApp_25 ?_
  refine lv_aload_n X.1 X.2.1 jd_bApp_28 rfl h0 ?_
  refine lv_dup X.1 X.2.1 jd_bApp_29 rfl ?_
  refine j_get (ci := 22) (q0 := 0) (k := 3) X hP rfl (by decide) (by decide +kernel) (X.w 27 rfl rfl) (fun _ z => z) rfl jd_bApp_30 ?_
  refine lv_dup_x1 X.1 X.2.1 jd_bApp_33 rfl rfl ?_
  refine lv_iconst (v := 1) X.1 X.2.1 jd_bApp_34 (by decide) ?_
  refine lv_iadd X.1 X.2.1 jd_bApp_35 ?_
  refine j_top (nI_1 n) ?_
  refine j_put (ci := 22) (q0 := 0) (k := 3) X hP hD hS rfl (by decide) (by decide +kernel) (X.w 27 rfl rfl) (fun _ z => z) (by decide +kernel) rfl rfl (Nat.le_of_ble_eq_true rfl) jd_bApp_36 (fun H locs hP hD hS => ?_)
  refine lv_iload_n X.1 X.2.1 jd_bApp_39 rfl h1 ?_
  refine lv_i2b (v := x.toInt8.toInt32) X.1 X.2.1 jd_bApp_40 rfl ?_
  refine va_bast X.1 X.2.1 X.kn hP hD hS 1 1 rfl rfl (vp_in_nI hn (by omega)) jd_bApp_41 (fun H locs hP hD hS => ?_)
  rw [nI_clamp (by omega), pk_vb] at hP hD
  refine lv_goto (tgt := 75) X.1 X.2.1 jd_bApp_42 (by decide) ?_
  refine lv_aload_n X.1 X.2.1 jd_bApp_75 rfl h0 ?_
  refine W.widen (k := mc') (n := ms') (by omega) (by omega) ?_
  exact j_aret X (Or.inl ⟨_, rfl⟩) (Or.inr ⟨_, rfl⟩) hS (hq _ hP) jd_bApp_76
abbrev jAp (G : Geo) (a : Nat) (ml : Int32) (n cap' : Nat) (f' : Nat → Int32) (P : Nat → Prop) : Option Value → Heap → Prop := fun v1 H1 => v1 = some (.ref a) ∧ ∃ q, P q ∧ va_P G.1 kcl [jSB a q ml (nI n), jRB G q cap' f'] H1
theorem c_bApp0 {a d n cap : Nat} {ml x : Int32} {f : Nat → Int32} (hfz : G.2.2.1 ≤ H.size) (ha : G.2.2.1 ≤ a) (hd1 : G.2.2.1 ≤ d) (hne : a ≠ d) (hP : va_P G.1 kcl [jSB a d ml (nI n), jRB G d cap f] H) (hn : n < cap) (hc : cap < 100000) (hx : ¬ 255 < x) : JM l G jE0 jy_bApp jc_bApp 2 jr_bApp 5 130 [.ref a, .int x] [a, d] H (jAp G a ml (n + 1) cap (upd f n x.toInt8.toInt32) (fun q => q = d)) 0 0 := by
  refine jm_of (by decide +kernel) (Nat.le_of_ble_eq_true rfl) (fun p e R s m args below meth c ls X hH hl hF hL hmc hms => ?_)
  subst hH
  have hA := frz2 hfz ha hd1
  have hD : va_D (jA [a, d] s.heap.size) [jSB a d ml (nI n), jRB G d cap f] := j_D2 hne (Or.inl List.mem_cons_self) (Or.inl (List.mem_cons_of_mem _ List.mem_cons_self))
  refine lv_aload_n X.1 X.2.1 jd_bApp_0 rfl (lv_at hl 0 rfl) ?_
  refine lv_aload_n X.1 X.2.1 jd_bApp_1 rfl (lv_at hl 0 rfl) ?_
  refine j_get (ci := 22) (q0 := 0) (k := 3) X hP rfl (by decide) (by decide +kernel) (X.w 27 rfl rfl) (fun _ z => z) rfl jd_bApp_2 ?_
  refine lv_iconst (v := 1) X.1 X.2.1 jd_bApp_5 (by decide) ?_
  refine lv_iadd X.1 X.2.1 jd_bApp_6 ?_
  refine j_top (nI_1 n) ?_
  refine j_callU a [.int (nI (n + 1))] [] X hl (jE0_ok s) (c_ens0 hfz hP (by omega) hc) (X.w 93 rfl rfl) (X.w 94 rfl rfl) (X.w 4 rfl rfl) (jw_in _ (List.mem_of_getElem? (i := 95) rfl)) (C := "java/lang/StringBuilder") (j_sel X (by decide +kernel)) (X.w 161 rfl rfl) (j_rc (q0 := 0) X hP rfl (by decide)) jb_ens ⟨by omega, by omega⟩ ⟨by omega, by omega⟩ (Nat.zero_le _) va_S.rf hA (jA_sub (fun _ h => nomatch h) (Nat.le_refl _)) jd_bApp_7 (fun v1 H1 locs hq hz hk hS => ?_)
  obtain ⟨rfl, rfl⟩ := hq
  exact t_app X hl (lv_at hl 0 rfl) (lv_at hl 1 rfl) hfz hA hF hL ⟨by omega, by omega⟩ hP hD hS hn (by omega) hx ⟨Nat.le_refl _, Nat.le_refl _⟩ (fun H1 h => ⟨rfl, d, rfl, h⟩)
theorem c_bApp1 {a d cap : Nat} {ml x : Int32} {f : Nat → Int32} (hfz : G.2.2.1 ≤ H.size) (ha : G.2.2.1 ≤ a) (hd1 : G.2.2.1 ≤ d) (hne : a ≠ d) (hP : va_P G.1 kcl [jSB a d ml (nI cap), jRB G d cap f] H) (hf : sb_Fit f) (hc : cap < 100000) (hx : ¬ 255 < x) : JM l G jE0 jy_bApp jc_bApp 2 jr_bApp 5 130 [.ref a, .int x] [a, d] H (jAp G a ml (cap + 1) (2 * cap + 2) (upd (va_cpy f (fun _ => 0) 0 0 cap) cap x.toInt8.toInt32) (fun q => H.size ≤ q)) 1 (2 * cap + 2) := by
  refine jm_of (by decide +kernel) (Nat.le_of_ble_eq_true rfl) (fun p e R s m args below meth c ls X hH hl hF hL hmc hms => ?_)
  subst hH
  have hA := frz2 hfz ha hd1
  refine lv_aload_n X.1 X.2.1 jd_bApp_0 rfl (lv_at hl 0 rfl) ?_
  refine lv_aload_n X.1 X.2.1 jd_bApp_1 rfl (lv_at hl 0 rfl) ?_
  refine j_get (ci := 22) (q0 := 0) (k := 3) X hP rfl (by decide) (by decide +kernel) (X.w 27 rfl rfl) (fun _ z => z) rfl jd_bApp_2 ?_
  refine lv_iconst (v := 1) X.1 X.2.1 jd_bApp_5 (by decide) ?_
  refine lv_iadd X.1 X.2.1 jd_bApp_6 ?_
  refine j_top (nI_1 cap) ?_
  refine j_callU a [.int (nI (cap + 1))] [] X hl (jE0_ok s) (c_ens1 hfz ha hd1 hne hP hf hc) (X.w 93 rfl rfl) (X.w 94 rfl rfl) (X.w 4 rfl rfl) (jw_in _ (List.mem_of_getElem? (i := 95) rfl)) (C := "java/lang/StringBuilder") (j_sel X (by decide +kernel)) (X.w 161 rfl rfl) (j_rc (q0 := 0) X hP rfl (by decide)) jb_ens ⟨by omega, by omega⟩ ⟨by omega, by omega⟩ (Nat.zero_le _) va_S.rf hA (jA_sub (fun q h => Or.inl h) (Nat.le_refl _)) jd_bApp_7 (fun v1 H1 locs hq hz hk hS => ?_)
  obtain ⟨rfl, q, h1, hP2⟩ := hq
  have hD : va_D (jA [a, d] s.heap.size) [jSB a q ml (nI cap), jRB G q (2 * cap + 2) (va_cpy f (fun _ => 0) 0 0 cap)] := j_D2 (by have : a < s.heap.size := (hP 0 _ rfl).lt; show a ≠ q; omega) (Or.inl List.mem_cons_self) (Or.inr h1)
  exact t_app X hl (lv_at hl 0 rfl) (lv_at hl 1 rfl) (Nat.le_trans hfz hz) hA hF hL ⟨by omega, by omega⟩ hP2 hD hS (by omega) (by omega) hx ⟨by omega, by omega⟩ (fun H1 h => ⟨rfl, q, h1, h⟩)
def jy_sApp : MethodName := ⟨"java/lang/StringBuilder", "append", "(C)Ljava/lang/StringBuilder;"⟩
abbrev jc_sApp : ByteArray := prog_41_method_14_code
abbrev jr_sApp : Option FieldType := (Option.some (Jvm.ClassFile.FieldType.object "java/lang/StringBuilder"))
theorem jd_sApp_0 : decode jc_sApp 0 = .ok (.aload_n 0, 1) := by decide +kernel
theorem jd_sApp_1 : decode jc_sApp 1 = .ok (.iload_n 1, 1) := by decide +kernel
theorem jd_sApp_2 : decode jc_sApp 2 = .ok (.invokespecial 50, 3) := by decide +kernel
theorem jd_sApp_5 : decode jc_sApp 5 = .ok (.pop, 1) := by decide +kernel
theorem jd_sApp_6 : decode jc_sApp 6 = .ok (.aload_n 0, 1) := by decide +kernel
theorem jd_sApp_7 : decode jc_sApp 7 = .ok (.areturn, 1) := by decide +kernel
theorem jb_sApp : jB jy_sApp 1 := by decide +kernel
theorem c_sApp {a mc' ms' : Nat} {x : Int32} {fr : List Nat} {ws : va_W} {fs : List Value} {Q3 : Heap → Prop} (hfz : G.2.2.1 ≤ H.size) (hfr : ∀ q ∈ fr, G.2.2.1 ≤ q) (hP : va_P G.1 kcl ((a, .inr (22, fs)) :: ws) H)
    (h3 : JM l G jE0 jy_bApp jc_bApp 2 jr_bApp 5 130 [.ref a, .int x] fr H (fun v3 H1 => v3 = some (.ref a) ∧ Q3 H1) mc' ms') : JM l G jE0 jy_sApp jc_sApp 2 jr_sApp 6 160 [.ref a, .int x] fr H (fun v1 H1 => v1 = some (.ref a) ∧ Q3 H1) mc' ms' := by
  refine jm_of (by decide +kernel) (Nat.le_of_ble_eq_true rfl) (fun p e R s m args below meth c ls X hH hl hF hL hmc hms => ?_)
  subst hH
  have hA := jA_frz hfr hfz
  refine lv_aload_n X.1 X.2.1 jd_sApp_0 rfl (lv_at hl 0 rfl) ?_
  refine lv_iload_n X.1 X.2.1 jd_sApp_1 rfl (lv_at hl 1 rfl) ?_
  refine j_callSU a [.int x] [] X hl (jE0_ok s) h3 (X.w 90 rfl rfl) (X.w 91 rfl rfl) (X.w 4 rfl rfl) (jw_in _ (List.mem_of_getElem? (i := 92) rfl)) (X.w 28 rfl rfl) (X.w 160 rfl rfl) (j_at X) (j_rc (q0 := 0) X hP rfl (by decide)) jb_bApp (by decide) ⟨by omega, by omega⟩ ⟨by omega, by omega⟩ (Nat.zero_le _) va_S.rf hA (jA_sub (fun q h => Or.inl h) (Nat.le_refl _)) jd_sApp_2 (fun v1 H1 locs hq hz hk hS => ?_)
  obtain ⟨rfl, h9⟩ := hq
  refine lv_pop X.1 X.2.1 jd_sApp_5 rfl ?_
  refine lv_aload_n X.1 X.2.1 jd_sApp_6 rfl (lv_at hl 0 rfl) ?_
  refine W.widen (k := mc') (n := ms') (by omega) (by omega) ?_
  exact j_aret X (Or.inl ⟨_, rfl⟩) (Or.inr ⟨_, rfl⟩) hS ⟨rfl, h9⟩ jd_sApp_7
def jy_bSet : MethodName := ⟨"java/lang/AbstractStringBuilder", "setLength", "(I)V"⟩
abbrev jc_bSet : ByteArray := prog_25_method_13_code
abbrev jr_bSet : Option FieldType := (Option.none : Option Jvm.ClassFile.FieldType)
theorem jd_bSet_0 : decode jc_bSet 0 = .ok (.iload_n 1, 1) := by decide +kernel
theorem jd_bSet_1 : decode jc_bSet 1 = .ok (.ifCond .ge 12, 3) := by decide +kernel
theorem jd_bSet_4 : decode jc_bSet 4 = .ok (.new 129, 3) := by decide +kernel
theorem jd_bSet_7 : decode jc_bSet 7 = .ok (.dup, 1) := by decide +kernel
theorem jd_bSet_8 : decode jc_bSet 8 = .ok (.iload_n 1, 1) := by decide +kernel
theorem jd_bSet_9 : decode jc_bSet 9 = .ok (.invokespecial 131, 3) := by decide +kernel
theorem jd_bSet_12 : decode jc_bSet 12 = .ok (.athrow, 1) := by decide +kernel
theorem jd_bSet_13 : decode jc_bSet 13 = .ok (.aload_n 0, 1) := by decide +kernel
theorem jd_bSet_14 : decode jc_bSet 14 = .ok (.iload_n 1, 1) := by decide +kernel
theorem jd_bSet_15 : decode jc_bSet 15 = .ok (.invokevirtual 100, 3) := by decide +kernel
theorem jd_bSet_18 : decode jc_bSet 18 = .ok (.aload_n 0, 1) := by decide +kernel
theorem jd_bSet_19 : decode jc_bSet 19 = .ok (.getfield 79, 3) := by decide +kernel
theorem jd_bSet_22 : decode jc_bSet 22 = .ok (.iload_n 1, 1) := by decide +kernel
theorem jd_bSet_23 : decode jc_bSet 23 = .ok (.if_icmp .ge 40, 3) := by decide +kernel
theorem jd_bSet_26 : decode jc_bSet 26 = .ok (.aload_n 0, 1) := by decide +kernel
theorem jd_bSet_27 : decode jc_bSet 27 = .ok (.invokevirtual 83, 3) := by decide +kernel
theorem jd_bSet_30 : decode jc_bSet 30 = .ok (.ifCond .eq 18, 3) := by decide +kernel
theorem jd_bSet_33 : decode jc_bSet 33 = .ok (.aload_n 0, 1) := by decide +kernel
theorem jd_bSet_34 : decode jc_bSet 34 = .ok (.getfield 15, 3) := by decide +kernel
theorem jd_bSet_37 : decode jc_bSet 37 = .ok (.aload_n 0, 1) := by decide +kernel
theorem jd_bSet_38 : decode jc_bSet 38 = .ok (.getfield 79, 3) := by decide +kernel
theorem jd_bSet_41 : decode jc_bSet 41 = .ok (.iload_n 1, 1) := by decide +kernel
theorem jd_bSet_42 : decode jc_bSet 42 = .ok (.invokestatic 133, 3) := by decide +kernel
theorem jd_bSet_45 : decode jc_bSet 45 = .ok (.goto 31, 3) := by decide +kernel
theorem jd_bSet_48 : decode jc_bSet 48 = .ok (.aload_n 0, 1) := by decide +kernel
theorem jd_bSet_49 : decode jc_bSet 49 = .ok (.getfield 15, 3) := by decide +kernel
theorem jd_bSet_52 : decode jc_bSet 52 = .ok (.aload_n 0, 1) := by decide +kernel
theorem jd_bSet_53 : decode jc_bSet 53 = .ok (.getfield 79, 3) := by decide +kernel
theorem jd_bSet_56 : decode jc_bSet 56 = .ok (.iload_n 1, 1) := by decide +kernel
theorem jd_bSet_57 : decode jc_bSet 57 = .ok (.invokestatic 137, 3) := by decide +kernel
theorem jd_bSet_60 : decode jc_bSet 60 = .ok (.goto 16, 3) := by decide +kernel
theorem jd_bSet_63 : decode jc_bSet 63 = .ok (.aload_n 0, 1) := by decide +kernel
theorem jd_bSet_64 : decode jc_bSet 64 = .ok (.getfield 79, 3) := by decide +kernel
theorem jd_bSet_67 : decode jc_bSet 67 = .ok (.iload_n 1, 1) := by decide +kernel
theorem jd_bSet_68 : decode jc_bSet 68 = .ok (.if_icmp .le 8, 3) := by decide +kernel
theorem jd_bSet_71 : decode jc_bSet 71 = .ok (.aload_n 0, 1) := by decide +kernel
theorem jd_bSet_72 : decode jc_bSet 72 = .ok (.iconst 1, 1) := by decide +kernel
theorem jd_bSet_73 : decode jc_bSet 73 = .ok (.putfield 73, 3) := by decide +kernel
theorem jd_bSet_76 : decode jc_bSet 76 = .ok (.aload_n 0, 1) := by decide +kernel
theorem jd_bSet_77 : decode jc_bSet 77 = .ok (.iload_n 1, 1) := by decide +kernel
theorem jd_bSet_78 : decode jc_bSet 78 = .ok (.putfield 79, 3) := by decide +kernel
theorem jd_bSet_81 : decode jc_bSet 81 = .ok (.return_, 1) := by decide +kernel
theorem jb_bSet : jB jy_bSet 1 := by decide +kernel
theorem c_bSet {a d n cap : Nat} {ml : Int32} {f : Nat → Int32} (hfz : G.2.2.1 ≤ H.size) (ha : G.2.2.1 ≤ a) (hd1 : G.2.2.1 ≤ d) (hne : a ≠ d) (hP : va_P G.1 kcl [jSB a d ml (nI n), jRB G d cap f] H) (hn : n ≤ cap) (hc : cap < 100000) : JM l G jE0 jy_bSet jc_bSet 2 jr_bSet 1 40 [.ref a, .int 0] [a, d] H (fun v1 H1 => v1 = none ∧ ∃ ml', va_P G.1 kcl [jSB a d ml' (nI 0), jRB G d cap f] H1) 0 0 := by
  refine jm_of (by decide +kernel) (Nat.le_of_ble_eq_true rfl) (fun p e R s m args below meth c ls X hH hl hF hL hmc hms => ?_)
  subst hH
  have hA := frz2 hfz ha hd1
  have hD : va_D (jA [a, d] s.heap.size) [jSB a d ml (nI n), jRB G d cap f] := j_D2 hne (Or.inl List.mem_cons_self) (Or.inl (List.mem_cons_of_mem _ List.mem_cons_self))
  refine lv_iload_n X.1 X.2.1 jd_bSet_0 rfl (lv_at hl 1 rfl) ?_
  refine lv_if_ge (tgt := 13) X.1 X.2.1 jd_bSet_1 (by decide) (fun _ => ?_) (fun h9 => absurd (Int32.le_refl 0) h9)
  refine lv_aload_n X.1 X.2.1 jd_bSet_13 rfl (lv_at hl 0 rfl) ?_
  refine lv_iload_n X.1 X.2.1 jd_bSet_14 rfl (lv_at hl 1 rfl) ?_
  refine j_callU a [.int 0] [] X hl (jE0_ok s) (c_ens0 (q := 0) hfz hP (by omega) hc) (X.w 93 rfl rfl) (X.w 94 rfl rfl) (X.w 4 rfl rfl) (jw_in _ (List.mem_of_getElem? (i := 95) rfl)) (C := "java/lang/StringBuilder") (j_sel X (by decide +kernel)) (X.w 161 rfl rfl) (j_rc (q0 := 0) X hP rfl (by decide)) jb_ens ⟨by omega, by omega⟩ ⟨by omega, by omega⟩ (Nat.zero_le _) va_S.rf hA (jA_sub (fun _ h => nomatch h) (Nat.le_refl _)) jd_bSet_15 (fun v1 H1 locs hq hz hk hS => ?_)
  obtain ⟨rfl, rfl⟩ := hq
  refine lv_aload_n X.1 X.2.1 jd_bSet_18 rfl (lv_at hl 0 rfl) ?_
  refine j_get (ci := 22) (q0 := 0) (k := 3) X hP rfl (by decide) (by decide +kernel) (X.w 27 rfl rfl) (fun _ z => z) rfl jd_bSet_19 ?_
  refine lv_iload_n X.1 X.2.1 jd_bSet_22 rfl (lv_at hl 1 rfl) ?_
  refine lv_icmp_ge (tgt := 63) X.1 X.2.1 jd_bSet_23 (by decide) (fun _ => ?_) (fun h9 => absurd ((nI_leI (a := 0) (by omega) (by omega)).mpr (Nat.zero_le _)) h9)
  refine lv_aload_n X.1 X.2.1 jd_bSet_63 rfl (lv_at hl 0 rfl) ?_
  refine j_get (ci := 22) (q0 := 0) (k := 3) X hP rfl (by decide) (by decide +kernel) (X.w 27 rfl rfl) (fun _ z => z) rfl jd_bSet_64 ?_
  refine lv_iload_n X.1 X.2.1 jd_bSet_67 rfl (lv_at hl 1 rfl) ?_
  refine lv_icmp_le (tgt := 76) X.1 X.2.1 jd_bSet_68 (by decide) (fun c1 => ?_) (fun c1 => ?_)
  · refine lv_aload_n X.1 X.2.1 jd_bSet_76 rfl (lv_at hl 0 rfl) ?_
    refine lv_iload_n X.1 X.2.1 jd_bSet_77 rfl (lv_at hl 1 rfl) ?_
    refine j_put (ci := 22) (q0 := 0) (k := 3) X hP hD hS rfl (by decide) (by decide +kernel) (X.w 27 rfl rfl) (fun _ z => z) (by decide +kernel) rfl rfl (Nat.le_of_ble_eq_true rfl) jd_bSet_78 (fun H locs hP hD hS => ?_)
    exact j_vret X hS ⟨rfl, _, hP⟩ jd_bSet_81
  · refine lv_aload_n X.1 X.2.1 jd_bSet_71 rfl (lv_at hl 0 rfl) ?_
    refine lv_iconst (v := 1) X.1 X.2.1 jd_bSet_72 (by decide) ?_
    refine j_put (ci := 22) (q0 := 0) (k := 2) X hP hD hS rfl (by decide) (by decide +kernel) (X.w 26 rfl rfl) (fun _ z => z) (by decide +kernel) rfl rfl (Nat.le_of_ble_eq_true rfl) jd_bSet_73 (fun H locs hP hD hS => ?_)
    refine lv_aload_n X.1 X.2.1 jd_bSet_76 rfl (lv_at hl 0 rfl) ?_
    refine lv_iload_n X.1 X.2.1 jd_bSet_77 rfl (lv_at hl 1 rfl) ?_
    refine j_put (ci := 22) (q0 := 0) (k := 3) X hP hD hS rfl (by decide) (by decide +kernel) (X.w 27 rfl rfl) (fun _ z => z) (by decide +kernel) rfl rfl (Nat.le_of_ble_eq_true rfl) jd_bSet_78 (fun H locs hP hD hS => ?_)
    exact j_vret X hS ⟨rfl, _, hP⟩ jd_bSet_81
def jy_sSet : MethodName := ⟨"java/lang/StringBuilder", "setLength", "(I)V"⟩
abbrev jc_sSet : ByteArray := prog_41_method_89_code
abbrev jr_sSet : Option FieldType := (Option.none : Option Jvm.ClassFile.FieldType)
theorem jd_sSet_0 : decode jc_sSet 0 = .ok (.aload_n 0, 1) := by decide +kernel
theorem jd_sSet_1 : decode jc_sSet 1 = .ok (.iload_n 1, 1) := by decide +kernel
theorem jd_sSet_2 : decode jc_sSet 2 = .ok (.invokespecial 333, 3) := by decide +kernel
theorem jd_sSet_5 : decode jc_sSet 5 = .ok (.return_, 1) := by decide +kernel
theorem jb_sSet : jB jy_sSet 1 := by decide +kernel
theorem c_sSet {a d n cap : Nat} {ml : Int32} {f : Nat → Int32} (hfz : G.2.2.1 ≤ H.size) (ha : G.2.2.1 ≤ a) (hd1 : G.2.2.1 ≤ d) (hne : a ≠ d) (hP : va_P G.1 kcl [jSB a d ml (nI n), jRB G d cap f] H) (hn : n ≤ cap) (hc : cap < 100000) : JM l G jE0 jy_sSet jc_sSet 2 jr_sSet 2 70 [.ref a, .int 0] [a, d] H (fun v1 H1 => v1 = none ∧ ∃ ml', va_P G.1 kcl [jSB a d ml' (nI 0), jRB G d cap f] H1) 0 0 := by
  refine jm_of (by decide +kernel) (Nat.le_of_ble_eq_true rfl) (fun p e R s m args below meth c ls X hH hl hF hL hmc hms => ?_)
  subst hH
  have hA := frz2 hfz ha hd1
  refine lv_aload_n X.1 X.2.1 jd_sSet_0 rfl (lv_at hl 0 rfl) ?_
  refine lv_iload_n X.1 X.2.1 jd_sSet_1 rfl (lv_at hl 1 rfl) ?_
  refine j_callSU a [.int 0] [] X hl (jE0_ok s) (c_bSet hfz ha hd1 hne hP hn hc) (X.w 123 rfl rfl) (X.w 124 rfl rfl) (X.w 4 rfl rfl) (jw_in _ (List.mem_of_getElem? (i := 125) rfl)) (X.w 28 rfl rfl) (X.w 163 rfl rfl) (j_at X) (j_rc (q0 := 0) X hP rfl (by decide)) jb_bSet (by decide) ⟨by omega, by omega⟩ ⟨by omega, by omega⟩ (Nat.zero_le _) va_S.rf hA (jA_sub (fun q h => Or.inl h) (Nat.le_refl _)) jd_sSet_2 (fun v1 H1 locs hq hz hk hS => ?_)
  obtain ⟨rfl, h9⟩ := hq
  exact j_vret X hS ⟨rfl, h9⟩ jd_sSet_5
end JSBW
