/-! ===== string builders: the methods that write ===== -/
section JSBW
variable {l : Launch} {G : Geo} {H : Heap}
theorem j_sel {E : State → Prop} {p : Program} {s : State} {m : MethodId} {args : Array Value} {meth : Method} {c : Code} {own : String} {cc : ByteArray} {nL : Nat} {ret : Option FieldType} (X : JX G E p s m meth c own cc nL ret) {y : MethodName} (hy : y ∈ sbPr) : (Cond.selects "java/lang/StringBuilder" y y).before args s = true := okW_at rfl (State.WarmedH.refl s) (X.2.2.2.2.2.2.1.1.2.2.2.2.2.2.2.2.2.2.2 y hy)
abbrev jS0 (a : Nat) (v : Value) (x y n : Int32) : Nat × va_E := (a, .inr (22, [v, .int x, .int y, .int n]))
def jy_bIn : MethodName := ⟨"java/lang/AbstractStringBuilder", "<init>", "(I)V"⟩
abbrev jc_bIn : ByteArray := prog_25_method_2_code
abbrev jr_bIn : Option FieldType := (Option.none : Option Jvm.ClassFile.FieldType)
theorem jd_bIn_0 : decode jc_bIn 0 = .ok (.aload_n 0, 1) := by decide +kernel
theorem jd_bIn_1 : decode jc_bIn 1 = .ok (.invokespecial 3, 3) := by decide +kernel
theorem jd_bIn_4 : decode jc_bIn 4 = .ok (.getstatic 18, 3) := by decide +kernel
theorem jd_bIn_7 : decode jc_bIn 7 = .ok (.ifCond .eq 18, 3) := by decide +kernel
theorem jd_bIn_10 : decode jc_bIn 10 = .ok (.aload_n 0, 1) := by decide +kernel
theorem jd_bIn_11 : decode jc_bIn 11 = .ok (.iload_n 1, 1) := by decide +kernel
theorem jd_bIn_12 : decode jc_bIn 12 = .ok (.newarray .byte, 2) := by decide +kernel
theorem jd_bIn_14 : decode jc_bIn 14 = .ok (.putfield 15, 3) := by decide +kernel
theorem jd_bIn_17 : decode jc_bIn 17 = .ok (.aload_n 0, 1) := by decide +kernel
theorem jd_bIn_18 : decode jc_bIn 18 = .ok (.iconst 0, 1) := by decide +kernel
theorem jd_bIn_19 : decode jc_bIn 19 = .ok (.putfield 22, 3) := by decide +kernel
theorem jd_bIn_22 : decode jc_bIn 22 = .ok (.goto 16, 3) := by decide +kernel
theorem jd_bIn_25 : decode jc_bIn 25 = .ok (.aload_n 0, 1) := by decide +kernel
theorem jd_bIn_26 : decode jc_bIn 26 = .ok (.iload_n 1, 1) := by decide +kernel
theorem jd_bIn_27 : decode jc_bIn 27 = .ok (.invokestatic 26, 3) := by decide +kernel
theorem jd_bIn_30 : decode jc_bIn 30 = .ok (.putfield 15, 3) := by decide +kernel
theorem jd_bIn_33 : decode jc_bIn 33 = .ok (.aload_n 0, 1) := by decide +kernel
theorem jd_bIn_34 : decode jc_bIn 34 = .ok (.iconst 1, 1) := by decide +kernel
theorem jd_bIn_35 : decode jc_bIn 35 = .ok (.putfield 22, 3) := by decide +kernel
theorem jd_bIn_38 : decode jc_bIn 38 = .ok (.return_, 1) := by decide +kernel
theorem jb_bIn : jB jy_bIn 1 := by decide +kernel
theorem c_bIn {a : Nat} {v : Value} {x y n : Int32} (hfz : G.2.2.1 ≤ H.size) (ha : G.2.2.1 ≤ a) (hP : va_P G.1 kcl [jS0 a v x y n] H) : JM l G jE0 jy_bIn jc_bIn 2 jr_bIn 1 20 [.ref a, .int 16] [a] H (fun v1 H1 => v1 = none ∧ ∃ q, H.size ≤ q ∧ va_P G.1 kcl [jSB a q y n, jRB G q 16 (fun _ => 0)] H1) 1 16 := by
  refine jm_of (by decide +kernel) (Nat.le_of_ble_eq_true rfl) (fun p e R s m args below meth c ls X hH hl hF hL hmc hms => ?_)
  subst hH
  have hA := jA_frz (G := G) (fr := [a]) (fun q h => by rw [List.mem_singleton.mp h]; exact ha) hfz
  have hD : va_D (jA [a] s.heap.size) [jS0 a v x y n] := j_D1 (Or.inl List.mem_cons_self)
  refine lv_aload_n X.1 X.2.1 jd_bIn_0 rfl (lv_at hl 0 rfl) ?_
  refine j_oin X hl (X.w 22 rfl rfl) (X.w 16 rfl rfl) (X.w 17 rfl rfl) ⟨by omega, by omega⟩ jd_bIn_1 ?_
  refine j_cs X hA va_S.rf (X.w 23 rfl rfl) jd_bIn_4 ?_
  refine lv_if_eq (tgt := 25) X.1 X.2.1 jd_bIn_7 (by decide) (fun h9 => absurd h9 (by decide)) (fun _ => ?_)
  refine lv_aload_n X.1 X.2.1 jd_bIn_10 rfl (lv_at hl 0 rfl) ?_
  refine lv_iload_n X.1 X.2.1 jd_bIn_11 rfl (lv_at hl 1 rfl) ?_
  refine va_newa (atype := .byte) (ty := .byte) (N' := 16) (a0 := (16, .inl (fun _ => 0))) X.1 X.2.1 (X.w 28 rfl rfl) rfl X.kn hP hD va_S.rf jA_new (fun _ => rfl) (by decide) (by decide) (by decide) (by omega) (by omega) jd_bIn_12 (fun q cA H1 hK1 hP hD hS => ?_)
  have y1 : s.vm.findClass ("[" ++ (FieldType.byte).toString) = some cA := (hK1.2 2 _ rfl).2
  have y2 : s.vm.findClass ("[" ++ (FieldType.byte).toString) = some (G.2.1 1003) := (X.kn.2 1 _ rfl).2
  have hcA : cA = G.2.1 1003 := Option.some.inj (y1.symm.trans y2)
  subst hcA
  have hP : va_P G.1 kcl [jS0 a v x y n, jRB G q 16 (fun _ => 0)] H1 := hP
  have hD : va_D (jA [a] s.heap.size) [jS0 a v x y n, jRB G q 16 (fun _ => 0)] := hD
  have hq : s.heap.size ≤ q := (hD.2 1 _ rfl).resolve_left (fun z => absurd (hD.1 0 1 _ _ rfl rfl (List.mem_singleton.mp z).symm) (by decide))
  refine j_put (ci := 22) (q0 := 0) (k := 0) X hP hD hS rfl (by decide) (by decide +kernel) (X.w 24 rfl rfl) (fun _ z => z) (by decide +kernel) rfl rfl (Nat.le_of_ble_eq_true rfl) jd_bIn_14 (fun H locs hP hD hS => ?_)
  refine lv_aload_n X.1 X.2.1 jd_bIn_17 rfl (lv_at hl 0 rfl) ?_
  refine lv_iconst (v := 0) X.1 X.2.1 jd_bIn_18 (by decide) ?_
  refine j_put (ci := 22) (q0 := 0) (k := 1) X hP hD hS rfl (by decide) (by decide +kernel) (X.w 25 rfl rfl) (fun _ z => z) (by decide +kernel) rfl rfl (Nat.le_of_ble_eq_true rfl) jd_bIn_19 (fun H locs hP hD hS => ?_)
  refine lv_goto (tgt := 38) X.1 X.2.1 jd_bIn_22 (by decide) ?_
  refine W.widen (k := 1) (n := 16) (by omega) (by omega) ?_
  exact j_vret X hS ⟨rfl, q, hq, hP⟩ jd_bIn_38
def jy_sIn : MethodName := ⟨"java/lang/StringBuilder", "<init>", "()V"⟩
abbrev jc_sIn : ByteArray := prog_39_method_1_code
abbrev jr_sIn : Option FieldType := (Option.none : Option Jvm.ClassFile.FieldType)
theorem jd_sIn_0 : decode jc_sIn 0 = .ok (.aload_n 0, 1) := by decide +kernel
theorem jd_sIn_1 : decode jc_sIn 1 = .ok (.bipush 16, 2) := by decide +kernel
theorem jd_sIn_3 : decode jc_sIn 3 = .ok (.invokespecial 1, 3) := by decide +kernel
theorem jd_sIn_6 : decode jc_sIn 6 = .ok (.return_, 1) := by decide +kernel
theorem jb_sIn : jB jy_sIn 0 := by decide +kernel
theorem c_sIn {a : Nat} {v : Value} {x y n : Int32} (hfz : G.2.2.1 ≤ H.size) (ha : G.2.2.1 ≤ a) (hP : va_P G.1 kcl [jS0 a v x y n] H) : JM l G jE0 jy_sIn jc_sIn 1 jr_sIn 2 50 [.ref a] [a] H (fun v1 H1 => v1 = none ∧ ∃ q, H.size ≤ q ∧ va_P G.1 kcl [jSB a q y n, jRB G q 16 (fun _ => 0)] H1) 1 16 := by
  refine jm_of (by decide +kernel) (Nat.le_of_ble_eq_true rfl) (fun p e R s m args below meth c ls X hH hl hF hL hmc hms => ?_)
  subst hH
  have hA := jA_frz (G := G) (fr := [a]) (fun q h => by rw [List.mem_singleton.mp h]; exact ha) hfz
  refine lv_aload_n X.1 X.2.1 jd_sIn_0 rfl (lv_at hl 0 rfl) ?_
  refine lv_bipush (v := 16) X.1 X.2.1 jd_sIn_1 (by decide) ?_
  refine j_callI a [.int 16] [] X hl (jE0_ok s) (c_bIn hfz ha hP) (X.w 19 rfl rfl) (X.w 20 rfl rfl) (X.w 4 rfl rfl) (jw_in _ (List.mem_of_getElem? (i := 21) rfl)) jb_bIn (by decide) ⟨by omega, by omega⟩ ⟨by omega, by omega⟩ (Nat.zero_le _) va_S.rf hA (jA_sub (fun q h => Or.inl h) (Nat.le_refl _)) jd_sIn_3 (fun v1 H1 locs hq hz hk hS => ?_)
  obtain ⟨rfl, h9⟩ := hq
  refine W.widen (k := 1) (n := 16) (by omega) (by omega) ?_
  exact j_vret X hS ⟨rfl, h9⟩ jd_sIn_6
end JSBW
