/-! ===== string builders and strings: the methods that write nothing ===== -/
section JSTR
variable {l : Launch} {G : Geo} {H : Heap}
def jy_nLen : MethodName := ⟨"jdk/internal/util/ArraysSupport", "newLength", "(III)I"⟩
abbrev jc_nLen : ByteArray := prog_55_method_27_code
abbrev jr_nLen : Option FieldType := (Option.some Jvm.ClassFile.FieldType.int)
theorem jd_nLen_0 : decode jc_nLen 0 = .ok (.iload_n 0, 1) := by decide +kernel
theorem jd_nLen_1 : decode jc_nLen 1 = .ok (.iload_n 1, 1) := by decide +kernel
theorem jd_nLen_2 : decode jc_nLen 2 = .ok (.iload_n 2, 1) := by decide +kernel
theorem jd_nLen_3 : decode jc_nLen 3 = .ok (.invokestatic 194, 3) := by decide +kernel
theorem jd_nLen_6 : decode jc_nLen 6 = .ok (.iadd, 1) := by decide +kernel
theorem jd_nLen_7 : decode jc_nLen 7 = .ok (.istore_n 3, 1) := by decide +kernel
theorem jd_nLen_8 : decode jc_nLen 8 = .ok (.iconst 0, 1) := by decide +kernel
theorem jd_nLen_9 : decode jc_nLen 9 = .ok (.iload_n 3, 1) := by decide +kernel
theorem jd_nLen_10 : decode jc_nLen 10 = .ok (.if_icmp .ge 11, 3) := by decide +kernel
theorem jd_nLen_13 : decode jc_nLen 13 = .ok (.iload_n 3, 1) := by decide +kernel
theorem jd_nLen_14 : decode jc_nLen 14 = .ok (.ldc 200, 2) := by decide +kernel
theorem jd_nLen_16 : decode jc_nLen 16 = .ok (.if_icmp .gt 5, 3) := by decide +kernel
theorem jd_nLen_19 : decode jc_nLen 19 = .ok (.iload_n 3, 1) := by decide +kernel
theorem jd_nLen_20 : decode jc_nLen 20 = .ok (.ireturn, 1) := by decide +kernel
theorem jd_nLen_21 : decode jc_nLen 21 = .ok (.iload_n 0, 1) := by decide +kernel
theorem jd_nLen_22 : decode jc_nLen 22 = .ok (.iload_n 1, 1) := by decide +kernel
theorem jd_nLen_23 : decode jc_nLen 23 = .ok (.invokestatic 201, 3) := by decide +kernel
theorem jd_nLen_26 : decode jc_nLen 26 = .ok (.ireturn, 1) := by decide +kernel
theorem jb_nLen : jB jy_nLen 3 := by decide +kernel
theorem c_nLen {x y z r : Int32} (hr : x + (if y < z then z else y) = r) (h1 : ¬ r ≤ 0) (h2 : ¬ 2147483639 < r) : JM l G jE0 jy_nLen jc_nLen 4 jr_nLen 1 14 [.int x, .int y, .int z] [] H (jR H (some (.int r))) 0 0 := by
  refine jm_of (by decide +kernel) (Nat.le_of_ble_eq_true rfl) (fun p e R s m args below meth c ls X hH hl hF hL hmc hms => ?_)
  subst hH
  refine lv_iload_n X.1 X.2.1 jd_nLen_0 rfl (lv_at hl 0 rfl) ?_
  refine lv_iload_n X.1 X.2.1 jd_nLen_1 rfl (lv_at hl 1 rfl) ?_
  refine lv_iload_n X.1 X.2.1 jd_nLen_2 rfl (lv_at hl 2 rfl) ?_
  refine j_max X hl (X.w 90 rfl rfl) (X.w 91 rfl rfl) (X.w 9 rfl rfl) (X.w 92 rfl rfl) ⟨hF, hL⟩ ⟨Nat.zero_le _, Nat.zero_le _⟩ rfl jd_nLen_3 ?_
  refine lv_iadd X.1 X.2.1 jd_nLen_6 ?_
  refine j_top hr ?_
  refine lv_istore_n X.1 X.2.1 jd_nLen_7 rfl hl (by decide) rfl (fun ls hl => ?_)
  refine lv_iconst (v := 0) X.1 X.2.1 jd_nLen_8 (by decide) ?_
  refine lv_iload_n X.1 X.2.1 jd_nLen_9 rfl (lv_at hl 0 rfl) ?_
  refine lv_icmp_ge (tgt := 21) X.1 X.2.1 jd_nLen_10 (by decide) (fun h9 => absurd h9 (h1)) (fun _ => ?_)
  refine lv_iload_n X.1 X.2.1 jd_nLen_13 rfl (lv_at hl 0 rfl) ?_
  refine lv_ldc (v := 2147483639) X.1 X.2.1 X.2.2.2.1 (X.w 93 rfl rfl) jd_nLen_14 ?_
  refine lv_icmp_gt (tgt := 21) X.1 X.2.1 jd_nLen_16 (by decide) (fun h9 => absurd h9 (h2)) (fun _ => ?_)
  refine lv_iload_n X.1 X.2.1 jd_nLen_19 rfl (lv_at hl 0 rfl) ?_
  exact j_iret X rfl va_S.rf ⟨rfl, rfl⟩ jd_nLen_20
def jy_bLen : MethodName := ⟨"java/lang/AbstractStringBuilder", "length", "()I"⟩
abbrev jc_bLen : ByteArray := prog_25_method_6_code
abbrev jr_bLen : Option FieldType := (Option.some Jvm.ClassFile.FieldType.int)
theorem jd_bLen_0 : decode jc_bLen 0 = .ok (.aload_n 0, 1) := by decide +kernel
theorem jd_bLen_1 : decode jc_bLen 1 = .ok (.getfield 79, 3) := by decide +kernel
theorem jd_bLen_4 : decode jc_bLen 4 = .ok (.ireturn, 1) := by decide +kernel
theorem jb_bLen : jB jy_bLen 0 := by decide +kernel
theorem c_bLen {a d : Nat} {ml n : Int32} {ws : va_W} (hP : va_P G.1 kcl (jSB a d ml n :: ws) H) : JM l G jE0 jy_bLen jc_bLen 1 jr_bLen 0 0 [.ref a] [] H (jR H (some (.int n))) 0 0 := by
  refine jm_of (by decide +kernel) (Nat.le_of_ble_eq_true rfl) (fun p e R s m args below meth c ls X hH hl hF hL hmc hms => ?_)
  subst hH
  refine lv_aload_n X.1 X.2.1 jd_bLen_0 rfl (lv_at hl 0 rfl) ?_
  refine j_get (ci := 22) (q0 := 0) (k := 3) X hP rfl (by decide) (by decide +kernel) (X.w 26 rfl rfl) (fun _ z => z) rfl jd_bLen_1 ?_
  exact j_iret X rfl va_S.rf ⟨rfl, rfl⟩ jd_bLen_4
theorem j_at {p : Program} {s : State} {m : MethodId} {meth : Method} {c : Code} {E : State → Prop} {own : String} {cc : ByteArray} {nL : Nat} {ret : Option FieldType} (X : JX G E p s m meth c own cc nL ret) : ClassAt s (cAt 22).1 (G.1.1 22) := (X.kn.1 22 _ (kcl_at (by decide))).2
def jy_sLen : MethodName := ⟨"java/lang/StringBuilder", "length", "()I"⟩
abbrev jc_sLen : ByteArray := prog_39_method_93_code
abbrev jr_sLen : Option FieldType := (Option.some Jvm.ClassFile.FieldType.int)
theorem jd_sLen_0 : decode jc_sLen 0 = .ok (.aload_n 0, 1) := by decide +kernel
theorem jd_sLen_1 : decode jc_sLen 1 = .ok (.invokespecial 343, 3) := by decide +kernel
theorem jd_sLen_4 : decode jc_sLen 4 = .ok (.ireturn, 1) := by decide +kernel
theorem jb_sLen : jB jy_sLen 0 := by decide +kernel
theorem c_sLen {a d : Nat} {ml n : Int32} {ws : va_W} (hfz : G.2.2.1 ≤ H.size) (hP : va_P G.1 kcl (jSB a d ml n :: ws) H) : JM l G jE0 jy_sLen jc_sLen 1 jr_sLen 1 20 [.ref a] [] H (jR H (some (.int n))) 0 0 := by
  refine jm_of (by decide +kernel) (Nat.le_of_ble_eq_true rfl) (fun p e R s m args below meth c ls X hH hl hF hL hmc hms => ?_)
  subst hH
  have hA := jA_frz (G := G) (fr := []) (fun _ h => nomatch h) hfz
  refine lv_aload_n X.1 X.2.1 jd_sLen_0 rfl (lv_at hl 0 rfl) ?_
  refine j_callSU a [] [] X hl (jE0_ok s) (c_bLen hP) (X.w 44 rfl rfl) (X.w 45 rfl rfl) (X.w 4 rfl rfl) (jw_in _ (List.mem_of_getElem? (i := 46) rfl)) (X.w 27 rfl rfl) (X.w 128 rfl rfl) (j_at X) (j_rc (q0 := 0) X hP rfl (by decide)) jb_bLen (by decide) ⟨by omega, by omega⟩ ⟨by omega, by omega⟩ (Nat.zero_le _) va_S.rf hA (jA_sub (fr := []) (fun _ h => nomatch h) (Nat.le_refl _)) jd_sLen_1 (fun v H1 locs hq hz hk hS => ?_)
  obtain ⟨rfl, rfl⟩ := hq
  exact j_iret X rfl hS ⟨rfl, rfl⟩ jd_sLen_4
def jy_sCk : MethodName := ⟨"java/lang/String", "checkIndex", "(II)V"⟩
abbrev jc_sCk : ByteArray := prog_38_method_155_code
abbrev jr_sCk : Option FieldType := (Option.none : Option Jvm.ClassFile.FieldType)
theorem jd_sCk_0 : decode jc_sCk 0 = .ok (.iload_n 0, 1) := by decide +kernel
theorem jd_sCk_1 : decode jc_sCk 1 = .ok (.iload_n 1, 1) := by decide +kernel
theorem jd_sCk_2 : decode jc_sCk 2 = .ok (.getstatic 1053, 3) := by decide +kernel
theorem jd_sCk_5 : decode jc_sCk 5 = .ok (.invokestatic 1059, 3) := by decide +kernel
theorem jd_sCk_8 : decode jc_sCk 8 = .ok (.pop, 1) := by decide +kernel
theorem jd_sCk_9 : decode jc_sCk 9 = .ok (.return_, 1) := by decide +kernel
theorem jb_sCk : jB jy_sCk 2 := by decide +kernel
theorem c_sCk {i n : Int32} (hfz : G.2.2.1 ≤ H.size) (h0 : ¬ i < 0) (h1 : i < n) : JM l G jE0 jy_sCk jc_sCk 2 jr_sCk 1 22 [.int i, .int n] [] H (jR H none) 0 0 := by
  refine jm_of (by decide +kernel) (Nat.le_of_ble_eq_true rfl) (fun p e R s m args below meth c ls X hH hl hF hL hmc hms => ?_)
  subst hH
  have hA := jA_frz (G := G) (fr := []) (fun _ h => nomatch h) hfz
  refine lv_iload_n X.1 X.2.1 jd_sCk_0 rfl (lv_at hl 0 rfl) ?_
  refine lv_iload_n X.1 X.2.1 jd_sCk_1 rfl (lv_at hl 1 rfl) ?_
  refine j_sio X hA va_S.rf (X.w 57 rfl rfl) jd_sCk_2 (fun v hv => ?_)
  refine j_callS [.int i, .int n, v] [] X hl (jE0_ok s) (c_ck3 hv h0 h1) (X.w 58 rfl rfl) (X.w 59 rfl rfl) (X.w 10 rfl rfl) (jw_in _ (List.mem_of_getElem? (i := 60) rfl)) jb_ck3 ⟨by omega, by omega⟩ ⟨by omega, by omega⟩ (Nat.zero_le _) va_S.rf hA (jA_sub (fr := []) (fun _ h => nomatch h) (Nat.le_refl _)) jd_sCk_5 (fun v H1 locs hq hz hk hS => ?_)
  obtain ⟨rfl, rfl⟩ := hq
  refine lv_pop X.1 X.2.1 jd_sCk_8 rfl ?_
  exact j_vret X hS ⟨rfl, rfl⟩ jd_sCk_9
theorem j_chr (b : Int32) : ((b &&& 255).toUInt32 % 65536).toInt32 = b &&& 255 := sc_c2 b
def jy_bChr : MethodName := ⟨"java/lang/AbstractStringBuilder", "charAt", "(I)C"⟩
abbrev jc_bChr : ByteArray := prog_25_method_14_code
abbrev jr_bChr : Option FieldType := (Option.some Jvm.ClassFile.FieldType.char)
theorem jd_bChr_0 : decode jc_bChr 0 = .ok (.aload_n 0, 1) := by decide +kernel
theorem jd_bChr_1 : decode jc_bChr 1 = .ok (.getfield 22, 3) := by decide +kernel
theorem jd_bChr_4 : decode jc_bChr 4 = .ok (.istore_n 2, 1) := by decide +kernel
theorem jd_bChr_5 : decode jc_bChr 5 = .ok (.aload_n 0, 1) := by decide +kernel
theorem jd_bChr_6 : decode jc_bChr 6 = .ok (.getfield 15, 3) := by decide +kernel
theorem jd_bChr_9 : decode jc_bChr 9 = .ok (.astore_n 3, 1) := by decide +kernel
theorem jd_bChr_10 : decode jc_bChr 10 = .ok (.aload_n 0, 1) := by decide +kernel
theorem jd_bChr_11 : decode jc_bChr 11 = .ok (.getfield 79, 3) := by decide +kernel
theorem jd_bChr_14 : decode jc_bChr 14 = .ok (.aload_n 3, 1) := by decide +kernel
theorem jd_bChr_15 : decode jc_bChr 15 = .ok (.arraylength, 1) := by decide +kernel
theorem jd_bChr_16 : decode jc_bChr 16 = .ok (.iload_n 2, 1) := by decide +kernel
theorem jd_bChr_17 : decode jc_bChr 17 = .ok (.ishr, 1) := by decide +kernel
theorem jd_bChr_18 : decode jc_bChr 18 = .ok (.invokestatic 138, 3) := by decide +kernel
theorem jd_bChr_21 : decode jc_bChr 21 = .ok (.istore 4, 2) := by decide +kernel
theorem jd_bChr_23 : decode jc_bChr 23 = .ok (.iload_n 1, 1) := by decide +kernel
theorem jd_bChr_24 : decode jc_bChr 24 = .ok (.iload 4, 2) := by decide +kernel
theorem jd_bChr_26 : decode jc_bChr 26 = .ok (.invokestatic 144, 3) := by decide +kernel
theorem jd_bChr_29 : decode jc_bChr 29 = .ok (.iload_n 2, 1) := by decide +kernel
theorem jd_bChr_30 : decode jc_bChr 30 = .ok (.ifCond .ne 12, 3) := by decide +kernel
theorem jd_bChr_33 : decode jc_bChr 33 = .ok (.aload_n 3, 1) := by decide +kernel
theorem jd_bChr_34 : decode jc_bChr 34 = .ok (.iload_n 1, 1) := by decide +kernel
theorem jd_bChr_35 : decode jc_bChr 35 = .ok (.baload, 1) := by decide +kernel
theorem jd_bChr_36 : decode jc_bChr 36 = .ok (.sipush 255, 3) := by decide +kernel
theorem jd_bChr_39 : decode jc_bChr 39 = .ok (.iand, 1) := by decide +kernel
theorem jd_bChr_40 : decode jc_bChr 40 = .ok (.i2c, 1) := by decide +kernel
theorem jd_bChr_41 : decode jc_bChr 41 = .ok (.ireturn, 1) := by decide +kernel
theorem jd_bChr_42 : decode jc_bChr 42 = .ok (.aload_n 3, 1) := by decide +kernel
theorem jd_bChr_43 : decode jc_bChr 43 = .ok (.iload_n 1, 1) := by decide +kernel
theorem jd_bChr_44 : decode jc_bChr 44 = .ok (.invokestatic 148, 3) := by decide +kernel
theorem jd_bChr_47 : decode jc_bChr 47 = .ok (.ireturn, 1) := by decide +kernel
theorem jb_bChr : jB jy_bChr 1 := by decide +kernel
theorem c_bChr {a d cap k n : Nat} {ml : Int32} {f : Nat → Int32} (hfz : G.2.2.1 ≤ H.size) (hP : va_P G.1 kcl [jSB a d ml (nI n), jRB G d cap f] H) (hk : k < n) (hn : n ≤ cap) (hc : cap < 100000) : JM l G jE0 jy_bChr jc_bChr 5 jr_bChr 2 60 [.ref a, .int (nI k)] [] H (jR H (some (.int (f k &&& 255)))) 0 0 := by
  refine jm_of (by decide +kernel) (Nat.le_of_ble_eq_true rfl) (fun p e R s m args below meth c ls X hH hl hF hL hmc hms => ?_)
  subst hH
  have hA := jA_frz (G := G) (fr := []) (fun _ h => nomatch h) hfz
  have em : (if nI cap < nI n then nI cap else nI n) = nI n := if_neg (nI_nlt (by omega) (by omega))
  have ef : f (nI k).toNatClampNeg = f k := by rw [nI_clamp (by omega)]
  refine lv_aload_n X.1 X.2.1 jd_bChr_0 rfl (lv_at hl 0 rfl) ?_
  refine j_get (ci := 22) (q0 := 0) (k := 1) X hP rfl (by decide) (by decide +kernel) (X.w 25 rfl rfl) (fun _ z => z) rfl jd_bChr_1 ?_
  refine lv_istore_n X.1 X.2.1 jd_bChr_4 rfl hl (by decide) rfl (fun ls hl => ?_)
  refine lv_aload_n X.1 X.2.1 jd_bChr_5 rfl (lv_at hl 1 rfl) ?_
  refine j_get (ci := 22) (q0 := 0) (k := 0) X hP rfl (by decide) (by decide +kernel) (X.w 24 rfl rfl) (fun _ z => z) rfl jd_bChr_6 ?_
  refine j_astore X (Or.inr ⟨_, rfl⟩) jd_bChr_9 rfl hl (by decide) rfl (fun ls hl => ?_)
  refine lv_aload_n X.1 X.2.1 jd_bChr_10 rfl (lv_at hl 2 rfl) ?_
  refine j_get (ci := 22) (q0 := 0) (k := 3) X hP rfl (by decide) (by decide +kernel) (X.w 26 rfl rfl) (fun _ z => z) rfl jd_bChr_11 ?_
  refine lv_aload_n X.1 X.2.1 jd_bChr_14 rfl (lv_at hl 0 rfl) ?_
  refine va_alen X.1 X.2.1 X.kn hP 1 1 rfl rfl (v := nI cap) rfl jd_bChr_15 ?_
  refine lv_iload_n X.1 X.2.1 jd_bChr_16 rfl (lv_at hl 1 rfl) ?_
  refine lv_ishr X.1 X.2.1 jd_bChr_17 ?_
  refine j_top (sb_shr0 _) ?_
  refine j_min X hl (X.w 51 rfl rfl) (X.w 52 rfl rfl) (X.w 9 rfl rfl) (X.w 53 rfl rfl) ⟨by omega, by show 0 + 13 ≤ R.locals; omega⟩ ⟨Nat.zero_le _, Nat.zero_le _⟩ em jd_bChr_18 ?_
  refine lv_istore X.1 X.2.1 jd_bChr_21 hl (by decide) rfl (fun ls hl => ?_)
  refine lv_iload_n X.1 X.2.1 jd_bChr_23 rfl (lv_at hl 4 rfl) ?_
  refine lv_iload X.1 X.2.1 jd_bChr_24 (lv_at hl 0 rfl) ?_
  refine j_callS [.int (nI k), .int (nI n)] [] X hl (jE0_ok s) (c_sCk hfz (nI_pos (by omega)) (nI_lt hk (by omega))) (X.w 54 rfl rfl) (X.w 55 rfl rfl) (X.w 5 rfl rfl) (jw_in _ (List.mem_of_getElem? (i := 56) rfl)) jb_sCk ⟨by omega, by omega⟩ ⟨by omega, by omega⟩ (Nat.zero_le _) va_S.rf hA (jA_sub (fr := []) (fun _ h => nomatch h) (Nat.le_refl _)) jd_bChr_26 (fun v H1 locs hq hz hk9 hS => ?_)
  obtain ⟨rfl, rfl⟩ := hq
  refine lv_iload_n X.1 X.2.1 jd_bChr_29 rfl (lv_at hl 2 rfl) ?_
  refine lv_if_ne (tgt := 42) X.1 X.2.1 jd_bChr_30 (by decide) (fun h9 => absurd h9 (fun z => z rfl)) (fun _ => ?_)
  refine lv_aload_n X.1 X.2.1 jd_bChr_33 rfl (lv_at hl 1 rfl) ?_
  refine lv_iload_n X.1 X.2.1 jd_bChr_34 rfl (lv_at hl 4 rfl) ?_
  refine va_bald X.1 X.2.1 X.kn hP 1 1 rfl rfl (vp_in_nI (by omega) (by omega)) jd_bChr_35 ?_
  refine j_top ef ?_
  refine lv_sipush (v := 255) X.1 X.2.1 jd_bChr_36 (by decide) ?_
  refine lv_iand X.1 X.2.1 jd_bChr_39 ?_
  refine lv_i2c (v := f k &&& 255) X.1 X.2.1 jd_bChr_40 (sc_c2 _) ?_
  exact j_iret X (sc_nar _) hS ⟨rfl, rfl⟩ jd_bChr_41
def jy_sChr : MethodName := ⟨"java/lang/StringBuilder", "charAt", "(I)C"⟩
abbrev jc_sChr : ByteArray := prog_39_method_88_code
abbrev jr_sChr : Option FieldType := (Option.some Jvm.ClassFile.FieldType.char)
theorem jd_sChr_0 : decode jc_sChr 0 = .ok (.aload_n 0, 1) := by decide +kernel
theorem jd_sChr_1 : decode jc_sChr 1 = .ok (.iload_n 1, 1) := by decide +kernel
theorem jd_sChr_2 : decode jc_sChr 2 = .ok (.invokespecial 329, 3) := by decide +kernel
theorem jd_sChr_5 : decode jc_sChr 5 = .ok (.ireturn, 1) := by decide +kernel
theorem jb_sChr : jB jy_sChr 1 := by decide +kernel
theorem c_sChr {a d cap k n : Nat} {ml : Int32} {f : Nat → Int32} (hfz : G.2.2.1 ≤ H.size) (hP : va_P G.1 kcl [jSB a d ml (nI n), jRB G d cap f] H) (hk : k < n) (hn : n ≤ cap) (hc : cap < 100000) : JM l G jE0 jy_sChr jc_sChr 2 jr_sChr 3 90 [.ref a, .int (nI k)] [] H (jR H (some (.int (f k &&& 255)))) 0 0 := by
  refine jm_of (by decide +kernel) (Nat.le_of_ble_eq_true rfl) (fun p e R s m args below meth c ls X hH hl hF hL hmc hms => ?_)
  subst hH
  have hA := jA_frz (G := G) (fr := []) (fun _ h => nomatch h) hfz
  refine lv_aload_n X.1 X.2.1 jd_sChr_0 rfl (lv_at hl 0 rfl) ?_
  refine lv_iload_n X.1 X.2.1 jd_sChr_1 rfl (lv_at hl 1 rfl) ?_
  refine j_callSU a [.int (nI k)] [] X hl (jE0_ok s) (c_bChr hfz hP hk hn hc) (X.w 48 rfl rfl) (X.w 49 rfl rfl) (X.w 4 rfl rfl) (jw_in _ (List.mem_of_getElem? (i := 50) rfl)) (X.w 27 rfl rfl) (X.w 129 rfl rfl) (j_at X) (j_rc (q0 := 0) X hP rfl (by decide)) jb_bChr (by decide) ⟨by omega, by omega⟩ ⟨by omega, by omega⟩ (Nat.zero_le _) va_S.rf hA (jA_sub (fr := []) (fun _ h => nomatch h) (Nat.le_refl _)) jd_sChr_2 (fun v H1 locs hq hz hk9 hS => ?_)
  obtain ⟨rfl, rfl⟩ := hq
  exact j_iret X (sc_nar _) hS ⟨rfl, rfl⟩ jd_sChr_5
/-! strings of the constant pool: never written -/
/-- a string at a, its bytes v at e -/
def jSg (G : Geo) (a e n : Nat) (v : Nat → Value) (H : Heap) : State → Prop := fun U => va_O "java/lang/String" a (frz G) U H ∧ va_OF "java/lang/String" "coder" "B" (.int 0) a (frz G) U H ∧ va_OF "java/lang/String" "value" "[B" (.ref e) a (frz G) U H ∧ va_T .byte e n v (frz G) U H
theorem jSg_k {a e n : Nat} {v : Nat → Value} : jEk (jSg G a e n v H) := fun u U hvm h => ⟨va_O.moved hvm h.1, va_OF.moved hvm h.2.1, va_OF.moved hvm h.2.2.1, va_T.moved hvm h.2.2.2⟩
def jy_coder : MethodName := ⟨"java/lang/String", "coder", "()B"⟩
abbrev jc_coder : ByteArray := prog_38_method_152_code
abbrev jr_coder : Option FieldType := (Option.some Jvm.ClassFile.FieldType.byte)
theorem jd_coder_0 : decode jc_coder 0 = .ok (.getstatic 38, 3) := by decide +kernel
theorem jd_coder_3 : decode jc_coder 3 = .ok (.ifCond .eq 10, 3) := by decide +kernel
theorem jd_coder_6 : decode jc_coder 6 = .ok (.aload_n 0, 1) := by decide +kernel
theorem jd_coder_7 : decode jc_coder 7 = .ok (.getfield 15, 3) := by decide +kernel
theorem jd_coder_10 : decode jc_coder 10 = .ok (.goto 4, 3) := by decide +kernel
theorem jd_coder_13 : decode jc_coder 13 = .ok (.iconst 1, 1) := by decide +kernel
theorem jd_coder_14 : decode jc_coder 14 = .ok (.ireturn, 1) := by decide +kernel
theorem jb_coder : jB jy_coder 0 := by decide +kernel
theorem c_coder {a e n : Nat} {v : Nat → Value} (hfz : G.2.2.1 ≤ H.size) : JM l G (jSg G a e n v H) jy_coder jc_coder 1 jr_coder 0 0 [.ref a] [] H (jR H (some (.int 0))) 0 0 := by
  refine jm_of (by decide +kernel) (Nat.le_of_ble_eq_true rfl) (fun p e R s m args below meth c ls X hH hl hF hL hmc hms => ?_)
  subst hH
  have hA := jA_frz (G := G) (fr := []) (fun _ h => nomatch h) hfz
  have hE := X.2.2.2.2.2.2.2
  refine j_cs X hA va_S.rf (X.w 66 rfl rfl) jd_coder_0 ?_
  refine lv_if_eq (tgt := 13) X.1 X.2.1 jd_coder_3 (by decide) (fun h9 => absurd h9 (by decide)) (fun _ => ?_)
  refine lv_aload_n X.1 X.2.1 jd_coder_6 rfl (lv_at hl 0 rfl) ?_
  refine vk_getf X.1 X.2.1 (va_OF.narrow hE.2.1 hA) va_S.rf X.2.2.2.1 (X.w 145 rfl rfl) (fun _ z => z) jd_coder_7 ?_
  refine lv_goto (tgt := 14) X.1 X.2.1 jd_coder_10 (by decide) ?_
  exact j_iret X (by decide) va_S.rf ⟨rfl, rfl⟩ jd_coder_14
def jy_sL1 : MethodName := ⟨"java/lang/String", "isLatin1", "()Z"⟩
abbrev jc_sL1 : ByteArray := prog_38_method_154_code
abbrev jr_sL1 : Option FieldType := (Option.some Jvm.ClassFile.FieldType.boolean)
theorem jd_sL1_0 : decode jc_sL1 0 = .ok (.getstatic 38, 3) := by decide +kernel
theorem jd_sL1_3 : decode jc_sL1 3 = .ok (.ifCond .eq 14, 3) := by decide +kernel
theorem jd_sL1_6 : decode jc_sL1 6 = .ok (.aload_n 0, 1) := by decide +kernel
theorem jd_sL1_7 : decode jc_sL1 7 = .ok (.getfield 15, 3) := by decide +kernel
theorem jd_sL1_10 : decode jc_sL1 10 = .ok (.ifCond .ne 7, 3) := by decide +kernel
theorem jd_sL1_13 : decode jc_sL1 13 = .ok (.iconst 1, 1) := by decide +kernel
theorem jd_sL1_14 : decode jc_sL1 14 = .ok (.goto 4, 3) := by decide +kernel
theorem jd_sL1_17 : decode jc_sL1 17 = .ok (.iconst 0, 1) := by decide +kernel
theorem jd_sL1_18 : decode jc_sL1 18 = .ok (.ireturn, 1) := by decide +kernel
theorem jb_sL1 : jB jy_sL1 0 := by decide +kernel
theorem c_sL1 {a e n : Nat} {v : Nat → Value} (hfz : G.2.2.1 ≤ H.size) : JM l G (jSg G a e n v H) jy_sL1 jc_sL1 1 jr_sL1 0 0 [.ref a] [] H (jR H (some (.int 1))) 0 0 := by
  refine jm_of (by decide +kernel) (Nat.le_of_ble_eq_true rfl) (fun p e R s m args below meth c ls X hH hl hF hL hmc hms => ?_)
  subst hH
  have hA := jA_frz (G := G) (fr := []) (fun _ h => nomatch h) hfz
  have hE := X.2.2.2.2.2.2.2
  refine j_cs X hA va_S.rf (X.w 66 rfl rfl) jd_sL1_0 ?_
  refine lv_if_eq (tgt := 17) X.1 X.2.1 jd_sL1_3 (by decide) (fun h9 => absurd h9 (by decide)) (fun _ => ?_)
  refine lv_aload_n X.1 X.2.1 jd_sL1_6 rfl (lv_at hl 0 rfl) ?_
  refine vk_getf X.1 X.2.1 (va_OF.narrow hE.2.1 hA) va_S.rf X.2.2.2.1 (X.w 145 rfl rfl) (fun _ z => z) jd_sL1_7 ?_
  refine lv_if_ne (tgt := 17) X.1 X.2.1 jd_sL1_10 (by decide) (fun h9 => absurd h9 (fun z => z rfl)) (fun _ => ?_)
  refine lv_iconst (v := 1) X.1 X.2.1 jd_sL1_13 (by decide) ?_
  refine lv_goto (tgt := 18) X.1 X.2.1 jd_sL1_14 (by decide) ?_
  exact j_iret X rfl va_S.rf ⟨rfl, rfl⟩ jd_sL1_18
def jy_gLen : MethodName := ⟨"java/lang/String", "length", "()I"⟩
abbrev jc_gLen : ByteArray := prog_38_method_54_code
abbrev jr_gLen : Option FieldType := (Option.some Jvm.ClassFile.FieldType.int)
theorem jd_gLen_0 : decode jc_gLen 0 = .ok (.aload_n 0, 1) := by decide +kernel
theorem jd_gLen_1 : decode jc_gLen 1 = .ok (.getfield 9, 3) := by decide +kernel
theorem jd_gLen_4 : decode jc_gLen 4 = .ok (.arraylength, 1) := by decide +kernel
theorem jd_gLen_5 : decode jc_gLen 5 = .ok (.aload_n 0, 1) := by decide +kernel
theorem jd_gLen_6 : decode jc_gLen 6 = .ok (.invokevirtual 335, 3) := by decide +kernel
theorem jd_gLen_9 : decode jc_gLen 9 = .ok (.ishr, 1) := by decide +kernel
theorem jd_gLen_10 : decode jc_gLen 10 = .ok (.ireturn, 1) := by decide +kernel
theorem jb_gLen : jB jy_gLen 0 := by decide +kernel
theorem c_gLen {a e n : Nat} {v : Nat → Value} (hfz : G.2.2.1 ≤ H.size) : JM l G (jSg G a e n v H) jy_gLen jc_gLen 1 jr_gLen 1 30 [.ref a] [] H (jR H (some (.int (nI n)))) 0 0 := by
  refine jm_of (by decide +kernel) (Nat.le_of_ble_eq_true rfl) (fun p e0 R s m args below meth c ls X hH hl hF hL hmc hms => ?_)
  subst hH
  have hA := jA_frz (G := G) (fr := []) (fun _ h => nomatch h) hfz
  have hE := X.2.2.2.2.2.2.2
  refine lv_aload_n X.1 X.2.1 jd_gLen_0 rfl (lv_at hl 0 rfl) ?_
  refine vk_getf X.1 X.2.1 (va_OF.narrow hE.2.2.1 hA) va_S.rf X.2.2.2.1 (X.w 144 rfl rfl) (fun _ z => z) jd_gLen_1 ?_
  refine va_tlen X.1 X.2.1 (va_T.narrow hE.2.2.2 hA) va_S.rf (v := nI n) rfl jd_gLen_4 ?_
  refine lv_aload_n X.1 X.2.1 jd_gLen_5 rfl (lv_at hl 0 rfl) ?_
  refine j_callV a [] [.int (nI n)] X hl ⟨jSg_k, hE⟩ (c_coder (n := n) (v := v) (e := e) hfz) (X.w 62 rfl rfl) (X.w 63 rfl rfl) (X.w 5 rfl rfl) (jw_in _ (List.mem_of_getElem? (i := 65) rfl)) (X.w 64 rfl rfl) (va_Orecv (va_O.narrow hE.1 hA) va_S.rf) jb_coder ⟨by omega, by omega⟩ ⟨by omega, by omega⟩ (Nat.le_of_ble_eq_true rfl) va_S.rf hA (jA_sub (fr := []) (fun _ h => nomatch h) (Nat.le_refl _)) jd_gLen_6 (fun v H1 locs hq hz hk hS => ?_)
  obtain ⟨rfl, rfl⟩ := hq
  refine lv_ishr X.1 X.2.1 jd_gLen_9 ?_
  refine j_top (sb_shr0 _) ?_
  exact j_iret X rfl hS ⟨rfl, rfl⟩ jd_gLen_10
def jy_lChr : MethodName := ⟨"java/lang/StringLatin1", "charAt", "([BI)C"⟩
abbrev jc_lChr : ByteArray := prog_40_method_2_code
abbrev jr_lChr : Option FieldType := (Option.some Jvm.ClassFile.FieldType.char)
theorem jd_lChr_0 : decode jc_lChr 0 = .ok (.iload_n 1, 1) := by decide +kernel
theorem jd_lChr_1 : decode jc_lChr 1 = .ok (.aload_n 0, 1) := by decide +kernel
theorem jd_lChr_2 : decode jc_lChr 2 = .ok (.arraylength, 1) := by decide +kernel
theorem jd_lChr_3 : decode jc_lChr 3 = .ok (.invokestatic 9, 3) := by decide +kernel
theorem jd_lChr_6 : decode jc_lChr 6 = .ok (.aload_n 0, 1) := by decide +kernel
theorem jd_lChr_7 : decode jc_lChr 7 = .ok (.iload_n 1, 1) := by decide +kernel
theorem jd_lChr_8 : decode jc_lChr 8 = .ok (.baload, 1) := by decide +kernel
theorem jd_lChr_9 : decode jc_lChr 9 = .ok (.sipush 255, 3) := by decide +kernel
theorem jd_lChr_12 : decode jc_lChr 12 = .ok (.iand, 1) := by decide +kernel
theorem jd_lChr_13 : decode jc_lChr 13 = .ok (.i2c, 1) := by decide +kernel
theorem jd_lChr_14 : decode jc_lChr 14 = .ok (.ireturn, 1) := by decide +kernel
theorem jb_lChr : jB jy_lChr 2 := by decide +kernel
theorem c_lChr {a e n k : Nat} {x : Int32} {v : Nat → Value} (hfz : G.2.2.1 ≤ H.size) (hk : k < n) (hn : n < 1000) (hx : v k = .int x) : JM l G (jSg G a e n v H) jy_lChr jc_lChr 2 jr_lChr 2 50 [.ref e, .int (nI k)] [] H (jR H (some (.int (x &&& 255)))) 0 0 := by
  refine jm_of (by decide +kernel) (Nat.le_of_ble_eq_true rfl) (fun p e0 R s m args below meth c ls X hH hl hF hL hmc hms => ?_)
  subst hH
  have hA := jA_frz (G := G) (fr := []) (fun _ h => nomatch h) hfz
  have hE := X.2.2.2.2.2.2.2
  refine lv_iload_n X.1 X.2.1 jd_lChr_0 rfl (lv_at hl 1 rfl) ?_
  refine lv_aload_n X.1 X.2.1 jd_lChr_1 rfl (lv_at hl 0 rfl) ?_
  refine va_tlen X.1 X.2.1 (va_T.narrow hE.2.2.2 hA) va_S.rf (v := nI n) rfl jd_lChr_2 ?_
  refine j_callS [.int (nI k), .int (nI n)] [] X hl (jE0_ok s) (c_sCk hfz (nI_pos (by omega)) (nI_lt hk (by omega))) (X.w 75 rfl rfl) (X.w 55 rfl rfl) (X.w 5 rfl rfl) (jw_in _ (List.mem_of_getElem? (i := 56) rfl)) jb_sCk ⟨by omega, by omega⟩ ⟨by omega, by omega⟩ (Nat.zero_le _) va_S.rf hA (jA_sub (fr := []) (fun _ h => nomatch h) (Nat.le_refl _)) jd_lChr_3 (fun v9 H1 locs hq hz hk9 hS => ?_)
  obtain ⟨rfl, rfl⟩ := hq
  refine lv_aload_n X.1 X.2.1 jd_lChr_6 rfl (lv_at hl 0 rfl) ?_
  refine lv_iload_n X.1 X.2.1 jd_lChr_7 rfl (lv_at hl 1 rfl) ?_
  refine va_tb X.1 X.2.1 (va_T.narrow hE.2.2.2 hA) hS (vp_in_nI hk (by omega)) (v := .int x) (by rw [nI_clamp (by omega)]; exact hx) jd_lChr_8 ?_
  refine lv_sipush (v := 255) X.1 X.2.1 jd_lChr_9 (by decide) ?_
  refine lv_iand X.1 X.2.1 jd_lChr_12 ?_
  refine lv_i2c (v := x &&& 255) X.1 X.2.1 jd_lChr_13 (sc_c2 _) ?_
  exact j_iret X (sc_nar _) hS ⟨rfl, rfl⟩ jd_lChr_14
def jy_gChr : MethodName := ⟨"java/lang/String", "charAt", "(I)C"⟩
abbrev jc_gChr : ByteArray := prog_38_method_56_code
abbrev jr_gChr : Option FieldType := (Option.some Jvm.ClassFile.FieldType.char)
theorem jd_gChr_0 : decode jc_gChr 0 = .ok (.aload_n 0, 1) := by decide +kernel
theorem jd_gChr_1 : decode jc_gChr 1 = .ok (.invokevirtual 492, 3) := by decide +kernel
theorem jd_gChr_4 : decode jc_gChr 4 = .ok (.ifCond .eq 12, 3) := by decide +kernel
theorem jd_gChr_7 : decode jc_gChr 7 = .ok (.aload_n 0, 1) := by decide +kernel
theorem jd_gChr_8 : decode jc_gChr 8 = .ok (.getfield 9, 3) := by decide +kernel
theorem jd_gChr_11 : decode jc_gChr 11 = .ok (.iload_n 1, 1) := by decide +kernel
theorem jd_gChr_12 : decode jc_gChr 12 = .ok (.invokestatic 495, 3) := by decide +kernel
theorem jd_gChr_15 : decode jc_gChr 15 = .ok (.ireturn, 1) := by decide +kernel
theorem jd_gChr_16 : decode jc_gChr 16 = .ok (.aload_n 0, 1) := by decide +kernel
theorem jd_gChr_17 : decode jc_gChr 17 = .ok (.getfield 9, 3) := by decide +kernel
theorem jd_gChr_20 : decode jc_gChr 20 = .ok (.iload_n 1, 1) := by decide +kernel
theorem jd_gChr_21 : decode jc_gChr 21 = .ok (.invokestatic 498, 3) := by decide +kernel
theorem jd_gChr_24 : decode jc_gChr 24 = .ok (.ireturn, 1) := by decide +kernel
theorem jb_gChr : jB jy_gChr 1 := by decide +kernel
theorem c_gChr {a e n k : Nat} {x : Int32} {v : Nat → Value} (hfz : G.2.2.1 ≤ H.size) (hk : k < n) (hn : n < 1000) (hx : v k = .int x) : JM l G (jSg G a e n v H) jy_gChr jc_gChr 2 jr_gChr 3 80 [.ref a, .int (nI k)] [] H (jR H (some (.int (x &&& 255)))) 0 0 := by
  refine jm_of (by decide +kernel) (Nat.le_of_ble_eq_true rfl) (fun p e0 R s m args below meth c ls X hH hl hF hL hmc hms => ?_)
  subst hH
  have hA := jA_frz (G := G) (fr := []) (fun _ h => nomatch h) hfz
  have hE := X.2.2.2.2.2.2.2
  refine lv_aload_n X.1 X.2.1 jd_gChr_0 rfl (lv_at hl 0 rfl) ?_
  refine j_callV a [] [] X hl ⟨jSg_k, hE⟩ (c_sL1 (n := n) (v := v) (e := e) hfz) (X.w 68 rfl rfl) (X.w 69 rfl rfl) (X.w 5 rfl rfl) (jw_in _ (List.mem_of_getElem? (i := 71) rfl)) (X.w 70 rfl rfl) (va_Orecv (va_O.narrow hE.1 hA) va_S.rf) jb_sL1 ⟨by omega, by omega⟩ ⟨by omega, by omega⟩ (Nat.zero_le _) va_S.rf hA (jA_sub (fr := []) (fun _ h => nomatch h) (Nat.le_refl _)) jd_gChr_1 (fun v9 H1 locs hq hz hk9 hS => ?_)
  obtain ⟨rfl, rfl⟩ := hq
  refine lv_if_eq (tgt := 16) X.1 X.2.1 jd_gChr_4 (by decide) (fun h9 => absurd h9 (by decide)) (fun _ => ?_)
  refine lv_aload_n X.1 X.2.1 jd_gChr_7 rfl (lv_at hl 0 rfl) ?_
  refine vk_getf X.1 X.2.1 (va_OF.narrow hE.2.2.1 hA) hS X.2.2.2.1 (X.w 144 rfl rfl) (fun _ z => z) jd_gChr_8 ?_
  refine lv_iload_n X.1 X.2.1 jd_gChr_11 rfl (lv_at hl 1 rfl) ?_
  refine j_callS [.ref e, .int (nI k)] [] X hl ⟨jSg_k, hE⟩ (c_lChr (a := a) hfz hk hn hx) (X.w 72 rfl rfl) (X.w 73 rfl rfl) (X.w 11 rfl rfl) (jw_in _ (List.mem_of_getElem? (i := 74) rfl)) jb_lChr ⟨by omega, by omega⟩ ⟨by omega, by omega⟩ (Nat.zero_le _) hS hA (jA_sub (fr := []) (fun _ h => nomatch h) (Nat.le_refl _)) jd_gChr_12 (fun v9 H1 locs hq hz hk9 hS => ?_)
  obtain ⟨rfl, rfl⟩ := hq
  exact j_iret X (sc_nar _) hS ⟨rfl, rfl⟩ jd_gChr_15
end JSTR
