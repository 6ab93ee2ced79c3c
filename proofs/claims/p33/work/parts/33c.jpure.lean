/-! ===== the JDK's methods that write nothing ===== -/
abbrev jLI (a : Nat) (mc : Int32) (d : Nat) (n : Int32) : Nat × va_E := (a, .inr (21, [.int mc, .ref d, .int n]))
abbrev jRO (G : Geo) (d cap : Nat) (f : Nat → Option Nat) : Nat × va_E := (d, .inl (G.2.1 1010, cap, .inr (.inr (.inr (.inr f)))))
abbrev jSB (a d : Nat) (ml n : Int32) : Nat × va_E := (a, .inr (22, [.ref d, .int 0, .int ml, .int n]))
abbrev jRB (G : Geo) (d cap : Nat) (f : Nat → Int32) : Nat × va_E := (d, .inl (G.2.1 1003, cap, .inl f))
/-- no cell changes, the answer is v -/
abbrev jR (H : Heap) (v : Option Value) : Option Value → Heap → Prop := fun v1 H1 => v1 = v ∧ H1 = H
section JPURE
variable {l : Launch} {G : Geo} {H : Heap}
def jy_ck3 : MethodName := ⟨"jdk/internal/util/Preconditions", "checkIndex", "(IILjava/util/function/BiFunction;)I"⟩
abbrev jc_ck3 : ByteArray := prog_56_method_11_code
abbrev jr_ck3 : Option FieldType := (Option.some Jvm.ClassFile.FieldType.int)
theorem jd_ck3_0 : decode jc_ck3 0 = .ok (.iload_n 0, 1) := by decide +kernel
theorem jd_ck3_1 : decode jc_ck3 1 = .ok (.ifCond .lt 8, 3) := by decide +kernel
theorem jd_ck3_4 : decode jc_ck3 4 = .ok (.iload_n 0, 1) := by decide +kernel
theorem jd_ck3_5 : decode jc_ck3 5 = .ok (.iload_n 1, 1) := by decide +kernel
theorem jd_ck3_6 : decode jc_ck3 6 = .ok (.if_icmp .lt 10, 3) := by decide +kernel
theorem jd_ck3_9 : decode jc_ck3 9 = .ok (.aload_n 2, 1) := by decide +kernel
theorem jd_ck3_10 : decode jc_ck3 10 = .ok (.iload_n 0, 1) := by decide +kernel
theorem jd_ck3_11 : decode jc_ck3 11 = .ok (.iload_n 1, 1) := by decide +kernel
theorem jd_ck3_12 : decode jc_ck3 12 = .ok (.invokestatic 95, 3) := by decide +kernel
theorem jd_ck3_15 : decode jc_ck3 15 = .ok (.athrow, 1) := by decide +kernel
theorem jd_ck3_16 : decode jc_ck3 16 = .ok (.iload_n 0, 1) := by decide +kernel
theorem jd_ck3_17 : decode jc_ck3 17 = .ok (.ireturn, 1) := by decide +kernel
theorem jb_ck3 : jB jy_ck3 3 := by decide +kernel
theorem c_ck3 {i n : Int32} {f : Value} (hf : f = .null ∨ ∃ q, f = .ref q) (h0 : ¬ i < 0) (h1 : i < n) : JM l G jE0 jy_ck3 jc_ck3 3 jr_ck3 0 0 [.int i, .int n, f] [] H (jR H (some (.int i))) 0 0 := by
  refine jm_of (by decide +kernel) (by rcases hf with rfl | ⟨q, rfl⟩ <;> exact Nat.le_of_ble_eq_true rfl) (fun p e R s m args below meth c ls X hH hl hF hL hmc hms => ?_)
  subst hH
  refine lv_iload_n X.1 X.2.1 jd_ck3_0 rfl (lv_at hl 0 rfl) ?_
  refine lv_if_lt (tgt := 9) X.1 X.2.1 jd_ck3_1 (by decide) (fun h9 => absurd h9 (h0)) (fun _ => ?_)
  refine lv_iload_n X.1 X.2.1 jd_ck3_4 rfl (lv_at hl 0 rfl) ?_
  refine lv_iload_n X.1 X.2.1 jd_ck3_5 rfl (lv_at hl 1 rfl) ?_
  refine lv_icmp_lt (tgt := 16) X.1 X.2.1 jd_ck3_6 (by decide) (fun _ => ?_) (fun h9 => absurd (h1) h9)
  refine lv_iload_n X.1 X.2.1 jd_ck3_16 rfl (lv_at hl 0 rfl) ?_
  exact j_iret X rfl va_S.rf ⟨rfl, rfl⟩ jd_ck3_17
def jy_ck2 : MethodName := ⟨"java/util/Objects", "checkIndex", "(II)I"⟩
abbrev jc_ck2 : ByteArray := prog_52_method_17_code
abbrev jr_ck2 : Option FieldType := (Option.some Jvm.ClassFile.FieldType.int)
theorem jd_ck2_0 : decode jc_ck2 0 = .ok (.iload_n 0, 1) := by decide +kernel
theorem jd_ck2_1 : decode jc_ck2 1 = .ok (.iload_n 1, 1) := by decide +kernel
theorem jd_ck2_2 : decode jc_ck2 2 = .ok (.aconst_null, 1) := by decide +kernel
theorem jd_ck2_3 : decode jc_ck2 3 = .ok (.invokestatic 105, 3) := by decide +kernel
theorem jd_ck2_6 : decode jc_ck2 6 = .ok (.ireturn, 1) := by decide +kernel
theorem jb_ck2 : jB jy_ck2 2 := by decide +kernel
theorem c_ck2 {i n : Int32} (hfz : G.2.2.1 ≤ H.size) (h0 : ¬ i < 0) (h1 : i < n) : JM l G jE0 jy_ck2 jc_ck2 2 jr_ck2 1 22 [.int i, .int n] [] H (jR H (some (.int i))) 0 0 := by
  refine jm_of (by decide +kernel) (Nat.le_of_ble_eq_true rfl) (fun p e R s m args below meth c ls X hH hl hF hL hmc hms => ?_)
  subst hH
  refine lv_iload_n X.1 X.2.1 jd_ck2_0 rfl (lv_at hl 0 rfl) ?_
  refine lv_iload_n X.1 X.2.1 jd_ck2_1 rfl (lv_at hl 1 rfl) ?_
  refine lv_null X.1 X.2.1 jd_ck2_2 ?_
  refine j_callS [.int i, .int n, .null] [] X hl (jE0_ok s) (c_ck3 (Or.inl rfl) h0 h1) (X.w 115 rfl rfl) (X.w 59 rfl rfl) (X.w 10 rfl rfl) (jw_in _ (List.mem_of_getElem? (i := 60) rfl)) jb_ck3 ⟨by omega, by omega⟩ ⟨by omega, by omega⟩ (Nat.zero_le _) va_S.rf (jA_frz (fr := []) (fun _ h => nomatch h) hfz) (jA_sub (fr := []) (fun _ h => nomatch h) (Nat.le_refl _)) jd_ck2_3 (fun v H1 locs hq hz hk hS => ?_)
  obtain ⟨rfl, rfl⟩ := hq
  exact j_iret X rfl hS ⟨rfl, rfl⟩ jd_ck2_6
def jy_size : MethodName := ⟨"java/util/ArrayList", "size", "()I"⟩
abbrev jc_size : ByteArray := prog_48_method_8_code
abbrev jr_size : Option FieldType := (Option.some Jvm.ClassFile.FieldType.int)
theorem jd_size_0 : decode jc_size 0 = .ok (.aload_n 0, 1) := by decide +kernel
theorem jd_size_1 : decode jc_size 1 = .ok (.getfield 48, 3) := by decide +kernel
theorem jd_size_4 : decode jc_size 4 = .ok (.ireturn, 1) := by decide +kernel
theorem jb_size : jB jy_size 0 := by decide +kernel
theorem c_size {a d : Nat} {mc n : Int32} {ws : va_W} (hP : va_P G.1 kcl (jLI a mc d n :: ws) H) : JM l G jE0 jy_size jc_size 1 jr_size 0 0 [.ref a] [] H (jR H (some (.int n))) 0 0 := by
  refine jm_of (by decide +kernel) (Nat.le_of_ble_eq_true rfl) (fun p e R s m args below meth c ls X hH hl hF hL hmc hms => ?_)
  subst hH
  refine lv_aload_n X.1 X.2.1 jd_size_0 rfl (lv_at hl 0 rfl) ?_
  refine j_get (ci := 21) (q0 := 0) (k := 2) X hP rfl (by decide) (by decide +kernel) (X.w 39 rfl rfl) (fun _ z => z) rfl jd_size_1 ?_
  exact j_iret X rfl va_S.rf ⟨rfl, rfl⟩ jd_size_4
def jy_isE : MethodName := ⟨"java/util/ArrayList", "isEmpty", "()Z"⟩
abbrev jc_isE : ByteArray := prog_48_method_9_code
abbrev jr_isE : Option FieldType := (Option.some Jvm.ClassFile.FieldType.boolean)
theorem jd_isE_0 : decode jc_isE 0 = .ok (.aload_n 0, 1) := by decide +kernel
theorem jd_isE_1 : decode jc_isE 1 = .ok (.getfield 48, 3) := by decide +kernel
theorem jd_isE_4 : decode jc_isE 4 = .ok (.ifCond .ne 7, 3) := by decide +kernel
theorem jd_isE_7 : decode jc_isE 7 = .ok (.iconst 1, 1) := by decide +kernel
theorem jd_isE_8 : decode jc_isE 8 = .ok (.goto 4, 3) := by decide +kernel
theorem jd_isE_11 : decode jc_isE 11 = .ok (.iconst 0, 1) := by decide +kernel
theorem jd_isE_12 : decode jc_isE 12 = .ok (.ireturn, 1) := by decide +kernel
theorem jb_isE : jB jy_isE 0 := by decide +kernel
theorem c_isE {a d : Nat} {mc n : Int32} {ws : va_W} (hP : va_P G.1 kcl (jLI a mc d n :: ws) H) : JM l G jE0 jy_isE jc_isE 1 jr_isE 0 0 [.ref a] [] H (jR H (some (.int (if n = 0 then 1 else 0)))) 0 0 := by
  refine jm_of (by decide +kernel) (Nat.le_of_ble_eq_true rfl) (fun p e R s m args below meth c ls X hH hl hF hL hmc hms => ?_)
  subst hH
  refine lv_aload_n X.1 X.2.1 jd_isE_0 rfl (lv_at hl 0 rfl) ?_
  refine j_get (ci := 21) (q0 := 0) (k := 2) X hP rfl (by decide) (by decide +kernel) (X.w 39 rfl rfl) (fun _ z => z) rfl jd_isE_1 ?_
  refine lv_if_ne (tgt := 11) X.1 X.2.1 jd_isE_4 (by decide) (fun c0 => ?_) (fun c0 => ?_)
  · refine lv_iconst (v := 0) X.1 X.2.1 jd_isE_11 (by decide) ?_
    exact j_iret X rfl va_S.rf ⟨by rw [if_neg c0], rfl⟩ jd_isE_12
  · refine lv_iconst (v := 1) X.1 X.2.1 jd_isE_7 (by decide) ?_
    refine lv_goto (tgt := 12) X.1 X.2.1 jd_isE_8 (by decide) ?_
    exact j_iret X rfl va_S.rf ⟨by rw [if_pos c0], rfl⟩ jd_isE_12
def jy_elD : MethodName := ⟨"java/util/ArrayList", "elementData", "(I)Ljava/lang/Object;"⟩
abbrev jc_elD : ByteArray := prog_48_method_18_code
abbrev jr_elD : Option FieldType := (Option.some (Jvm.ClassFile.FieldType.object "java/lang/Object"))
theorem jd_elD_0 : decode jc_elD 0 = .ok (.aload_n 0, 1) := by decide +kernel
theorem jd_elD_1 : decode jc_elD 1 = .ok (.getfield 9, 3) := by decide +kernel
theorem jd_elD_4 : decode jc_elD 4 = .ok (.iload_n 1, 1) := by decide +kernel
theorem jd_elD_5 : decode jc_elD 5 = .ok (.aaload, 1) := by decide +kernel
theorem jd_elD_6 : decode jc_elD 6 = .ok (.areturn, 1) := by decide +kernel
theorem jb_elD : jB jy_elD 1 := by decide +kernel
theorem c_elD {a d cap : Nat} {mc n i : Int32} {f : Nat → Option Nat} (hP : va_P G.1 kcl [jLI a mc d n, jRO G d cap f] H) (hi : vp_in i cap) : JM l G jE0 jy_elD jc_elD 2 jr_elD 0 0 [.ref a, .int i] [] H (jR H (some (va_rf (f i.toNatClampNeg)))) 0 0 := by
  refine jm_of (by decide +kernel) (Nat.le_of_ble_eq_true rfl) (fun p e R s m args below meth c ls X hH hl hF hL hmc hms => ?_)
  subst hH
  refine lv_aload_n X.1 X.2.1 jd_elD_0 rfl (lv_at hl 0 rfl) ?_
  refine j_get (ci := 21) (q0 := 0) (k := 1) X hP rfl (by decide) (by decide +kernel) (X.w 38 rfl rfl) (fun _ z => z) rfl jd_elD_1 ?_
  refine lv_iload_n X.1 X.2.1 jd_elD_4 rfl (lv_at hl 1 rfl) ?_
  refine va_aldq X.1 X.2.1 X.kn hP 1 0 rfl rfl hi jd_elD_5 ?_
  exact j_aret X (Or.inl ⟨_, rfl⟩) (j_rf _) va_S.rf ⟨rfl, rfl⟩ jd_elD_6
def jy_get : MethodName := ⟨"java/util/ArrayList", "get", "(I)Ljava/lang/Object;"⟩
abbrev jc_get : ByteArray := prog_48_method_20_code
abbrev jr_get : Option FieldType := (Option.some (Jvm.ClassFile.FieldType.object "java/lang/Object"))
theorem jd_get_0 : decode jc_get 0 = .ok (.iload_n 1, 1) := by decide +kernel
theorem jd_get_1 : decode jc_get 1 = .ok (.aload_n 0, 1) := by decide +kernel
theorem jd_get_2 : decode jc_get 2 = .ok (.getfield 48, 3) := by decide +kernel
theorem jd_get_5 : decode jc_get 5 = .ok (.invokestatic 118, 3) := by decide +kernel
theorem jd_get_8 : decode jc_get 8 = .ok (.pop, 1) := by decide +kernel
theorem jd_get_9 : decode jc_get 9 = .ok (.aload_n 0, 1) := by decide +kernel
theorem jd_get_10 : decode jc_get 10 = .ok (.iload_n 1, 1) := by decide +kernel
theorem jd_get_11 : decode jc_get 11 = .ok (.invokevirtual 123, 3) := by decide +kernel
theorem jd_get_14 : decode jc_get 14 = .ok (.areturn, 1) := by decide +kernel
theorem jb_get : jB jy_get 1 := by decide +kernel
theorem c_get {a d cap : Nat} {mc n i : Int32} {f : Nat → Option Nat} (hfz : G.2.2.1 ≤ H.size) (hP : va_P G.1 kcl [jLI a mc d n, jRO G d cap f] H) (h0 : ¬ i < 0) (h1 : i < n) (hi : vp_in i cap) : JM l G jE0 jy_get jc_get 2 jr_get 2 50 [.ref a, .int i] [] H (jR H (some (va_rf (f i.toNatClampNeg)))) 0 0 := by
  refine jm_of (by decide +kernel) (Nat.le_of_ble_eq_true rfl) (fun p e R s m args below meth c ls X hH hl hF hL hmc hms => ?_)
  subst hH
  have hA := jA_frz (G := G) (fr := []) (fun _ h => nomatch h) hfz
  refine lv_iload_n X.1 X.2.1 jd_get_0 rfl (lv_at hl 1 rfl) ?_
  refine lv_aload_n X.1 X.2.1 jd_get_1 rfl (lv_at hl 0 rfl) ?_
  refine j_get (ci := 21) (q0 := 0) (k := 2) X hP rfl (by decide) (by decide +kernel) (X.w 39 rfl rfl) (fun _ z => z) rfl jd_get_2 ?_
  refine j_callS [.int i, .int n] [] X hl (jE0_ok s) (c_ck2 hfz h0 h1) (X.w 112 rfl rfl) (X.w 113 rfl rfl) (X.w 15 rfl rfl) (jw_in _ (List.mem_of_getElem? (i := 114) rfl)) jb_ck2 ⟨by omega, by omega⟩ ⟨by omega, by omega⟩ (Nat.zero_le _) va_S.rf hA (jA_sub (fr := []) (fun _ h => nomatch h) (Nat.le_refl _)) jd_get_5 (fun v H1 locs hq hz hk hS => ?_)
  obtain ⟨rfl, rfl⟩ := hq
  refine lv_pop X.1 X.2.1 jd_get_8 rfl ?_
  refine lv_aload_n X.1 X.2.1 jd_get_9 rfl (lv_at hl 0 rfl) ?_
  refine lv_iload_n X.1 X.2.1 jd_get_10 rfl (lv_at hl 1 rfl) ?_
  refine j_callV a [.int i] [] X hl (jE0_ok s) (c_elD hP hi) (X.w 116 rfl rfl) (X.w 117 rfl rfl) (X.w 8 rfl rfl) (jw_in _ (List.mem_of_getElem? (i := 119) rfl)) (X.w 118 rfl rfl) (j_rc (q0 := 0) X hP rfl (by decide)) jb_elD ⟨by omega, by omega⟩ ⟨by omega, by omega⟩ (Nat.zero_le _) hS hA (jA_sub (fr := []) (fun _ h => nomatch h) (Nat.le_refl _)) jd_get_11 (fun v H1 locs hq hz hk hS => ?_)
  obtain ⟨rfl, rfl⟩ := hq
  exact j_aret X (Or.inl ⟨_, rfl⟩) (j_rf _) hS ⟨rfl, rfl⟩ jd_get_14
end JPURE
