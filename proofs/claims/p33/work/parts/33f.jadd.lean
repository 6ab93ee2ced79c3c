/-! ===== lists: add, set, remove, clear ===== -/
section JADD
variable {l : Launch} {G : Geo} {H : Heap}
/-- a row's places and one more value hold null or objects -/
def jEs (n : Nat) (f : Nat → Option Nat) (e : Option Nat) (H : Heap) : State → Prop := fun U => jEl n f H U ∧ ∀ y, e = some y → va_Any "java/lang/Object" U H y
theorem jEs_k {n : Nat} {f : Nat → Option Nat} {e : Option Nat} : jEk (jEs n f e H) := fun u U hvm h => ⟨jEl_k u U hvm h.1, fun y hy => (h.2 y hy).moved hvm⟩
theorem cat_rf (o : Option Nat) : (va_rf o).category = 1 := by cases o <;> rfl
theorem frz2 {a d : Nat} {H : Heap} (hfz : G.2.2.1 ≤ H.size) (ha : G.2.2.1 ≤ a) (hd : G.2.2.1 ≤ d) : ∀ q, jA [a, d] H.size q → frz G q := jA_frz (fun q h => by rcases List.mem_cons.mp h with z | z; exact z ▸ ha; exact (List.mem_singleton.mp z) ▸ hd) hfz
section STEPS2
variable {E : State → Prop} {p : Program} {e : Env} {R : Room} {s : State} {m : MethodId} {args : Array Value} {below : List Frame} {meth : Method} {c : Code} {Q : State → Prop}
variable {locs : List Loc} {cells slots : Nat} {ls : Array Slot} {pc : Nat} {own : String} {cc : ByteArray} {nL : Nat} {ret : Option FieldType} {rest : List Value}
/-- a value is stored in a row -/
theorem j_ast {A : Nat → Prop} {ws : va_W} {q0 a cap : Nat} {f : Nat → Option Nat} {v : Option Nat} {i : Int32} (X : JX G E p s m meth c own cc nL ret) (hP : va_P G.1 kcl ws H) (hD : va_D A ws) (hS : va_S A s.heap H locs) (ha : ws[q0]? = some (jRO G a cap f)) (hv : ∀ y, v = some y → va_Any "java/lang/Object" s H y) (hi : vp_in i cap) (hd : decode cc pc = .ok (.aastore, 1))
    (kk : ∀ (H1 : Heap) (locs1 : List Loc), va_P G.1 kcl (ws.set q0 (jRO G a cap (va_up f i.toNatClampNeg v))) H1 → va_D A (ws.set q0 (jRO G a cap (va_up f i.toNatClampNeg v))) → va_S A s.heap H1 locs1 → W p l e R s m args below meth c H1 locs1 cells slots Q (F0 m (pc + 1) ls rest)) : W p l e R s m args below meth c H locs cells slots Q (F0 m pc ls (va_rf v :: .int i :: .ref a :: rest)) := by
  cases v with
  | none => exact va_astqN X.1 X.2.1 X.kn hP hD hS q0 0 ha rfl hi hd kk
  | some y => exact va_astqM X.1 X.2.1 X.kn hP hD hS q0 0 ha rfl (hv y rfl) hi hd kk
end STEPS2
def jy_add3 : MethodName := ⟨"java/util/ArrayList", "add", "(Ljava/lang/Object;[Ljava/lang/Object;I)V"⟩
abbrev jc_add3 : ByteArray := prog_48_method_24_code
abbrev jr_add3 : Option FieldType := (Option.none : Option Jvm.ClassFile.FieldType)
theorem jd_add3_0 : decode jc_add3 0 = .ok (.iload_n 3, 1) := by decide +kernel
theorem jd_add3_1 : decode jc_add3 1 = .ok (.aload_n 2, 1) := by decide +kernel
theorem jd_add3_2 : decode jc_add3 2 = .ok (.arraylength, 1) := by decide +kernel
theorem jd_add3_3 : decode jc_add3 3 = .ok (.if_icmp .ne 8, 3) := by decide +kernel
theorem jd_add3_6 : decode jc_add3 6 = .ok (.aload_n 0, 1) := by decide +kernel
theorem jd_add3_7 : decode jc_add3 7 = .ok (.invokevirtual 129, 3) := by decide +kernel
theorem jd_add3_10 : decode jc_add3 10 = .ok (.astore_n 2, 1) := by decide +kernel
theorem jd_add3_11 : decode jc_add3 11 = .ok (.aload_n 2, 1) := by decide +kernel
theorem jd_add3_12 : decode jc_add3 12 = .ok (.iload_n 3, 1) := by decide +kernel
theorem jd_add3_13 : decode jc_add3 13 = .ok (.aload_n 1, 1) := by decide +kernel
theorem jd_add3_14 : decode jc_add3 14 = .ok (.aastore, 1) := by decide +kernel
theorem jd_add3_15 : decode jc_add3 15 = .ok (.aload_n 0, 1) := by decide +kernel
theorem jd_add3_16 : decode jc_add3 16 = .ok (.iload_n 3, 1) := by decide +kernel
theorem jd_add3_17 : decode jc_add3 17 = .ok (.iconst 1, 1) := by decide +kernel
theorem jd_add3_18 : decode jc_add3 18 = .ok (.iadd, 1) := by decide +kernel
theorem jd_add3_19 : decode jc_add3 19 = .ok (.putfield 48, 3) := by decide +kernel
theorem jd_add3_22 : decode jc_add3 22 = .ok (.return_, 1) := by decide +kernel
theorem jb_add3 : jB jy_add3 3 := by decide +kernel
/-- the end of add, from where the row has room -/
theorem t_add3 {E : State → Prop} {p : Program} {e : Env} {R : Room} {s : State} {m : MethodId} {args : Array Value} {below : List Frame} {meth : Method} {c : Code} {locs : List Loc} {cells slots mc' ms' : Nat} {ls : Array Slot} {a q n cap : Nat} {mc : Int32} {v : Option Nat} {f : Nat → Option Nat} {fr : List Nat} {QQ : Option Value → Heap → Prop}
    (X : JX G E p s m meth c jy_add3.cls jc_add3 4 jr_add3) (h0 : ls[0]? = some (.val (.ref a))) (h1 : ls[1]? = some (.val (va_rf v))) (h2 : ls[2]? = some (.val (.ref q))) (h3 : ls[3]? = some (.val (.int (nI n))))
    (hP : va_P G.1 kcl [jLI a mc q (nI n), jRO G q cap f] H) (hD : va_D (jA fr s.heap.size) [jLI a mc q (nI n), jRO G q cap f]) (hS : va_S (jA fr s.heap.size) s.heap H locs) (hv : ∀ y, v = some y → va_Any "java/lang/Object" s H y) (hn : n < cap) (hc : cap < 100000) (hm : cells ≤ mc' ∧ slots ≤ ms')
    (hq : ∀ H1, va_P G.1 kcl [jLI a mc q (nI (n + 1)), jRO G q cap (va_up f n v)] H1 → QQ none H1) : W p l e R s m args below meth c H locs cells slots (MQ below (jQ fr QQ) args s mc' ms' (jA fr s.heap.size)) (F0 m 11 ls []) := by
  refine lv_aload_n X.1 X.2.1 jd_add3_11 rfl h2 ?_
  refine lv_iload_n X.1 X.2.1 jd_add3_12 rfl h3 ?_
  refine j_aload X (j_rf _) jd_add3_13 rfl h1 ?_
  refine j_ast X hP hD hS (q0 := 1) rfl hv (vp_in_nI hn (by omega)) jd_add3_14 (fun H locs hP hD hS => ?_)
  rw [nI_clamp (by omega)] at hP hD
  refine lv_aload_n X.1 X.2.1 jd_add3_15 rfl h0 ?_
  refine lv_iload_n X.1 X.2.1 jd_add3_16 rfl h3 ?_
  refine lv_iconst (v := 1) X.1 X.2.1 jd_add3_17 (by decide) ?_
  refine lv_iadd X.1 X.2.1 jd_add3_18 ?_
  refine j_top (nI_1 n) ?_
  refine j_put (ci := 21) (q0 := 0) (k := 2) X hP hD hS rfl (by decide) (by decide +kernel) (X.w 39 rfl rfl) (fun _ z => z) (by decide +kernel) rfl rfl (Nat.le_of_ble_eq_true rfl) jd_add3_19 (fun H locs hP hD hS => ?_)
  refine W.widen hm.1 hm.2 ?_
  exact j_vret X hS (hq _ hP) jd_add3_22
abbrev jAd (G : Geo) (a : Nat) (mc : Int32) (n cap' : Nat) (f' : Nat → Option Nat) (P : Nat → Prop) : Option Value → Heap → Prop := fun v1 H1 => v1 = none ∧ ∃ q, P q ∧ va_P G.1 kcl [jLI a mc q (nI n), jRO G q cap' f'] H1
theorem c_add3r {a d n cap : Nat} {mc : Int32} {v : Option Nat} {f : Nat → Option Nat} (hfz : G.2.2.1 ≤ H.size) (hne : a ≠ d) (hP : va_P G.1 kcl [jLI a mc d (nI n), jRO G d cap f] H) (hn : n < cap) (hc : cap < 100000) : JM l G (jEs n f v H) jy_add3 jc_add3 4 jr_add3 5 170 [.ref a, va_rf v, .ref d, .int (nI n)] [a, d] H (jAd G a mc (n + 1) cap (va_up f n v) (fun q => q = d)) 0 0 := by
  refine jm_of (by decide +kernel) (by cases v <;> exact Nat.le_of_ble_eq_true rfl) (fun p e R s m args below meth c ls X hH hl hF hL hmc hms => ?_)
  subst hH
  have hE := X.2.2.2.2.2.2.2
  have hl : lv_has ls 4 [(0, .ref a), (1, va_rf v), (2, .ref d), (3, .int (nI n))] := by cases v <;> exact hl
  have hD : va_D (jA [a, d] s.heap.size) [jLI a mc d (nI n), jRO G d cap f] := j_D2 hne (Or.inl List.mem_cons_self) (Or.inl (List.mem_cons_of_mem _ List.mem_cons_self))
  refine lv_iload_n X.1 X.2.1 jd_add3_0 rfl (lv_at hl 3 rfl) ?_
  refine lv_aload_n X.1 X.2.1 jd_add3_1 rfl (lv_at hl 2 rfl) ?_
  refine va_alen X.1 X.2.1 X.kn hP 1 0 rfl rfl (v := nI cap) rfl jd_add3_2 ?_
  refine lv_icmp_ne (tgt := 11) X.1 X.2.1 jd_add3_3 (by decide) (fun _ => ?_) (fun h9 => absurd h9 (fun z => absurd ((nI_eq (by omega) (by omega)).mp z) (by omega)))
  exact t_add3 X (lv_at hl 0 rfl) (lv_at hl 1 rfl) (lv_at hl 2 rfl) (lv_at hl 3 rfl) hP hD va_S.rf hE.2 hn hc ⟨Nat.le_refl _, Nat.le_refl _⟩ (fun H1 h => ⟨rfl, d, rfl, h⟩)
theorem c_add3a {a z : Nat} {mc : Int32} {v : Option Nat} {f : Nat → Option Nat} (hfz : G.2.2.1 ≤ H.size) (ha : G.2.2.1 ≤ a) (hva : v ≠ some a) (hP : va_P G.1 kcl [jLI a mc (G.2.2.2 2) (nI 0)] H) (hz0 : z ≤ H.size) : JM l G (jEs 0 f v H) jy_add3 jc_add3 4 jr_add3 5 170 [.ref a, va_rf v, .ref (G.2.2.2 2), .int (nI 0)] [a] H (jAd G a mc 1 10 (va_up (fun _ => none) 0 v) (fun q => z ≤ q)) 1 10 := by
  refine jm_of (by decide +kernel) (by cases v <;> exact Nat.le_of_ble_eq_true rfl) (fun p e R s m args below meth c ls X hH hl hF hL hmc hms => ?_)
  subst hH
  have hE := X.2.2.2.2.2.2.2
  have hA := jA_frz (G := G) (fr := [a]) (fun q h => by rw [List.mem_singleton.mp h]; exact ha) hfz
  have hl : lv_has ls 4 [(0, .ref a), (1, va_rf v), (2, .ref (G.2.2.2 2)), (3, .int (nI 0))] := by cases v <;> exact hl
  refine lv_iload_n X.1 X.2.1 jd_add3_0 rfl (lv_at hl 3 rfl) ?_
  refine lv_aload_n X.1 X.2.1 jd_add3_1 rfl (lv_at hl 2 rfl) ?_
  refine j_len0 X hA va_S.rf jd_add3_2 ?_
  refine lv_icmp_ne (tgt := 11) X.1 X.2.1 jd_add3_3 (by decide) (fun h9 => absurd h9 (fun z => z rfl)) (fun _ => ?_)
  refine lv_aload_n X.1 X.2.1 jd_add3_6 rfl (lv_at hl 0 rfl) ?_
  refine j_callV a [] [] X hl (jE0_ok s) (c_gr0a hfz ha hP) (X.w 81 rfl rfl) (X.w 82 rfl rfl) (X.w 8 rfl rfl) (jw_in _ (List.mem_of_getElem? (i := 83) rfl)) (X.w 1 rfl rfl) (j_rc (q0 := 0) X hP rfl (by decide)) jb_gr0 ⟨by omega, by omega⟩ ⟨by omega, by omega⟩ (Nat.zero_le _) va_S.rf hA (jA_sub (fun q h => Or.inl h) (Nat.le_refl _)) jd_add3_7 (fun v1 H1 locs hq hz hk hS => ?_)
  obtain ⟨q, rfl, h1, hP2⟩ := hq
  refine j_astore X (Or.inr ⟨_, rfl⟩) jd_add3_10 rfl hl (by decide) rfl (fun ls hl => ?_)
  have hl : lv_has ls 4 [(2, .ref q), (0, .ref a), (1, va_rf v), (3, .int (nI 0))] := by cases v <;> exact hl
  have hD : va_D (jA [a] s.heap.size) [jLI a mc q (nI 0), jRO G q 10 (fun _ => none)] := j_D2 (by have : a < s.heap.size := (hP 0 _ rfl).lt; show a ≠ q; omega) (Or.inl List.mem_cons_self) (Or.inr h1)
  exact t_add3 X (lv_at hl 1 rfl) (lv_at hl 2 rfl) (lv_at hl 0 rfl) (lv_at hl 3 rfl) hP2 hD hS (fun y hy => (hE.2 y hy).kept (by
    obtain ⟨cell, z1, -⟩ := hE.2 y hy
    exact hk y (Array.getElem?_eq_some_iff.mp z1).1 (fun z => hva (by rw [hy, List.mem_singleton.mp z])))) (by decide) (by decide) ⟨by omega, by omega⟩ (fun H1 h => ⟨rfl, q, Nat.le_trans hz0 h1, h⟩)
theorem c_add3b {a d cap z : Nat} {mc : Int32} {v : Option Nat} {f : Nat → Option Nat} (hfz : G.2.2.1 ≤ H.size) (ha : G.2.2.1 ≤ a) (hd1 : G.2.2.1 ≤ d) (hne : a ≠ d) (hva : v ≠ some a) (hvd : v ≠ some d) (hP : va_P G.1 kcl [jLI a mc d (nI cap), jRO G d cap f] H) (h2 : 2 ≤ cap) (hc : cap < 60000) (hz0 : z ≤ H.size) : JM l G (jEs cap f v H) jy_add3 jc_add3 4 jr_add3 5 170 [.ref a, va_rf v, .ref d, .int (nI cap)] [a, d] H (jAd G a mc (cap + 1) (cap + cap / 2) (va_up (va_cpy f (fun _ => none) 0 0 cap) cap v) (fun q => z ≤ q)) 1 (cap + cap / 2) := by
  refine jm_of (by decide +kernel) (by cases v <;> exact Nat.le_of_ble_eq_true rfl) (fun p e R s m args below meth c ls X hH hl hF hL hmc hms => ?_)
  subst hH
  have hE := X.2.2.2.2.2.2.2
  have hA := frz2 hfz ha hd1
  have hl : lv_has ls 4 [(0, .ref a), (1, va_rf v), (2, .ref d), (3, .int (nI cap))] := by cases v <;> exact hl
  refine lv_iload_n X.1 X.2.1 jd_add3_0 rfl (lv_at hl 3 rfl) ?_
  refine lv_aload_n X.1 X.2.1 jd_add3_1 rfl (lv_at hl 2 rfl) ?_
  refine va_alen X.1 X.2.1 X.kn hP 1 0 rfl rfl (v := nI cap) rfl jd_add3_2 ?_
  refine lv_icmp_ne (tgt := 11) X.1 X.2.1 jd_add3_3 (by decide) (fun h9 => absurd h9 (fun z => z rfl)) (fun _ => ?_)
  refine lv_aload_n X.1 X.2.1 jd_add3_6 rfl (lv_at hl 0 rfl) ?_
  refine j_callV a [] [] X hl ⟨jEl_k, hE.1⟩ (c_gr0b hfz ha hd1 hne hP h2 hc) (X.w 81 rfl rfl) (X.w 82 rfl rfl) (X.w 8 rfl rfl) (jw_in _ (List.mem_of_getElem? (i := 83) rfl)) (X.w 1 rfl rfl) (j_rc (q0 := 0) X hP rfl (by decide)) jb_gr0 ⟨by omega, by omega⟩ ⟨by omega, by omega⟩ (Nat.zero_le _) va_S.rf hA (jA_sub (fun q h => Or.inl h) (Nat.le_refl _)) jd_add3_7 (fun v1 H1 locs hq hz hk hS => ?_)
  obtain ⟨q, rfl, h1, hP2⟩ := hq
  refine j_astore X (Or.inr ⟨_, rfl⟩) jd_add3_10 rfl hl (by decide) rfl (fun ls hl => ?_)
  have hl : lv_has ls 4 [(2, .ref q), (0, .ref a), (1, va_rf v), (3, .int (nI cap))] := by cases v <;> exact hl
  have hD : va_D (jA [a, d] s.heap.size) [jLI a mc q (nI cap), jRO G q (cap + cap / 2) (va_cpy f (fun _ => none) 0 0 cap)] := j_D2 (by have : a < s.heap.size := (hP 0 _ rfl).lt; show a ≠ q; omega) (Or.inl List.mem_cons_self) (Or.inr h1)
  exact t_add3 X (lv_at hl 1 rfl) (lv_at hl 2 rfl) (lv_at hl 0 rfl) (lv_at hl 3 rfl) hP2 hD hS (fun y hy => (hE.2 y hy).kept (by
    obtain ⟨cell, z1, -⟩ := hE.2 y hy
    refine hk y (Array.getElem?_eq_some_iff.mp z1).1 (fun z => ?_)
    rcases List.mem_cons.mp z with z | z
    · exact hva (by rw [hy, z])
    · exact hvd (by rw [hy, List.mem_singleton.mp z]))) (by omega) (by omega) ⟨by omega, by omega⟩ (fun H1 h => ⟨rfl, q, Nat.le_trans hz0 h1, h⟩)
def jy_add : MethodName := ⟨"java/util/ArrayList", "add", "(Ljava/lang/Object;)Z"⟩
abbrev jc_add : ByteArray := prog_48_method_25_code
abbrev jr_add : Option FieldType := (Option.some Jvm.ClassFile.FieldType.boolean)
theorem jd_add_0 : decode jc_add 0 = .ok (.aload_n 0, 1) := by decide +kernel
theorem jd_add_1 : decode jc_add 1 = .ok (.dup, 1) := by decide +kernel
theorem jd_add_2 : decode jc_add 2 = .ok (.getfield 63, 3) := by decide +kernel
theorem jd_add_5 : decode jc_add 5 = .ok (.iconst 1, 1) := by decide +kernel
theorem jd_add_6 : decode jc_add 6 = .ok (.iadd, 1) := by decide +kernel
theorem jd_add_7 : decode jc_add 7 = .ok (.putfield 63, 3) := by decide +kernel
theorem jd_add_10 : decode jc_add 10 = .ok (.aload_n 0, 1) := by decide +kernel
theorem jd_add_11 : decode jc_add 11 = .ok (.aload_n 1, 1) := by decide +kernel
theorem jd_add_12 : decode jc_add 12 = .ok (.aload_n 0, 1) := by decide +kernel
theorem jd_add_13 : decode jc_add 13 = .ok (.getfield 9, 3) := by decide +kernel
theorem jd_add_16 : decode jc_add 16 = .ok (.aload_n 0, 1) := by decide +kernel
theorem jd_add_17 : decode jc_add 17 = .ok (.getfield 48, 3) := by decide +kernel
theorem jd_add_20 : decode jc_add 20 = .ok (.invokevirtual 131, 3) := by decide +kernel
theorem jd_add_23 : decode jc_add 23 = .ok (.iconst 1, 1) := by decide +kernel
theorem jd_add_24 : decode jc_add 24 = .ok (.ireturn, 1) := by decide +kernel
theorem jb_add : jB jy_add 1 := by decide +kernel
/-- add, over whatever the helper comes to -/
theorem c_add {a d n cap : Nat} {mc : Int32} {v : Option Nat} {f : Nat → Option Nat} {ws : va_W} {fr : List Nat} {Q3 : Heap → Prop} {mc' ms' : Nat} (hfz : G.2.2.1 ≤ H.size) (hfr : ∀ q ∈ fr, G.2.2.1 ≤ q) (hva : v ∉ fr.map some) (hvf : ∀ i, i < cap → f i ∉ fr.map some) (hP : va_P G.1 kcl (jLI a mc d (nI n) :: ws) H) (hD : va_D (jA fr H.size) (jLI a mc d (nI n) :: ws))
    (h3 : ∀ H' : Heap, H.size ≤ H'.size → va_P G.1 kcl (jLI a (mc + 1) d (nI n) :: ws) H' → JM l G (jEs cap f v H') jy_add3 jc_add3 4 jr_add3 5 170 [.ref a, va_rf v, .ref d, .int (nI n)] fr H' (fun v3 H1 => v3 = none ∧ Q3 H1) mc' ms') : JM l G (jEs cap f v H) jy_add jc_add 2 jr_add 6 210 [.ref a, va_rf v] fr H (fun v1 H1 => v1 = some (.int 1) ∧ Q3 H1) mc' ms' := by
  refine jm_of (by decide +kernel) (by cases v <;> exact Nat.le_of_ble_eq_true rfl) (fun p e R s m args below meth c ls X hH hl hF hL hmc hms => ?_)
  subst hH
  have hE := X.2.2.2.2.2.2.2
  have hA := jA_frz hfr hfz
  refine lv_aload_n X.1 X.2.1 jd_add_0 rfl (lv_at hl 0 rfl) ?_
  refine lv_dup X.1 X.2.1 jd_add_1 rfl ?_
  refine j_get (ci := 21) (q0 := 0) (k := 0) X hP rfl (by decide) (by decide +kernel) (X.w 41 rfl rfl) (fun x9 h9 => u_same (args := args) (X.w 42 rfl rfl) x9 h9) rfl jd_add_2 ?_
  refine lv_iconst (v := 1) X.1 X.2.1 jd_add_5 (by decide) ?_
  refine lv_iadd X.1 X.2.1 jd_add_6 ?_
  refine j_put (ci := 21) (q0 := 0) (k := 0) X hP hD va_S.rf rfl (by decide) (by decide +kernel) (X.w 41 rfl rfl) (fun x9 h9 => u_same (args := args) (X.w 42 rfl rfl) x9 h9) (by decide +kernel) rfl rfl (Nat.le_of_ble_eq_true rfl) jd_add_7 (fun H locs hP hD hS => ?_)
  have hP : va_P G.1 kcl (jLI a (mc + 1) d (nI n) :: ws) H := hP
  have hkp : ∀ y, some y ∉ fr.map some → va_Any "java/lang/Object" s s.heap y → va_Any "java/lang/Object" s H y := fun y hy h9 => h9.kept (by
    obtain ⟨cell, z1, -⟩ := h9
    exact hS.2.1 y (Array.getElem?_eq_some_iff.mp z1).1 (fun z => z.elim (fun w => hy (List.mem_map.mpr ⟨y, w, rfl⟩)) (fun w => absurd (Array.getElem?_eq_some_iff.mp z1).1 (Nat.not_lt.mpr w))))
  refine lv_aload_n X.1 X.2.1 jd_add_10 rfl (lv_at hl 0 rfl) ?_
  refine j_aload X (j_rf _) jd_add_11 rfl (lv_at hl 1 rfl) ?_
  refine lv_aload_n X.1 X.2.1 jd_add_12 rfl (lv_at hl 0 rfl) ?_
  refine j_get (ci := 21) (q0 := 0) (k := 1) X hP rfl (by decide) (by decide +kernel) (X.w 38 rfl rfl) (fun _ z => z) rfl jd_add_13 ?_
  refine lv_aload_n X.1 X.2.1 jd_add_16 rfl (lv_at hl 0 rfl) ?_
  refine j_get (ci := 21) (q0 := 0) (k := 2) X hP rfl (by decide) (by decide +kernel) (X.w 39 rfl rfl) (fun _ z => z) rfl jd_add_17 ?_
  refine j_callV a [va_rf v, .ref d, .int (nI n)] [] X hl ⟨jEs_k, fun i hi y hy => hkp y (by rw [← hy]; exact hvf i hi) (hE.1 i hi y hy), fun y hy => hkp y (by rw [← hy]; exact hva) (hE.2 y hy)⟩ (h3 H hS.1 hP) (X.w 78 rfl rfl) (X.w 79 rfl rfl) (X.w 8 rfl rfl) (jw_in _ (List.mem_of_getElem? (i := 80) rfl)) (X.w 0 rfl rfl) (j_rc (q0 := 0) X hP rfl (by decide)) jb_add3 ⟨by omega, by omega⟩ ⟨by omega, by omega⟩ (Nat.zero_le _) hS hA (jA_sub (fun q h => Or.inl h) hS.1) jd_add_20 (fun v1 H1 locs hq hz hk hS2 => ?_)
  obtain ⟨rfl, h9⟩ := hq
  refine lv_iconst (v := 1) X.1 X.2.1 jd_add_23 (by decide) ?_
  refine W.widen (k := mc') (n := ms') (by omega) (by omega) ?_
  exact j_iret X rfl hS2 ⟨rfl, h9⟩ jd_add_24
def jy_set : MethodName := ⟨"java/util/ArrayList", "set", "(ILjava/lang/Object;)Ljava/lang/Object;"⟩
abbrev jc_set : ByteArray := prog_48_method_23_code
abbrev jr_set : Option FieldType := (Option.some (Jvm.ClassFile.FieldType.object "java/lang/Object"))
theorem jd_set_0 : decode jc_set 0 = .ok (.iload_n 1, 1) := by decide +kernel
theorem jd_set_1 : decode jc_set 1 = .ok (.aload_n 0, 1) := by decide +kernel
theorem jd_set_2 : decode jc_set 2 = .ok (.getfield 48, 3) := by decide +kernel
theorem jd_set_5 : decode jc_set 5 = .ok (.invokestatic 118, 3) := by decide +kernel
theorem jd_set_8 : decode jc_set 8 = .ok (.pop, 1) := by decide +kernel
theorem jd_set_9 : decode jc_set 9 = .ok (.aload_n 0, 1) := by decide +kernel
theorem jd_set_10 : decode jc_set 10 = .ok (.iload_n 1, 1) := by decide +kernel
theorem jd_set_11 : decode jc_set 11 = .ok (.invokevirtual 123, 3) := by decide +kernel
theorem jd_set_14 : decode jc_set 14 = .ok (.astore_n 3, 1) := by decide +kernel
theorem jd_set_15 : decode jc_set 15 = .ok (.aload_n 0, 1) := by decide +kernel
theorem jd_set_16 : decode jc_set 16 = .ok (.getfield 9, 3) := by decide +kernel
theorem jd_set_19 : decode jc_set 19 = .ok (.iload_n 1, 1) := by decide +kernel
theorem jd_set_20 : decode jc_set 20 = .ok (.aload_n 2, 1) := by decide +kernel
theorem jd_set_21 : decode jc_set 21 = .ok (.aastore, 1) := by decide +kernel
theorem jd_set_22 : decode jc_set 22 = .ok (.aload_n 3, 1) := by decide +kernel
theorem jd_set_23 : decode jc_set 23 = .ok (.areturn, 1) := by decide +kernel
theorem jb_set : jB jy_set 2 := by decide +kernel
theorem c_set {a d n i cap : Nat} {mc : Int32} {v : Option Nat} {f : Nat → Option Nat} (hfz : G.2.2.1 ≤ H.size) (ha : G.2.2.1 ≤ a) (hd1 : G.2.2.1 ≤ d) (hne : a ≠ d) (hP : va_P G.1 kcl [jLI a mc d (nI n), jRO G d cap f] H) (hi : i < n) (hn : n ≤ cap) (hc : cap < 100000) : JM l G (jEs 0 f v H) jy_set jc_set 4 jr_set 2 60 [.ref a, .int (nI i), va_rf v] [a, d] H (fun v1 H1 => v1 = some (va_rf (f i)) ∧ va_P G.1 kcl [jLI a mc d (nI n), jRO G d cap (va_up f i v)] H1) 0 0 := by
  refine jm_of (by decide +kernel) (by cases v <;> exact Nat.le_of_ble_eq_true rfl) (fun p e R s m args below meth c ls X hH hl hF hL hmc hms => ?_)
  subst hH
  have hE := X.2.2.2.2.2.2.2
  have hA := frz2 hfz ha hd1
  have hD : va_D (jA [a, d] s.heap.size) [jLI a mc d (nI n), jRO G d cap f] := j_D2 hne (Or.inl List.mem_cons_self) (Or.inl (List.mem_cons_of_mem _ List.mem_cons_self))
  have ec : (nI i).toNatClampNeg = i := nI_clamp (by omega)
  refine lv_iload_n X.1 X.2.1 jd_set_0 rfl (lv_at hl 1 rfl) ?_
  refine lv_aload_n X.1 X.2.1 jd_set_1 rfl (lv_at hl 0 rfl) ?_
  refine j_get (ci := 21) (q0 := 0) (k := 2) X hP rfl (by decide) (by decide +kernel) (X.w 39 rfl rfl) (fun _ z => z) rfl jd_set_2 ?_
  refine j_callS [.int (nI i), .int (nI n)] [] X hl (jE0_ok s) (c_ck2 hfz (nI_pos (by omega)) (nI_lt hi (by omega))) (X.w 112 rfl rfl) (X.w 113 rfl rfl) (X.w 15 rfl rfl) (jw_in _ (List.mem_of_getElem? (i := 114) rfl)) jb_ck2 ⟨by omega, by omega⟩ ⟨by omega, by omega⟩ (Nat.zero_le _) va_S.rf hA (jA_sub (fun _ h => nomatch h) (Nat.le_refl _)) jd_set_5 (fun v1 H1 locs hq hz hk hS => ?_)
  obtain ⟨rfl, rfl⟩ := hq
  refine lv_pop X.1 X.2.1 jd_set_8 rfl ?_
  refine lv_aload_n X.1 X.2.1 jd_set_9 rfl (lv_at hl 0 rfl) ?_
  refine lv_iload_n X.1 X.2.1 jd_set_10 rfl (lv_at hl 1 rfl) ?_
  refine j_callV a [.int (nI i)] [] X hl (jE0_ok s) (c_elD hP (vp_in_nI (by omega) (by omega))) (X.w 116 rfl rfl) (X.w 117 rfl rfl) (X.w 8 rfl rfl) (jw_in _ (List.mem_of_getElem? (i := 119) rfl)) (X.w 118 rfl rfl) (j_rc (q0 := 0) X hP rfl (by decide)) jb_elD ⟨by omega, by omega⟩ ⟨by omega, by omega⟩ (Nat.zero_le _) hS hA (jA_sub (fun _ h => nomatch h) (Nat.le_refl _)) jd_set_11 (fun v1 H1 locs hq hz hk hS => ?_)
  obtain ⟨rfl, rfl⟩ := hq
  refine j_astore X (j_rf _) jd_set_14 rfl hl (by decide) rfl (fun ls hl => ?_)
  have hl : lv_has ls 4 [(3, va_rf (f (nI i).toNatClampNeg)), (0, .ref a), (1, .int (nI i)), (2, va_rf v)] := by cases v <;> exact hl
  refine lv_aload_n X.1 X.2.1 jd_set_15 rfl (lv_at hl 1 rfl) ?_
  refine j_get (ci := 21) (q0 := 0) (k := 1) X hP rfl (by decide) (by decide +kernel) (X.w 38 rfl rfl) (fun _ z => z) rfl jd_set_16 ?_
  refine lv_iload_n X.1 X.2.1 jd_set_19 rfl (lv_at hl 2 rfl) ?_
  refine j_aload X (j_rf _) jd_set_20 rfl (lv_at hl 3 rfl) ?_
  refine j_ast X hP hD hS (q0 := 1) rfl hE.2 (vp_in_nI (by omega) (by omega)) jd_set_21 (fun H locs hP hD hS => ?_)
  rw [ec] at hP hD
  refine j_aload X (j_rf _) jd_set_22 rfl (lv_at hl 0 rfl) ?_
  rw [ec]
  exact j_aret X (Or.inl ⟨_, rfl⟩) (j_rf _) hS ⟨rfl, hP⟩ jd_set_23
def jy_fRem : MethodName := ⟨"java/util/ArrayList", "fastRemove", "([Ljava/lang/Object;I)V"⟩
abbrev jc_fRem : ByteArray := prog_48_method_39_code
abbrev jr_fRem : Option FieldType := (Option.none : Option Jvm.ClassFile.FieldType)
theorem jd_fRem_0 : decode jc_fRem 0 = .ok (.aload_n 0, 1) := by decide +kernel
theorem jd_fRem_1 : decode jc_fRem 1 = .ok (.dup, 1) := by decide +kernel
theorem jd_fRem_2 : decode jc_fRem 2 = .ok (.getfield 63, 3) := by decide +kernel
theorem jd_fRem_5 : decode jc_fRem 5 = .ok (.iconst 1, 1) := by decide +kernel
theorem jd_fRem_6 : decode jc_fRem 6 = .ok (.iadd, 1) := by decide +kernel
theorem jd_fRem_7 : decode jc_fRem 7 = .ok (.putfield 63, 3) := by decide +kernel
theorem jd_fRem_10 : decode jc_fRem 10 = .ok (.aload_n 0, 1) := by decide +kernel
theorem jd_fRem_11 : decode jc_fRem 11 = .ok (.getfield 48, 3) := by decide +kernel
theorem jd_fRem_14 : decode jc_fRem 14 = .ok (.iconst 1, 1) := by decide +kernel
theorem jd_fRem_15 : decode jc_fRem 15 = .ok (.isub, 1) := by decide +kernel
theorem jd_fRem_16 : decode jc_fRem 16 = .ok (.dup, 1) := by decide +kernel
theorem jd_fRem_17 : decode jc_fRem 17 = .ok (.istore_n 3, 1) := by decide +kernel
theorem jd_fRem_18 : decode jc_fRem 18 = .ok (.iload_n 2, 1) := by decide +kernel
theorem jd_fRem_19 : decode jc_fRem 19 = .ok (.if_icmp .le 15, 3) := by decide +kernel
theorem jd_fRem_22 : decode jc_fRem 22 = .ok (.aload_n 1, 1) := by decide +kernel
theorem jd_fRem_23 : decode jc_fRem 23 = .ok (.iload_n 2, 1) := by decide +kernel
theorem jd_fRem_24 : decode jc_fRem 24 = .ok (.iconst 1, 1) := by decide +kernel
theorem jd_fRem_25 : decode jc_fRem 25 = .ok (.iadd, 1) := by decide +kernel
theorem jd_fRem_26 : decode jc_fRem 26 = .ok (.aload_n 1, 1) := by decide +kernel
theorem jd_fRem_27 : decode jc_fRem 27 = .ok (.iload_n 2, 1) := by decide +kernel
theorem jd_fRem_28 : decode jc_fRem 28 = .ok (.iload_n 3, 1) := by decide +kernel
theorem jd_fRem_29 : decode jc_fRem 29 = .ok (.iload_n 2, 1) := by decide +kernel
theorem jd_fRem_30 : decode jc_fRem 30 = .ok (.isub, 1) := by decide +kernel
theorem jd_fRem_31 : decode jc_fRem 31 = .ok (.invokestatic 112, 3) := by decide +kernel
theorem jd_fRem_34 : decode jc_fRem 34 = .ok (.aload_n 1, 1) := by decide +kernel
theorem jd_fRem_35 : decode jc_fRem 35 = .ok (.aload_n 0, 1) := by decide +kernel
theorem jd_fRem_36 : decode jc_fRem 36 = .ok (.iload_n 3, 1) := by decide +kernel
theorem jd_fRem_37 : decode jc_fRem 37 = .ok (.dup_x1, 1) := by decide +kernel
theorem jd_fRem_38 : decode jc_fRem 38 = .ok (.putfield 48, 3) := by decide +kernel
theorem jd_fRem_41 : decode jc_fRem 41 = .ok (.aconst_null, 1) := by decide +kernel
theorem jd_fRem_42 : decode jc_fRem 42 = .ok (.aastore, 1) := by decide +kernel
theorem jd_fRem_43 : decode jc_fRem 43 = .ok (.return_, 1) := by decide +kernel
theorem jb_fRem : jB jy_fRem 2 := by decide +kernel
theorem t_rem {E : State → Prop} {p : Program} {e : Env} {R : Room} {s : State} {m : MethodId} {args : Array Value} {below : List Frame} {meth : Method} {c : Code} {locs : List Loc} {ls : Array Slot} {a d n cap : Nat} {mc x : Int32} {f : Nat → Option Nat} {fr : List Nat} {QQ : Option Value → Heap → Prop}
    (X : JX G E p s m meth c jy_fRem.cls jc_fRem 4 jr_fRem) (h0 : ls[0]? = some (.val (.ref a))) (h1 : ls[1]? = some (.val (.ref d))) (h3 : ls[3]? = some (.val (.int (nI n))))
    (hP : va_P G.1 kcl [jLI a mc d x, jRO G d cap f] H) (hD : va_D (jA fr s.heap.size) [jLI a mc d x, jRO G d cap f]) (hS : va_S (jA fr s.heap.size) s.heap H locs) (hn : n < cap) (hc : cap < 100000)
    (hq : ∀ H1, va_P G.1 kcl [jLI a mc d (nI n), jRO G d cap (va_up f n none)] H1 → QQ none H1) : W p l e R s m args below meth c H locs 0 0 (MQ below (jQ fr QQ) args s 0 0 (jA fr s.heap.size)) (F0 m 34 ls []) := by
  refine lv_aload_n X.1 X.2.1 jd_fRem_34 rfl h1 ?_
  refine lv_aload_n X.1 X.2.1 jd_fRem_35 rfl h0 ?_
  refine lv_iload_n X.1 X.2.1 jd_fRem_36 rfl h3 ?_
  refine lv_dup_x1 X.1 X.2.1 jd_fRem_37 rfl rfl ?_
  refine j_put (ci := 21) (q0 := 0) (k := 2) X hP hD hS rfl (by decide) (by decide +kernel) (X.w 39 rfl rfl) (fun _ z => z) (by decide +kernel) rfl rfl (Nat.le_of_ble_eq_true rfl) jd_fRem_38 (fun H locs hP hD hS => ?_)
  refine lv_null X.1 X.2.1 jd_fRem_41 ?_
  refine j_ast (v := none) X hP hD hS (q0 := 1) rfl (fun y hy => nomatch hy) (vp_in_nI hn (by omega)) jd_fRem_42 (fun H locs hP hD hS => ?_)
  rw [nI_clamp (by omega)] at hP hD
  exact j_vret X hS (hq _ hP) jd_fRem_43
theorem c_fRem {a d n i cap : Nat} {mc : Int32} {f : Nat → Option Nat} (hfz : G.2.2.1 ≤ H.size) (ha : G.2.2.1 ≤ a) (hd1 : G.2.2.1 ≤ d) (hne : a ≠ d) (hvf : ∀ j, j < n + 1 → f j ≠ some a ∧ f j ≠ some d) (hP : va_P G.1 kcl [jLI a mc d (nI (n + 1)), jRO G d cap f] H) (hi : i < n + 1) (hn : n + 1 ≤ cap) (hc : cap < 100000) : JM l G (jEl (n + 1) f H) jy_fRem jc_fRem 4 jr_fRem 1 60 [.ref a, .ref d, .int (nI i)] [a, d] H (fun v1 H1 => v1 = none ∧ va_P G.1 kcl [jLI a (mc + 1) d (nI n), jRO G d cap (va_up (if n ≤ i then f else va_cpy f f (i + 1) i (n - i)) n none)] H1) 0 0 := by
  refine jm_of (by decide +kernel) (Nat.le_of_ble_eq_true rfl) (fun p e R s m args below meth c ls X hH hl hF hL hmc hms => ?_)
  subst hH
  have hE := X.2.2.2.2.2.2.2
  have hA := frz2 hfz ha hd1
  have hD : va_D (jA [a, d] s.heap.size) [jLI a mc d (nI (n + 1)), jRO G d cap f] := j_D2 hne (Or.inl List.mem_cons_self) (Or.inl (List.mem_cons_of_mem _ List.mem_cons_self))
  have hS := va_S.rf (A := jA [a, d] s.heap.size) (H0 := s.heap)
  refine lv_aload_n X.1 X.2.1 jd_fRem_0 rfl (lv_at hl 0 rfl) ?_
  refine lv_dup X.1 X.2.1 jd_fRem_1 rfl ?_
  refine j_get (ci := 21) (q0 := 0) (k := 0) X hP rfl (by decide) (by decide +kernel) (X.w 41 rfl rfl) (fun x9 h9 => u_same (args := args) (X.w 42 rfl rfl) x9 h9) rfl jd_fRem_2 ?_
  refine lv_iconst (v := 1) X.1 X.2.1 jd_fRem_5 (by decide) ?_
  refine lv_iadd X.1 X.2.1 jd_fRem_6 ?_
  refine j_put (ci := 21) (q0 := 0) (k := 0) X hP hD hS rfl (by decide) (by decide +kernel) (X.w 41 rfl rfl) (fun x9 h9 => u_same (args := args) (X.w 42 rfl rfl) x9 h9) (by decide +kernel) rfl rfl (Nat.le_of_ble_eq_true rfl) jd_fRem_7 (fun H locs hP hD hS => ?_)
  have hP : va_P G.1 kcl [jLI a (mc + 1) d (nI (n + 1)), jRO G d cap f] H := hP
  have hD : va_D (jA [a, d] s.heap.size) [jLI a (mc + 1) d (nI (n + 1)), jRO G d cap f] := hD
  have hkp : ∀ j, j < n + 1 → ∀ y, f j = some y → va_Any "java/lang/Object" s H y := fun j hj y hy => (hE j hj y hy).kept (by
    obtain ⟨cell, z1, -⟩ := hE j hj y hy
    refine hS.2.1 y (Array.getElem?_eq_some_iff.mp z1).1 (fun z => z.elim (fun w => ?_) (fun w => absurd (Array.getElem?_eq_some_iff.mp z1).1 (Nat.not_lt.mpr w)))
    rcases List.mem_cons.mp w with w | w
    · exact (hvf j hj).1 (by rw [hy, w])
    · exact (hvf j hj).2 (by rw [hy, List.mem_singleton.mp w]))
  refine lv_aload_n X.1 X.2.1 jd_fRem_10 rfl (lv_at hl 0 rfl) ?_
  refine j_get (ci := 21) (q0 := 0) (k := 2) X hP rfl (by decide) (by decide +kernel) (X.w 39 rfl rfl) (fun _ z => z) rfl jd_fRem_11 ?_
  refine lv_iconst (v := 1) X.1 X.2.1 jd_fRem_14 (by decide) ?_
  refine lv_isub X.1 X.2.1 jd_fRem_15 ?_
  refine j_top (nI_pred n) ?_
  refine lv_dup X.1 X.2.1 jd_fRem_16 rfl ?_
  refine lv_istore_n X.1 X.2.1 jd_fRem_17 rfl hl (by decide) rfl (fun ls hl => ?_)
  refine lv_iload_n X.1 X.2.1 jd_fRem_18 rfl (lv_at hl 3 rfl) ?_
  refine lv_icmp_le (tgt := 34) X.1 X.2.1 jd_fRem_19 (by decide) (fun c1 => ?_) (fun c1 => ?_)
  · have c2 : n ≤ i := (nI_leI (by omega) (by omega)).mp c1
    exact t_rem X (lv_at hl 1 rfl) (lv_at hl 2 rfl) (lv_at hl 0 rfl) hP hD hS (by omega) hc (fun H1 h => ⟨rfl, by rw [if_pos c2]; exact h⟩)
  · have c2 : ¬ n ≤ i := fun z => c1 ((nI_leI (by omega) (by omega)).mpr z)
    refine lv_aload_n X.1 X.2.1 jd_fRem_22 rfl (lv_at hl 2 rfl) ?_
    refine lv_iload_n X.1 X.2.1 jd_fRem_23 rfl (lv_at hl 3 rfl) ?_
    refine lv_iconst (v := 1) X.1 X.2.1 jd_fRem_24 (by decide) ?_
    refine lv_iadd X.1 X.2.1 jd_fRem_25 ?_
    refine j_top (nI_1 i) ?_
    refine lv_aload_n X.1 X.2.1 jd_fRem_26 rfl (lv_at hl 2 rfl) ?_
    refine lv_iload_n X.1 X.2.1 jd_fRem_27 rfl (lv_at hl 3 rfl) ?_
    refine lv_iload_n X.1 X.2.1 jd_fRem_28 rfl (lv_at hl 0 rfl) ?_
    refine lv_iload_n X.1 X.2.1 jd_fRem_29 rfl (lv_at hl 3 rfl) ?_
    refine lv_isub X.1 X.2.1 jd_fRem_30 ?_
    refine j_top (pk_sub (a := n) (b := i) (by omega)) ?_
    refine va_copyM X.1 X.2.1 (by rw [hl.1]; exact X.2.2.1) X.2.2.2.1 (X.w 125 rfl rfl) (X.w 108 rfl rfl) (X.w 107 rfl rfl) (X.w 14 rfl rfl) X.kn hP hD hS 1 1 0 0 rfl rfl rfl rfl (nI_pos (by omega)) (nI_pos (by omega)) (nI_pos (by omega)) (by rw [nI_clamp (by omega), nI_clamp (by omega)]; omega) (by rw [nI_clamp (by omega), nI_clamp (by omega)]; omega) (fun j hj y hy => ?_) (by omega) (Nat.le_trans (Nat.le_of_ble_eq_true rfl) hL) jd_fRem_31 (fun H locs hP hD hS => ?_)
    · rw [nI_clamp (by omega)] at hj hy
      exact hkp _ (by omega) y hy
    rw [nI_clamp (by omega), nI_clamp (by omega), nI_clamp (by omega)] at hP hD
    exact t_rem X (lv_at hl 1 rfl) (lv_at hl 2 rfl) (lv_at hl 0 rfl) hP hD hS (by omega) hc (fun H1 h => ⟨rfl, by rw [if_neg c2]; exact h⟩)
def jy_rem : MethodName := ⟨"java/util/ArrayList", "remove", "(I)Ljava/lang/Object;"⟩
abbrev jc_rem : ByteArray := prog_48_method_29_code
abbrev jr_rem : Option FieldType := (Option.some (Jvm.ClassFile.FieldType.object "java/lang/Object"))
theorem jd_rem_0 : decode jc_rem 0 = .ok (.iload_n 1, 1) := by decide +kernel
theorem jd_rem_1 : decode jc_rem 1 = .ok (.aload_n 0, 1) := by decide +kernel
theorem jd_rem_2 : decode jc_rem 2 = .ok (.getfield 48, 3) := by decide +kernel
theorem jd_rem_5 : decode jc_rem 5 = .ok (.invokestatic 118, 3) := by decide +kernel
theorem jd_rem_8 : decode jc_rem 8 = .ok (.pop, 1) := by decide +kernel
theorem jd_rem_9 : decode jc_rem 9 = .ok (.aload_n 0, 1) := by decide +kernel
theorem jd_rem_10 : decode jc_rem 10 = .ok (.getfield 9, 3) := by decide +kernel
theorem jd_rem_13 : decode jc_rem 13 = .ok (.astore_n 2, 1) := by decide +kernel
theorem jd_rem_14 : decode jc_rem 14 = .ok (.aload_n 2, 1) := by decide +kernel
theorem jd_rem_15 : decode jc_rem 15 = .ok (.iload_n 1, 1) := by decide +kernel
theorem jd_rem_16 : decode jc_rem 16 = .ok (.aaload, 1) := by decide +kernel
theorem jd_rem_17 : decode jc_rem 17 = .ok (.astore_n 3, 1) := by decide +kernel
theorem jd_rem_18 : decode jc_rem 18 = .ok (.aload_n 0, 1) := by decide +kernel
theorem jd_rem_19 : decode jc_rem 19 = .ok (.aload_n 2, 1) := by decide +kernel
theorem jd_rem_20 : decode jc_rem 20 = .ok (.iload_n 1, 1) := by decide +kernel
theorem jd_rem_21 : decode jc_rem 21 = .ok (.invokevirtual 144, 3) := by decide +kernel
theorem jd_rem_24 : decode jc_rem 24 = .ok (.aload_n 3, 1) := by decide +kernel
theorem jd_rem_25 : decode jc_rem 25 = .ok (.areturn, 1) := by decide +kernel
theorem jb_rem : jB jy_rem 1 := by decide +kernel
theorem c_rem {a d n i cap : Nat} {mc : Int32} {f : Nat → Option Nat} (hfz : G.2.2.1 ≤ H.size) (ha : G.2.2.1 ≤ a) (hd1 : G.2.2.1 ≤ d) (hne : a ≠ d) (hvf : ∀ j, j < n + 1 → f j ≠ some a ∧ f j ≠ some d) (hP : va_P G.1 kcl [jLI a mc d (nI (n + 1)), jRO G d cap f] H) (hi : i < n + 1) (hn : n + 1 ≤ cap) (hc : cap < 100000) : JM l G (jEl (n + 1) f H) jy_rem jc_rem 4 jr_rem 2 90 [.ref a, .int (nI i)] [a, d] H (fun v1 H1 => v1 = some (va_rf (f i)) ∧ va_P G.1 kcl [jLI a (mc + 1) d (nI n), jRO G d cap (va_up (if n ≤ i then f else va_cpy f f (i + 1) i (n - i)) n none)] H1) 0 0 := by
  refine jm_of (by decide +kernel) (Nat.le_of_ble_eq_true rfl) (fun p e R s m args below meth c ls X hH hl hF hL hmc hms => ?_)
  subst hH
  have hE := X.2.2.2.2.2.2.2
  have hA := frz2 hfz ha hd1
  have ec : (nI i).toNatClampNeg = i := nI_clamp (by omega)
  refine lv_iload_n X.1 X.2.1 jd_rem_0 rfl (lv_at hl 1 rfl) ?_
  refine lv_aload_n X.1 X.2.1 jd_rem_1 rfl (lv_at hl 0 rfl) ?_
  refine j_get (ci := 21) (q0 := 0) (k := 2) X hP rfl (by decide) (by decide +kernel) (X.w 39 rfl rfl) (fun _ z => z) rfl jd_rem_2 ?_
  refine j_callS [.int (nI i), .int (nI (n + 1))] [] X hl (jE0_ok s) (c_ck2 hfz (nI_pos (by omega)) (nI_lt hi (by omega))) (X.w 112 rfl rfl) (X.w 113 rfl rfl) (X.w 15 rfl rfl) (jw_in _ (List.mem_of_getElem? (i := 114) rfl)) jb_ck2 ⟨by omega, by omega⟩ ⟨by omega, by omega⟩ (Nat.zero_le _) va_S.rf hA (jA_sub (fun _ h => nomatch h) (Nat.le_refl _)) jd_rem_5 (fun v1 H1 locs hq hz hk hS => ?_)
  obtain ⟨rfl, rfl⟩ := hq
  refine lv_pop X.1 X.2.1 jd_rem_8 rfl ?_
  refine lv_aload_n X.1 X.2.1 jd_rem_9 rfl (lv_at hl 0 rfl) ?_
  refine j_get (ci := 21) (q0 := 0) (k := 1) X hP rfl (by decide) (by decide +kernel) (X.w 38 rfl rfl) (fun _ z => z) rfl jd_rem_10 ?_
  refine j_astore X (Or.inr ⟨_, rfl⟩) jd_rem_13 rfl hl (by decide) rfl (fun ls hl => ?_)
  refine lv_aload_n X.1 X.2.1 jd_rem_14 rfl (lv_at hl 0 rfl) ?_
  refine lv_iload_n X.1 X.2.1 jd_rem_15 rfl (lv_at hl 2 rfl) ?_
  refine va_aldq X.1 X.2.1 X.kn hP 1 0 rfl rfl (vp_in_nI (by omega) (by omega)) jd_rem_16 ?_
  refine j_astore X (j_rf _) jd_rem_17 rfl hl (by decide) rfl (fun ls hl => ?_)
  refine lv_aload_n X.1 X.2.1 jd_rem_18 rfl (lv_at hl 2 rfl) ?_
  refine lv_aload_n X.1 X.2.1 jd_rem_19 rfl (lv_at hl 1 rfl) ?_
  refine lv_iload_n X.1 X.2.1 jd_rem_20 rfl (lv_at hl 3 rfl) ?_
  refine j_callV a [.ref d, .int (nI i)] [] X hl ⟨jEl_k, hE⟩ (c_fRem hfz ha hd1 hne hvf hP hi hn hc) (X.w 122 rfl rfl) (X.w 123 rfl rfl) (X.w 8 rfl rfl) (jw_in _ (List.mem_of_getElem? (i := 124) rfl)) (X.w 3 rfl rfl) (j_rc (q0 := 0) X hP rfl (by decide)) jb_fRem ⟨by omega, by omega⟩ ⟨by omega, by omega⟩ (Nat.zero_le _) hS hA (jA_sub (fun q h => Or.inl h) (Nat.le_refl _)) jd_rem_21 (fun v1 H1 locs hq hz hk hS => ?_)
  obtain ⟨rfl, hP2⟩ := hq
  refine j_aload X (j_rf _) jd_rem_24 rfl (lv_at hl 0 rfl) ?_
  rw [ec]
  exact j_aret X (Or.inl ⟨_, rfl⟩) (j_rf _) hS ⟨rfl, hP2⟩ jd_rem_25
def jy_clr : MethodName := ⟨"java/util/ArrayList", "clear", "()V"⟩
abbrev jc_clr : ByteArray := prog_48_method_40_code
abbrev jr_clr : Option FieldType := (Option.none : Option Jvm.ClassFile.FieldType)
theorem jd_clr_0 : decode jc_clr 0 = .ok (.aload_n 0, 1) := by decide +kernel
theorem jd_clr_1 : decode jc_clr 1 = .ok (.dup, 1) := by decide +kernel
theorem jd_clr_2 : decode jc_clr 2 = .ok (.getfield 63, 3) := by decide +kernel
theorem jd_clr_5 : decode jc_clr 5 = .ok (.iconst 1, 1) := by decide +kernel
theorem jd_clr_6 : decode jc_clr 6 = .ok (.iadd, 1) := by decide +kernel
theorem jd_clr_7 : decode jc_clr 7 = .ok (.putfield 63, 3) := by decide +kernel
theorem jd_clr_10 : decode jc_clr 10 = .ok (.aload_n 0, 1) := by decide +kernel
theorem jd_clr_11 : decode jc_clr 11 = .ok (.getfield 9, 3) := by decide +kernel
theorem jd_clr_14 : decode jc_clr 14 = .ok (.astore_n 1, 1) := by decide +kernel
theorem jd_clr_15 : decode jc_clr 15 = .ok (.aload_n 0, 1) := by decide +kernel
theorem jd_clr_16 : decode jc_clr 16 = .ok (.getfield 48, 3) := by decide +kernel
theorem jd_clr_19 : decode jc_clr 19 = .ok (.istore_n 2, 1) := by decide +kernel
theorem jd_clr_20 : decode jc_clr 20 = .ok (.aload_n 0, 1) := by decide +kernel
theorem jd_clr_21 : decode jc_clr 21 = .ok (.iconst 0, 1) := by decide +kernel
theorem jd_clr_22 : decode jc_clr 22 = .ok (.dup_x1, 1) := by decide +kernel
theorem jd_clr_23 : decode jc_clr 23 = .ok (.putfield 48, 3) := by decide +kernel
theorem jd_clr_26 : decode jc_clr 26 = .ok (.istore_n 3, 1) := by decide +kernel
theorem jd_clr_27 : decode jc_clr 27 = .ok (.iload_n 3, 1) := by decide +kernel
theorem jd_clr_28 : decode jc_clr 28 = .ok (.iload_n 2, 1) := by decide +kernel
theorem jd_clr_29 : decode jc_clr 29 = .ok (.if_icmp .ge 13, 3) := by decide +kernel
theorem jd_clr_32 : decode jc_clr 32 = .ok (.aload_n 1, 1) := by decide +kernel
theorem jd_clr_33 : decode jc_clr 33 = .ok (.iload_n 3, 1) := by decide +kernel
theorem jd_clr_34 : decode jc_clr 34 = .ok (.aconst_null, 1) := by decide +kernel
theorem jd_clr_35 : decode jc_clr 35 = .ok (.aastore, 1) := by decide +kernel
theorem jd_clr_36 : decode jc_clr 36 = .ok (.iinc 3 1, 3) := by decide +kernel
theorem jd_clr_39 : decode jc_clr 39 = .ok (.goto (-12), 3) := by decide +kernel
theorem jd_clr_42 : decode jc_clr 42 = .ok (.return_, 1) := by decide +kernel
theorem jb_clr : jB jy_clr 0 := by decide +kernel
theorem c_clrE {a d : Nat} {mc : Int32} (hfz : G.2.2.1 ≤ H.size) (ha : G.2.2.1 ≤ a) (hP : va_P G.1 kcl [jLI a mc d (nI 0)] H) : JM l G jE0 jy_clr jc_clr 4 jr_clr 1 60 [.ref a] [a] H (fun v1 H1 => v1 = none ∧ ∃ mc', va_P G.1 kcl [jLI a mc' d (nI 0)] H1) 0 0 := by
  refine jm_of (by decide +kernel) (Nat.le_of_ble_eq_true rfl) (fun p e R s m args below meth c ls X hH hl hF hL hmc hms => ?_)
  subst hH
  have hD : va_D (jA [a] s.heap.size) [jLI a mc d (nI 0)] := j_D1 (Or.inl List.mem_cons_self)
  have hS := va_S.rf (A := jA [a] s.heap.size) (H0 := s.heap)
  refine lv_aload_n X.1 X.2.1 jd_clr_0 rfl (lv_at hl 0 rfl) ?_
  refine lv_dup X.1 X.2.1 jd_clr_1 rfl ?_
  refine j_get (ci := 21) (q0 := 0) (k := 0) X hP rfl (by decide) (by decide +kernel) (X.w 41 rfl rfl) (fun x9 h9 => u_same (args := args) (X.w 42 rfl rfl) x9 h9) rfl jd_clr_2 ?_
  refine lv_iconst (v := 1) X.1 X.2.1 jd_clr_5 (by decide) ?_
  refine lv_iadd X.1 X.2.1 jd_clr_6 ?_
  refine j_put (ci := 21) (q0 := 0) (k := 0) X hP hD hS rfl (by decide) (by decide +kernel) (X.w 41 rfl rfl) (fun x9 h9 => u_same (args := args) (X.w 42 rfl rfl) x9 h9) (by decide +kernel) rfl rfl (Nat.le_of_ble_eq_true rfl) jd_clr_7 (fun H locs hP hD hS => ?_)
  refine lv_aload_n X.1 X.2.1 jd_clr_10 rfl (lv_at hl 0 rfl) ?_
  refine j_get (ci := 21) (q0 := 0) (k := 1) X hP rfl (by decide) (by decide +kernel) (X.w 38 rfl rfl) (fun _ z => z) rfl jd_clr_11 ?_
  refine j_astore X (Or.inr ⟨_, rfl⟩) jd_clr_14 rfl hl (by decide) rfl (fun ls hl => ?_)
  refine lv_aload_n X.1 X.2.1 jd_clr_15 rfl (lv_at hl 1 rfl) ?_
  refine j_get (ci := 21) (q0 := 0) (k := 2) X hP rfl (by decide) (by decide +kernel) (X.w 39 rfl rfl) (fun _ z => z) rfl jd_clr_16 ?_
  refine lv_istore_n X.1 X.2.1 jd_clr_19 rfl hl (by decide) rfl (fun ls hl => ?_)
  refine lv_aload_n X.1 X.2.1 jd_clr_20 rfl (lv_at hl 2 rfl) ?_
  refine lv_iconst (v := 0) X.1 X.2.1 jd_clr_21 (by decide) ?_
  refine lv_dup_x1 X.1 X.2.1 jd_clr_22 rfl rfl ?_
  refine j_put (ci := 21) (q0 := 0) (k := 2) X hP hD hS rfl (by decide) (by decide +kernel) (X.w 39 rfl rfl) (fun _ z => z) (by decide +kernel) rfl rfl (Nat.le_of_ble_eq_true rfl) jd_clr_23 (fun H locs hP hD hS => ?_)
  refine lv_istore_n X.1 X.2.1 jd_clr_26 rfl hl (by decide) rfl (fun ls hl => ?_)
  refine lv_iload_n X.1 X.2.1 jd_clr_27 rfl (lv_at hl 0 rfl) ?_
  refine lv_iload_n X.1 X.2.1 jd_clr_28 rfl (lv_at hl 1 rfl) ?_
  refine lv_icmp_ge (tgt := 42) X.1 X.2.1 jd_clr_29 (by decide) (fun _ => ?_) (fun h9 => absurd (Int32.le_refl _) h9)
  exact j_vret X hS ⟨rfl, _, hP⟩ jd_clr_42
theorem c_clr {a d n cap : Nat} {mc : Int32} {f : Nat → Option Nat} (hfz : G.2.2.1 ≤ H.size) (hne : a ≠ d) (hP : va_P G.1 kcl [jLI a mc d (nI n), jRO G d cap f] H) (hn : n ≤ cap) (hc : cap < 100000) : JM l G jE0 jy_clr jc_clr 4 jr_clr 1 60 [.ref a] [a, d] H (fun v1 H1 => v1 = none ∧ ∃ mc' f', va_P G.1 kcl [jLI a mc' d (nI 0), jRO G d cap f'] H1) 0 0 := by
  refine jm_of (by decide +kernel) (Nat.le_of_ble_eq_true rfl) (fun p e R s m args below meth c ls X hH hl hF hL hmc hms => ?_)
  subst hH
  have hD : va_D (jA [a, d] s.heap.size) [jLI a mc d (nI n), jRO G d cap f] := j_D2 hne (Or.inl List.mem_cons_self) (Or.inl (List.mem_cons_of_mem _ List.mem_cons_self))
  have hS := va_S.rf (A := jA [a, d] s.heap.size) (H0 := s.heap)
  have loop : ∀ (j k : Nat) (H : Heap) (locs : List Loc) (ls : Array Slot) (f : Nat → Option Nat), k + j = n → lv_has ls 4 [(3, .int (nI k)), (2, .int (nI n)), (1, .ref d), (0, .ref a)] → va_P G.1 kcl [jLI a (mc + 1) d (nI 0), jRO G d cap f] H → va_D (jA [a, d] s.heap.size) [jLI a (mc + 1) d (nI 0), jRO G d cap f] → va_S (jA [a, d] s.heap.size) s.heap H locs →
      W p l e R s m args below meth c H locs 0 0 (MQ below (jQ [a, d] (fun v1 H1 => v1 = none ∧ ∃ mc' f', va_P G.1 kcl [jLI a mc' d (nI 0), jRO G d cap f'] H1)) args s 0 0 (jA [a, d] s.heap.size)) (F0 m 27 ls []) := by
    intro j
    induction j with
    | zero =>
      intro k H locs ls f hk hl hP hD hS
      refine lv_iload_n X.1 X.2.1 jd_clr_27 rfl (lv_at hl 0 rfl) ?_
      refine lv_iload_n X.1 X.2.1 jd_clr_28 rfl (lv_at hl 1 rfl) ?_
      refine lv_icmp_ge (tgt := 42) X.1 X.2.1 jd_clr_29 (by decide) (fun _ => ?_) (fun h9 => absurd ((nI_leI (by omega) (by omega)).mpr (by omega)) h9)
      exact j_vret X hS ⟨rfl, _, _, hP⟩ jd_clr_42
    | succ j ih =>
      intro k H locs ls f hk hl hP hD hS
      refine lv_iload_n X.1 X.2.1 jd_clr_27 rfl (lv_at hl 0 rfl) ?_
      refine lv_iload_n X.1 X.2.1 jd_clr_28 rfl (lv_at hl 1 rfl) ?_
      refine lv_icmp_ge (tgt := 42) X.1 X.2.1 jd_clr_29 (by decide) (fun h9 => absurd h9 (fun z => absurd ((nI_leI (by omega) (by omega)).mp z) (by omega))) (fun _ => ?_)
      refine lv_aload_n X.1 X.2.1 jd_clr_32 rfl (lv_at hl 2 rfl) ?_
      refine lv_iload_n X.1 X.2.1 jd_clr_33 rfl (lv_at hl 0 rfl) ?_
      refine lv_null X.1 X.2.1 jd_clr_34 ?_
      refine j_ast (v := none) X hP hD hS (q0 := 1) rfl (fun y hy => nomatch hy) (vp_in_nI (by omega) (by omega)) jd_clr_35 (fun H locs hP hD hS => ?_)
      refine lv_iinc (v := nI (k + 1)) X.1 X.2.1 jd_clr_36 hl (k := 0) rfl (nI_1 k) (by decide) rfl (fun ls hl => ?_)
      refine lv_goto (tgt := 27) X.1 X.2.1 jd_clr_39 (by decide) ?_
      exact ih (k + 1) H locs ls _ (by omega) hl hP hD hS
  refine lv_aload_n X.1 X.2.1 jd_clr_0 rfl (lv_at hl 0 rfl) ?_
  refine lv_dup X.1 X.2.1 jd_clr_1 rfl ?_
  refine j_get (ci := 21) (q0 := 0) (k := 0) X hP rfl (by decide) (by decide +kernel) (X.w 41 rfl rfl) (fun x9 h9 => u_same (args := args) (X.w 42 rfl rfl) x9 h9) rfl jd_clr_2 ?_
  refine lv_iconst (v := 1) X.1 X.2.1 jd_clr_5 (by decide) ?_
  refine lv_iadd X.1 X.2.1 jd_clr_6 ?_
  refine j_put (ci := 21) (q0 := 0) (k := 0) X hP hD hS rfl (by decide) (by decide +kernel) (X.w 41 rfl rfl) (fun x9 h9 => u_same (args := args) (X.w 42 rfl rfl) x9 h9) (by decide +kernel) rfl rfl (Nat.le_of_ble_eq_true rfl) jd_clr_7 (fun H locs hP hD hS => ?_)
  refine lv_aload_n X.1 X.2.1 jd_clr_10 rfl (lv_at hl 0 rfl) ?_
  refine j_get (ci := 21) (q0 := 0) (k := 1) X hP rfl (by decide) (by decide +kernel) (X.w 38 rfl rfl) (fun _ z => z) rfl jd_clr_11 ?_
  refine j_astore X (Or.inr ⟨_, rfl⟩) jd_clr_14 rfl hl (by decide) rfl (fun ls hl => ?_)
  refine lv_aload_n X.1 X.2.1 jd_clr_15 rfl (lv_at hl 1 rfl) ?_
  refine j_get (ci := 21) (q0 := 0) (k := 2) X hP rfl (by decide) (by decide +kernel) (X.w 39 rfl rfl) (fun _ z => z) rfl jd_clr_16 ?_
  refine lv_istore_n X.1 X.2.1 jd_clr_19 rfl hl (by decide) rfl (fun ls hl => ?_)
  refine lv_aload_n X.1 X.2.1 jd_clr_20 rfl (lv_at hl 2 rfl) ?_
  refine lv_iconst (v := 0) X.1 X.2.1 jd_clr_21 (by decide) ?_
  refine lv_dup_x1 X.1 X.2.1 jd_clr_22 rfl rfl ?_
  refine j_put (ci := 21) (q0 := 0) (k := 2) X hP hD hS rfl (by decide) (by decide +kernel) (X.w 39 rfl rfl) (fun _ z => z) (by decide +kernel) rfl rfl (Nat.le_of_ble_eq_true rfl) jd_clr_23 (fun H locs hP hD hS => ?_)
  refine lv_istore_n X.1 X.2.1 jd_clr_26 rfl hl (by decide) rfl (fun ls hl => ?_)
  exact loop n 0 H locs ls f (by omega) hl hP hD hS
end JADD
