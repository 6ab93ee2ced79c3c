/-! ===== the law's start: words ===== -/
def stWd : List Cond := [.initialized "Chipcardhouse", .initialized "java/lang/String", .initialized "java/util/ArrayList", .initialized "jdk/internal/util/Preconditions", .initialized "java/lang/Throwable", .laysStatic "java/lang/String" "COMPACT_STRINGS" "Z", .laysStatic "java/util/ArrayList" "DEFAULTCAPACITY_EMPTY_ELEMENTDATA" "[Ljava/lang/Object;", .arrayOver (.object "Chipcardhouse$Known"), .laysStatic "jdk/internal/util/Preconditions" "SIOOBE_FORMATTER" "Ljava/util/function/BiFunction;", .laysStatic "Chipcardhouse" "NUMBERS_OF" "[I", .stringRef "Chipcardhouse$Script" 82 "account", .stringRef "Chipcardhouse$Script" 84 "shop", .stringRef "Chipcardhouse$Script" 86 "card", .stringRef "Chipcardhouse$Script" 88 "pay", .stringRef "Chipcardhouse$Script" 90 "send", .stringRef "Chipcardhouse$Script" 92 "back", .stringRef "Chipcardhouse$Script" 94 "wait", .stringRef "Chipcardhouse$Script" 96 "fault", .stringRef "Chipcardhouse$Script" 98 "open", .stringRef "Chipcardhouse$Script" 100 "close", .stringRef "Chipcardhouse$Script" 102 "house", .stringRef "Chipcardhouse$Script" 104 "tell", .stringRef "Chipcardhouse$Script" 106 "stolen", .stringRef "Chipcardhouse$Script" 108 "freeze", .stringRef "Chipcardhouse$Script" 110 "day", .stringRef "Chipcardhouse$Script" 112 "dispute", .stringRef "Chipcardhouse$Script" 68 "touch", .laysStatic "java/lang/Throwable" "UNASSIGNED_STACK" "[Ljava/lang/StackTraceElement;", .laysStatic "java/lang/Throwable" "SUPPRESSED_SENTINEL" "Ljava/util/List;", .arrayOver (.object "java/lang/Object"), .declares ⟨"java/lang/Object", "getClass", "()Ljava/lang/Class;"⟩]
set_option maxRecDepth 100000 in
theorem st_p : stWd = pickP [51, 3, 4, 3, 1, 44, 70, 19, 121, 24, 3, 0, 0, 0, 0, 0, 0, 0, 0, 0, 0, 0, 0, 0, 0, 0, 41, 41, 1, 170, 972] lw_tbl := rfl
theorem st_in {w : Cond} {i : Nat} (h : stWd[i]? = some w) : w ∈ lw_tbl := in_of st_p w (List.mem_of_getElem? h)
/-- the statement's conditions, one by one -/
def narL : List Cond := flatC (Cond.and given_1 narrow_1)
theorem blk_in {l ws : List Cond} {p n : Nat} (h : ws = (l.drop p).take n) : ∀ w ∈ ws, w ∈ l := fun w hw => List.mem_of_mem_drop (List.mem_of_mem_take (h ▸ hw))
def cS (j : Nat) : Nat := if j = 0 then 68 else 80 + 2 * j
def vS (own : String) (k : Nat) : Term := .field (.string own k) "java/lang/String" "value" "[B"
def strW (own : String) (k : Nat) (t : List Nat) : List Cond := [.exactly (.string own k) "java/lang/String", .eq (.field (.string own k) "java/lang/String" "coder" "B") (.int 0), .arrayOf (vS own k) .byte, .eq (.length (vS own k)) (.int (Int32.ofNat t.length))] ++ (List.range t.length).map (fun j => .eq (.elem (vS own k) (.int (Int32.ofNat j))) (.int (Int32.ofNat (t.getD j 0))))
def sPos : List (Nat × Nat) := [(360, 9), (101, 11), (112, 8), (121, 8), (131, 7), (141, 8), (153, 8), (166, 8), (180, 9), (196, 8), (212, 9), (230, 9), (249, 8), (268, 10), (290, 10), (313, 7), (334, 11)]
theorem strW_p : ∀ j, j < 17 → strW "Chipcardhouse$Script" (cS j) (wd j) = (narL.drop (sPos.getD j (0, 0)).1).take (sPos.getD j (0, 0)).2 := by decide +kernel
theorem nw_cs : Cond.eq (.static "java/lang/String" "COMPACT_STRINGS" "Z") (.int 1) ∈ narL := List.mem_of_getElem? (i := 4) (by decide +kernel)
theorem nw_d1 : Cond.arrayOf (.static "java/util/ArrayList" "DEFAULTCAPACITY_EMPTY_ELEMENTDATA" "[Ljava/lang/Object;") (.object "java/lang/Object") ∈ narL := List.mem_of_getElem? (i := 6) (by decide +kernel)
theorem nw_d2 : Cond.eq (.length (.static "java/util/ArrayList" "DEFAULTCAPACITY_EMPTY_ELEMENTDATA" "[Ljava/lang/Object;")) (.int (Int32.ofNat 0)) ∈ narL := List.mem_of_getElem? (i := 8) (by decide +kernel)
theorem nw_n1 : Cond.arrayOf (.static "Chipcardhouse" "NUMBERS_OF" "[I") .int ∈ narL := List.mem_of_getElem? (i := 14) (by decide +kernel)
theorem nw_n2 : Cond.eq (.length (.static "Chipcardhouse" "NUMBERS_OF" "[I")) (.int (Int32.ofNat 16)) ∈ narL := List.mem_of_getElem? (i := 15) (by decide +kernel)
theorem nw_n3 : ∀ j, j < 16 → narL[16 + j]? = some (Cond.eq (.elem (.static "Chipcardhouse" "NUMBERS_OF" "[I") (.int (Int32.ofNat j))) (.int (Int32.ofNat (nNT.getD j 0)))) := by decide +kernel
theorem nw_ne : Cond.not (.eq (.arg 0) (.static "Chipcardhouse" "NUMBERS_OF" "[I")) ∈ narL := List.mem_of_getElem? (i := 385) (by decide +kernel)
theorem nw_sio : Cond.isRef (.static "jdk/internal/util/Preconditions" "SIOOBE_FORMATTER" "Ljava/util/function/BiFunction;") ∈ narL := List.mem_of_getElem? (i := 9) (by decide +kernel)
theorem nw_us : Cond.isRef (.static "java/lang/Throwable" "UNASSIGNED_STACK" "[Ljava/lang/StackTraceElement;") ∈ narL := List.mem_of_getElem? (i := 32) (by decide +kernel)
theorem nw_ss : Cond.isRef (.static "java/lang/Throwable" "SUPPRESSED_SENTINEL" "Ljava/util/List;") ∈ narL := List.mem_of_getElem? (i := 33) (by decide +kernel)
theorem nw_mi : Cond.isRef (.mirror "[Ljava/lang/Object;") ∈ narL := List.mem_of_getElem? (i := 100) (by decide +kernel)
theorem nw_c3031 : Cond.not (.castable "java/lang/IllegalArgumentException" "java/lang/IllegalStateException") ∈ narL := List.mem_of_getElem? (i := 74) (by decide +kernel)
theorem nw_c3032 : Cond.not (.castable "java/lang/IllegalArgumentException" "java/lang/IndexOutOfBoundsException") ∈ narL := List.mem_of_getElem? (i := 41) (by decide +kernel)
theorem nw_c3130 : Cond.not (.castable "java/lang/IllegalStateException" "java/lang/IllegalArgumentException") ∈ narL := List.mem_of_getElem? (i := 58) (by decide +kernel)
theorem nw_c3132 : Cond.not (.castable "java/lang/IllegalStateException" "java/lang/IndexOutOfBoundsException") ∈ narL := List.mem_of_getElem? (i := 42) (by decide +kernel)
theorem nw_c3230 : Cond.not (.castable "java/lang/IndexOutOfBoundsException" "java/lang/IllegalArgumentException") ∈ narL := List.mem_of_getElem? (i := 57) (by decide +kernel)
theorem nw_c3231 : Cond.not (.castable "java/lang/IndexOutOfBoundsException" "java/lang/IllegalStateException") ∈ narL := List.mem_of_getElem? (i := 73) (by decide +kernel)
/-! ===== the law's start: strings, statics, classes ===== -/
theorem eq_ref {args : Array Value} {s : State} {t u : Term} {a : Nat} (h : (Cond.eq t u).before args s = true) (ht : t.eval args s none [] s = some (.ref a)) : u.eval args s none [] s = some (.ref a) := by
  cases hv : u.eval args s none [] s with
  | none => simp [Cond.before, Cond.holds, Cond.value, ht, hv] at h
  | some w =>
    simp only [Cond.before, Cond.holds, Cond.value, ht, hv] at h
    cases w <;> simp_all
def wdV (t : List Nat) : List AV := t.map (fun n => aI (Int32.ofNat n))
theorem wdV_at {t : List Nat} {j : Nat} (h : j < t.length) (φ : Nat × Nat → Nat) : rowV φ (wdV t) j = .int (Int32.ofNat (t.getD j 0)) := by
  unfold rowV wdV
  rw [List.getD_eq_getElem?_getD, List.getElem?_map, List.getElem?_eq_getElem h, List.getD_eq_getElem?_getD, List.getElem?_eq_getElem h]
  rfl
/-- what is known of a string of the constants -/
def StrF (s : State) (B : Nat → Prop) (t : List Nat) (a e : Nat) : Prop := va_O "java/lang/String" a B s s.heap ∧ va_OF "java/lang/String" "coder" "B" (.int 0) a B s s.heap ∧ va_OF "java/lang/String" "value" "[B" (.ref e) a B s s.heap ∧ va_T .byte e t.length (rowV (fun _ => 0) (wdV t)) B s s.heap
theorem str_at {A : Array Value} {s : State} {own : String} {k : Nat} {t : List Nat} {B : Nat → Prop} (hB : ∀ a : Nat, a < s.heap.size → ¬ B a) (ht : t.length < 2 ^ 31) (hw : ∀ w ∈ strW own k t, w.before A s = true) : ∃ a e, (Term.string own k).eval A s none [] s = some (.ref a) ∧ StrF s B t a e := by
  unfold strW at hw
  obtain ⟨h0, h9⟩ := List.forall_mem_append.mp hw
  obtain ⟨h1, h0⟩ := List.forall_mem_cons.mp h0
  obtain ⟨h2, h0⟩ := List.forall_mem_cons.mp h0
  obtain ⟨h3, h0⟩ := List.forall_mem_cons.mp h0
  obtain ⟨h4, -⟩ := List.forall_mem_cons.mp h0
  obtain ⟨a, c, cA, kA, q1, q2, q3, q4, q5, q6, -⟩ := Cond.exactly_spec (args := A) (first := s) (o := none) (s := s) (idx := []) (t := .string own k) (cls := "java/lang/String") h1
  obtain ⟨e, he, hT⟩ := va_Tof (f := rowV (fun _ => 0) (wdV t)) (A := B) ht h3 (va_eqt h4) (fun j hj => by
    rw [wdV_at hj]
    exact va_eqt (h9 _ (List.mem_map.mpr ⟨j, List.mem_range.mpr hj, rfl⟩))) hB
  exact ⟨a, e, q1, ⟨cA, q3, q5, by rw [q6]; exact q2, hB a (Array.getElem?_eq_some_iff.mp q3).1⟩, vk_OFof q1 (va_eqt h2) hB, vk_OFof q1 he hB, hT⟩
theorem wd_ok : ∀ j, j < 17 → (wd j).length < 1000 ∧ ∀ n ∈ wd j, n ≤ 127 := by decide +kernel
theorem wd_ne : ∀ i, i < 17 → ∀ j, j < 17 → wd i = wd j → i = j := by decide +kernel
theorem StrF_inj {s : State} {B : Nat → Prop} {i j a e e' : Nat} (hi : i < 17) (hj : j < 17) (h1 : StrF s B (wd i) a e) (h2 : StrF s B (wd j) a e') : i = j := by
  obtain ⟨-, -, ⟨cf, k, ix, f, cell, u1, u2, u3, u4, u5, -⟩, cT, t1, -, -, t2, t3, t4, -⟩ := h1
  obtain ⟨-, -, ⟨cf', k', ix', f', cell', w1, w2, w3, w4, w5, -⟩, cT', s1, -, -, s2, s3, s4, -⟩ := h2
  rw [u1] at w1
  cases w1
  rw [u3] at w3
  cases w3
  rw [u5] at w5
  have ee : e = e' := by injection (Option.some.inj w5)
  subst ee
  rw [t1] at s1
  cases s1
  obtain ⟨li, bi⟩ := wd_ok i hi
  obtain ⟨lj, bj⟩ := wd_ok j hj
  have el : (wd i).length = (wd j).length := o_inj (by omega) (by omega) (t3.symm.trans s3)
  refine wd_ne i hi j hj (List.ext_getElem el (fun n h1 h2 => ?_))
  have v := (t4 n h1).symm.trans (s4 n h2)
  rw [wdV_at h1, wdV_at h2] at v
  have v : Int32.ofNat ((wd i).getD n 0) = Int32.ofNat ((wd j).getD n 0) := by injection (Option.some.inj v)
  rw [List.getD_eq_getElem?_getD, List.getElem?_eq_getElem h1, List.getD_eq_getElem?_getD, List.getElem?_eq_getElem h2] at v
  have b1 := bi _ (List.getElem_mem h1)
  have b2 := bj _ (List.getElem_mem h2)
  exact o_inj (by omega) (by omega) v
/-- all strings of the constants -/
theorem strs_at {A : Array Value} {s : State} {B : Nat → Prop} (hB : ∀ a : Nat, a < s.heap.size → ¬ B a) (hn : ∀ w ∈ narL, w.before A s = true) :
    ∃ ad : Nat → Nat × Nat, ∀ j, j < 17 → (Term.string "Chipcardhouse$Script" (cS j)).eval A s none [] s = some (.ref (ad j).1) ∧ StrF s B (wd j) (ad j).1 (ad j).2 := by
  have h0 : ∀ j : Nat, ∃ q : Nat × Nat, j < 17 → (Term.string "Chipcardhouse$Script" (cS j)).eval A s none [] s = some (.ref q.1) ∧ StrF s B (wd j) q.1 q.2 := fun j => by
    by_cases hj : j < 17
    · obtain ⟨a, e, h1, h2⟩ := str_at (A := A) (k := cS j) hB (by have := (wd_ok j hj).1; omega) (fun w hw => hn w (blk_in (strW_p j hj) w hw))
      exact ⟨(a, e), fun _ => ⟨h1, h2⟩⟩
    · exact ⟨(0, 0), fun h => absurd h hj⟩
  exact Classical.axiomOfChoice h0
theorem strRep_at {G : Geo} {s : State} {j a e : Nat} (hj : j < 17) (h : StrF s (frz G) (wd j) a e) : strRep G s (wdV (wd j)) a s.heap := by
  obtain ⟨h1, h2, h3, h4⟩ := h
  obtain ⟨l1, l2⟩ := wd_ok j hj
  have len : (wdV (wd j)).length = (wd j).length := List.length_map ..
  refine ⟨e, h1, h2, h3, by rw [len]; exact h4, by rw [len]; exact l1, fun k hk => ?_⟩
  rw [len] at hk
  have b := l2 _ (List.getElem_mem hk)
  refine ⟨Int32.ofNat ((wd j)[k]), ?_, ?_, ?_⟩
  · unfold wdV
    rw [List.getElem?_map, List.getElem?_eq_getElem hk]
    rfl
  · exact (o_le (n := 0) (by omega) (by omega)).mpr (Nat.zero_le _)
  · exact (o_le (k := 127) (by omega) (by omega)).mpr b
/-- the arrays' classes -/
theorem arr_prim {A : Array Value} {s : State} {ty : FieldType} (h : (Cond.arrayClass ty).before A s = true) : ∃ c, ArrOfT s c ty ∧ s.vm.findClass ("[" ++ ty.toString) = some c := by
  obtain ⟨c, k, comp, h1, h2, h3⟩ := Cond.arrayClass_spec (args := A) (first := s) (o := none) (s := s) (idx := []) h
  exact ⟨c, fun N z => ⟨(fun k h => by cases h), k, h2, comp, h3⟩, h1⟩
theorem arr_obj {A : Array Value} {s : State} {C : String} (h : (Cond.arrayOver (.object C)).before A s = true) : ∃ c, ArrOfT s c (.object C) ∧ va_RA s c (.object C) := by
  obtain ⟨comp, c, k, h1, -, h2, h3, h4⟩ := Cond.arrayOver_spec (args := A) (first := s) (o := none) (idx := []) h
  exact ⟨c, fun N z => ⟨(fun k h => by cases h), k, h2, comp, h3⟩, k, comp, h2, h3, h1, h4⟩
theorem arrs_at {A : Array Value} {s : State} (hts : ∀ w ∈ lw_tbl, w.before A s = true) : ∃ F : Nat → ClassId, ∀ k ty, tyK k = some ty → ArrOfT s (F k) ty ∧ va_RA s (F k) ty := by
  have hp : ∀ ty, (ty = .int ∨ ty = .boolean ∨ ty = .byte) → (Cond.arrayClass ty).before A s = true → ∃ c, ArrOfT s c ty ∧ va_RA s c ty := fun ty q h => by
    obtain ⟨c, h1, h2⟩ := arr_prim h
    rcases q with q | q | q <;> subst q <;> exact ⟨c, h1, h2⟩
  have h0 : ∀ k, ∃ c, ∀ ty, tyK k = some ty → ArrOfT s c ty ∧ va_RA s c ty := fun k => by
    cases e : tyK k with
    | none => exact ⟨0, fun _ h => nomatch h⟩
    | some ty =>
      have : ∃ c, ArrOfT s c ty ∧ va_RA s c ty := by
        unfold tyK at e
        split at e
        · cases e; exact hp _ (by simp) (hts _ acl_int)
        · cases e; exact hp _ (by simp) (hts _ acl_boolean)
        · cases e; exact hp _ (by simp) (hts _ acl_byte)
        · cases e; exact arr_obj (hts _ (st_in (i := 29) rfl))
        · cases e; exact arr_obj (hts _ (st_in (i := 7) rfl))
        · cases e
      obtain ⟨c, h1, h2⟩ := this
      exact ⟨c, fun ty' h => by cases h; exact ⟨h1, h2⟩⟩
  exact Classical.axiomOfChoice h0
/-- the classes' slots -/
theorem cls_start {A : Array Value} {s : State} (hts : ∀ w ∈ lw_tbl, w.before A s = true) : ∃ D : va_G, va_K D kcl [] s := by
  have h0 : ∀ a : Nat, ∃ q : ClassId × (Nat → Nat), a < 24 → u_Kn s (cAt a).1 (cAt a).2.1 (cAt a).2.2 q.1 q.2 := fun a => by
    by_cases ha : a < 24
    · by_cases h3 : a < 23
      · obtain ⟨c, i, h⟩ := u_known (C := (cAt a).1) (T := (cAt a).2.1) (N := (cAt a).2.2) hts (lay_in a ha) (hts _ (ins_in a h3))
        exact ⟨(c, i), fun _ => h⟩
      · have e : a = 23 := by omega
        subst e
        obtain ⟨c, i, h⟩ := u_known (C := (cAt 23).1) (T := (cAt 23).2.1) (N := (cAt 23).2.2) hts (lay_in 23 ha) (hts _ (show Cond.instantiable (cAt 23).1 (cAt 23).2.2 ∈ lw_tbl from ins_in 0 (by decide)))
        exact ⟨(c, i), fun _ => h⟩
    · exact ⟨(0, fun _ => 0), fun h => absurd h ha⟩
  obtain ⟨f, hf⟩ := Classical.axiomOfChoice h0
  refine ⟨(fun a => (f a).1, fun a => (f a).2), fun c q h => ?_, fun k q h => by simp at h⟩
  have hc : c < 24 := (List.getElem?_eq_some_iff.mp h).1
  rw [kcl_at hc] at h
  cases h
  exact hf c hc

