theorem kc_mono {cuts : List (Nat × List Nat)} {R R' K K' : KT} (hR : ∀ pc L st h, leR (R pc L st h) (R' pc L st h)) (hK : ∀ pc L st h, leR (K pc L st h) (K' pc L st h)) : ∀ pc L st h, leR (kc cuts R K pc L st h) (kc cuts R' K' pc L st h) := by
  intro pc L st h
  unfold kc
  split
  · exact hR _ _ _ _
  · exact hK _ _ _ _
theorem kc_ctn {cuts : List (Nat × List Nat)} {R K : KT} {R' K' : Nat → KT} (hR : ∀ pc L st h, ctn (R pc L st h) (fun n => R' n pc L st h)) (hK : ∀ pc L st h, ctn (K pc L st h) (fun n => K' n pc L st h)) : ∀ pc L st h, ctn (kc cuts R K pc L st h) (fun n => kc cuts (R' n) (K' n) pc L st h) := by
  intro pc L st h
  unfold kc
  cases cutAt pc cuts with
  | some is => exact hR _ _ _ _
  | none => exact hK _ _ _ _
theorem xc_mono {hs : List (Nat × Nat × Nat × Nat)} {K K' : KT} (hK : ∀ pc L st h, leR (K pc L st h) (K' pc L st h)) (pc : Nat) (L : LV) : ∀ e h, leR (xc hs K pc L e h) (xc hs K' pc L e h) := by
  induction hs with
  | nil => exact fun e h => leR_r _
  | cons t hs ih =>
    intro e h
    show leR ((match Nat.ble t.1 pc with | true => (match Nat.ble t.2.1 pc with | true => xc hs K pc L | false => fun e h => xif e t.2.2.2 (K t.2.2.1 L [aR (some (300, (h.1 300).length))] (hX h e)) (xc hs K pc L e h)) | false => xc hs K pc L) e h)
      ((match Nat.ble t.1 pc with | true => (match Nat.ble t.2.1 pc with | true => xc hs K' pc L | false => fun e h => xif e t.2.2.2 (K' t.2.2.1 L [aR (some (300, (h.1 300).length))] (hX h e)) (xc hs K' pc L e h)) | false => xc hs K' pc L) e h)
    cases Nat.ble t.1 pc
    · exact ih _ _
    · cases Nat.ble t.2.1 pc
      · unfold xif; dsimp only; split
        · exact hK _ _ _ _
        · exact ih _ _
      · exact ih _ _
theorem xc_ctn {hs : List (Nat × Nat × Nat × Nat)} {K : KT} {K' : Nat → KT} (hK : ∀ pc L st h, ctn (K pc L st h) (fun n => K' n pc L st h)) (pc : Nat) (L : LV) : ∀ e h, ctn (xc hs K pc L e h) (fun n => xc hs (K' n) pc L e h) := by
  induction hs with
  | nil => exact fun e h => ctn_r _
  | cons t hs ih =>
    intro e h
    show ctn ((match Nat.ble t.1 pc with | true => (match Nat.ble t.2.1 pc with | true => xc hs K pc L | false => fun e h => xif e t.2.2.2 (K t.2.2.1 L [aR (some (300, (h.1 300).length))] (hX h e)) (xc hs K pc L e h)) | false => xc hs K pc L) e h)
      (fun n => (match Nat.ble t.1 pc with | true => (match Nat.ble t.2.1 pc with | true => xc hs (K' n) pc L | false => fun e h => xif e t.2.2.2 ((K' n) t.2.2.1 L [aR (some (300, (h.1 300).length))] (hX h e)) (xc hs (K' n) pc L e h)) | false => xc hs (K' n) pc L) e h)
    cases Nat.ble t.1 pc
    · exact ih _ _
    · cases Nat.ble t.2.1 pc
      · unfold xif; dsimp only; cases Nat.beq e t.2.2.2
        · exact ih _ _
        · exact hK _ _ _ _
      · exact ih _ _
theorem call_mono {R R' : Nat → KT} (hR : ∀ m pc L st h, leR (R m pc L st h) (R' m pc L st h)) (m : Nat) (a : List AV) (h : Hp) : leR (call R m a h) (call R' m a h) := by
  unfold call; split
  · exact leR_r _
  · split
    · exact leR_r _
    · split
      · exact hR _ _ _ _ _
      · exact leR_n _
theorem call_ctn {R : Nat → KT} {R' : Nat → Nat → KT} (hR : ∀ m pc L st h, ctn (R m pc L st h) (fun n => R' n m pc L st h)) (m : Nat) (a : List AV) (h : Hp) : ctn (call R m a h) (fun n => call (R' n) m a h) := by
  unfold call; cases Nat.ble 400 m
  · dsimp only
    cases Nat.beq m 318
    · dsimp only
      cases rcv m a h
      · exact ctn_n _
      · exact hR _ _ _ _ _
    · exact ctn_r _
  · exact ctn_r _
theorem stepK_mono {R R' : Nat → KT} (hR : ∀ m pc L st h, leR (R m pc L st h) (R' m pc L st h)) (m pc : Nat) (L : LV) (st : List AV) (h : Hp) : leR (stepK R m pc L st h) (stepK R' m pc L st h) := by
  unfold stepK; split
  · exact F_mono (kc_mono (hR m) (hR m)) (call_mono hR) (xc_mono (kc_mono (hR m) (hR m)) pc L) _ _ _ _ _ _ _ _
  · exact leR_r _
theorem stepK_ctn {R : Nat → KT} {R' : Nat → Nat → KT} (hR : ∀ m pc L st h, ctn (R m pc L st h) (fun n => R' n m pc L st h)) (m pc : Nat) (L : LV) (st : List AV) (h : Hp) : ctn (stepK R m pc L st h) (fun n => stepK (R' n) m pc L st h) := by
  unfold stepK; cases rowAt pc (codeT m) with
  | some r => exact F_ctn (kc_ctn (hR m) (hR m)) (call_ctn hR) (xc_ctn (kc_ctn (hR m) (hR m)) pc L) _ _ _ _ _ _ _ _
  | none => exact ctn_n _
theorem run_step (n : Nat) : ∀ m pc L st h, leR (run n m pc L st h) (run (n + 1) m pc L st h) := by
  induction n with
  | zero => exact fun _ _ _ _ _ => leR_n _
  | succ n ih => exact stepK_mono ih
theorem run_le {n k : Nat} (hk : n ≤ k) (m pc : Nat) (L : LV) (st : List AV) (h : Hp) : leR (run n m pc L st h) (run k m pc L st h) := by
  induction k with
  | zero =>
    have : n = 0 := by omega
    subst this
    exact leR_r _
  | succ k ih =>
    by_cases c : n ≤ k
    · exact fun r hr => run_step k m pc L st h r (ih c r hr)
    · have : n = k + 1 := by omega
      subst this
      exact leR_r _
theorem Ru_ex {m pc : Nat} {L : LV} {st : List AV} {h : Hp} {r : Out × Hp} (hr : Ru m pc L st h = some r) : ∃ n, run n m pc L st h = some r := by
  unfold Ru at hr
  split at hr
  · rename_i p
    obtain ⟨n, hn⟩ := Classical.choose_spec p
    exact ⟨n, hn.trans hr⟩
  · cases hr
theorem Ru_of {n m pc : Nat} {L : LV} {st : List AV} {h : Hp} {r : Out × Hp} (hr : run n m pc L st h = some r) : Ru m pc L st h = some r := by
  have p : ∃ r n, run n m pc L st h = some r := ⟨r, n, hr⟩
  unfold Ru
  rw [dif_pos p]
  obtain ⟨k, hk⟩ := Classical.choose_spec p
  rw [← hk]
  have h1 := run_le (Nat.le_max_left n k) m pc L st h _ hr
  have h2 := run_le (Nat.le_max_right n k) m pc L st h _ hk
  rw [hk, ← h2, h1]
theorem Ru_ctn (m pc : Nat) (L : LV) (st : List AV) (h : Hp) : ctn (Ru m pc L st h) (fun n => run n m pc L st h) := fun _ hr => by
  obtain ⟨n, hn⟩ := Ru_ex hr
  exact ⟨n, fun k hk => run_le hk _ _ _ _ _ _ hn⟩
theorem run_Ru (n m pc : Nat) (L : LV) (st : List AV) (h : Hp) : leR (run n m pc L st h) (Ru m pc L st h) := fun _ hr => Ru_of hr
theorem Ru_fix (m pc : Nat) (L : LV) (st : List AV) (h : Hp) : Ru m pc L st h = stepK Ru m pc L st h := by
  have h1 : leR (Ru m pc L st h) (stepK Ru m pc L st h) := fun r hr => by
    obtain ⟨n, hn⟩ := Ru_ex hr
    exact stepK_mono (run_Ru n) m pc L st h r (run_step n m pc L st h r hn)
  have h2 : leR (stepK Ru m pc L st h) (Ru m pc L st h) := fun r hr => by
    obtain ⟨n, hn⟩ := stepK_ctn Ru_ctn m pc L st h r hr
    exact Ru_of (n := n + 1) (hn n (Nat.le_refl n))
  cases a : Ru m pc L st h with
  | some r => exact (h1 r a).symm
  | none =>
    cases b : stepK Ru m pc L st h with
    | none => rfl
    | some r =>
      have := h2 r b
      rw [a] at this
      cases this
theorem lif_0 (R : KT) (E : CT) (cuts : List (Nat × List Nat)) (hs : List (Nat × Nat × Nat × Nat)) (rows : List Row) : lif 0 R E cuts hs rows = R := rfl
/-- k steps of a method, calls and cut points as they are: the form in which code is read -/
theorem Ru_lif (m k : Nat) : Ru m = lif k (Ru m) Ex (cutT m) (hdlT m) (codeT m) := by
  induction k with
  | zero => rfl
  | succ k ih =>
    funext pc L st h
    rw [Ru_fix]
    show stepK Ru m pc L st h = (match rowAt pc (codeT m) with
      | some (_, ins, np, a, b, ts) => F (kc (cutT m) (Ru m) (lif k (Ru m) Ex (cutT m) (hdlT m) (codeT m))) Ex (xc (hdlT m) (kc (cutT m) (Ru m) (lif k (Ru m) Ex (cutT m) (hdlT m) (codeT m))) pc L) ins np a b ts L st h
      | none => none)
    rw [← ih]
    rfl
theorem lift_of {m k : Nat} {rows : List Row} {cuts : List (Nat × List Nat)} {hs : List (Nat × Nat × Nat × Nat)} {pc : Nat} {L : LV} {st : List AV} {h : Hp} {r : KT → CT → Res} (h1 : codeT m = rows) (h2 : cutT m = cuts) (h3 : hdlT m = hs)
    (hr : ∀ (R : KT) (E : CT), lif k R E cuts hs rows pc L st h = r R E) : Ru m pc L st h = r (Ru m) Ex := by
  rw [congrFun (congrFun (congrFun (congrFun (Ru_lif m k) pc) L) st) h, h1, h2, h3]
  exact hr _ _
theorem Ex_of {m : Nat} {a : List AV} {h : Hp} (hm : Nat.ble 400 m = false) (h3 : Nat.beq m 318 = false) (hr : rcv m a h = true) : Ex m a h = Ru m 0 (mkL 0 a) [] h := by
  unfold Ex call
  rw [hm, h3, hr]
theorem Ex_min (x y : Int64) (h : Hp) : Ex 318 [aL x, aL y] h = some (.inl (some (aL (if y < x then y else x))), h) := rfl
