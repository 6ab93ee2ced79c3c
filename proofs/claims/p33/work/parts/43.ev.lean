/-! ===== steps of an evaluation ===== -/
theorem cI_v (v : Int32) (h : Hp) (k : Int32 → Hp → Res) (x : XT) : cI (some (.inl (some (.inl v)), h)) k x = k v h := rfl
theorem cL_v (v : Int64) (h : Hp) (k : Int64 → Hp → Res) (x : XT) : cL (some (.inl (some (.inr (.inl v))), h)) k x = k v h := rfl
theorem cF_v (v : UInt32) (h : Hp) (k : UInt32 → Hp → Res) (x : XT) : cF (some (.inl (some (.inr (.inr (.inl v)))), h)) k x = k v h := rfl
theorem cD_v (v : UInt64) (h : Hp) (k : UInt64 → Hp → Res) (x : XT) : cD (some (.inl (some (.inr (.inr (.inr (.inl v))))), h)) k x = k v h := rfl
theorem cR_v (v : Option (Nat × Nat)) (h : Hp) (k : Option (Nat × Nat) → Hp → Res) (x : XT) : cR (some (.inl (some (.inr (.inr (.inr (.inr v))))), h)) k x = k v h := rfl
theorem cV_v (h : Hp) (k : Hp → Res) (x : XT) : cV (some (.inl none, h)) k x = k h := rfl
theorem cI_x (e : Nat) (h : Hp) (k : Int32 → Hp → Res) (x : XT) : cI (some (.inr e, h)) k x = x e h := rfl
theorem cL_x (e : Nat) (h : Hp) (k : Int64 → Hp → Res) (x : XT) : cL (some (.inr e, h)) k x = x e h := rfl
theorem cD_x (e : Nat) (h : Hp) (k : UInt64 → Hp → Res) (x : XT) : cD (some (.inr e, h)) k x = x e h := rfl
theorem cR_x (e : Nat) (h : Hp) (k : Option (Nat × Nat) → Hp → Res) (x : XT) : cR (some (.inr e, h)) k x = x e h := rfl
theorem cV_x (e : Nat) (h : Hp) (k : Hp → Res) (x : XT) : cV (some (.inr e, h)) k x = x e h := rfl
theorem gz_0 (r : Res) : gz 0 r = r := rfl
theorem gz_1 (r : Res) : gz 1 r = r := rfl
theorem gz_b {x : Int32} {r : Res} (h : bitOk x = true) : gz x r = r := by
  unfold gz
  rw [h]
/-- many fields of one cell at once -/
def cpL (m : TS) (s i : Nat) (f : Nat → Int32) (l : List Nat) : TS := l.foldl (fun m k => sI m s i k (f k)) m
theorem tI_cpL (s i : Nat) (f : Nat → Int32) (s' i' k : Nat) : ∀ (l : List Nat) (m : TS), tI (cpL m s i f l) s' i' k = if s' = s ∧ i' = i ∧ k ∈ l then f k else tI m s' i' k := by
  intro l
  induction l with
  | nil => intro m; rw [if_neg (fun q => nomatch q.2.2)]; rfl
  | cons x l ih =>
    intro m
    show tI (cpL (sI m s i x (f x)) s i f l) s' i' k = _
    rw [ih, tI_sI]
    by_cases e : s' = s ∧ i' = i
    · by_cases e2 : k ∈ l
      · rw [if_pos ⟨e.1, e.2, e2⟩, if_pos ⟨e.1, e.2, List.mem_cons_of_mem _ e2⟩]
      · rw [if_neg (fun q => e2 q.2.2)]
        by_cases e3 : k = x
        · subst e3
          rw [if_pos ⟨e.1, e.2, rfl⟩, if_pos ⟨e.1, e.2, List.mem_cons_self⟩]
        · rw [if_neg (fun q => e3 q.2.2), if_neg (fun q => by rcases List.mem_cons.mp q.2.2 with z | z; exact e3 z; exact e2 z)]
    · rw [if_neg (fun q => e ⟨q.1, q.2.1⟩), if_neg (fun q => e ⟨q.1, q.2.1⟩), if_neg (fun q => e ⟨q.1, q.2.1⟩)]
theorem cpL_rest (s i : Nat) (f : Nat → Int32) : ∀ (l : List Nat) (m : TS), (cpL m s i f l).2 = m.2 := by
  intro l
  induction l with
  | nil => exact fun _ => rfl
  | cons x l ih => exact fun m => ih _
theorem tL_cpL (m : TS) (s i : Nat) (f : Nat → Int32) (l : List Nat) (s' i' k' : Nat) : tL (cpL m s i f l) s' i' k' = tL m s' i' k' := congrArg (fun q => q.1 s' i' k') (cpL_rest s i f l m)
theorem tR_cpL (m : TS) (s i : Nat) (f : Nat → Int32) (l : List Nat) (s' i' k' : Nat) : tR (cpL m s i f l) s' i' k' = tR m s' i' k' := congrArg (fun q => q.2.1 s' i' k') (cpL_rest s i f l m)
theorem tN_cpL (m : TS) (s i : Nat) (f : Nat → Int32) (l : List Nat) (s' : Nat) : tN (cpL m s i f l) s' = tN m s' := congrArg (fun q => q.2.2.1 s') (cpL_rest s i f l m)
theorem tZ_cpL (m : TS) (s i : Nat) (f : Nat → Int32) (l : List Nat) (s' i' : Nat) : tZ (cpL m s i f l) s' i' = tZ m s' i' := congrArg (fun q => q.2.2.2.1 s' i') (cpL_rest s i f l m)
theorem tC_cpL (m : TS) (s i : Nat) (f : Nat → Int32) (l : List Nat) (s' i' : Nat) : tC (cpL m s i f l) s' i' = tC m s' i' := congrArg (fun q => q.2.2.2.2.1 s' i') (cpL_rest s i f l m)
theorem tc_cpL (m : TS) (s i : Nat) (f : Nat → Int32) (l : List Nat) : tc (cpL m s i f l) = tc m := congrArg (·.2.2.2.2.2.1) (cpL_rest s i f l m)
theorem tz_cpL (m : TS) (s i : Nat) (f : Nat → Int32) (l : List Nat) : tz (cpL m s i f l) = tz m := congrArg (·.2.2.2.2.2.2) (cpL_rest s i f l m)
/-- a message of the class, a mail of the reference -/
def isM (s : Nat) : Prop := ow s = 1 ∧ kd s = 6
def isQ (s : Nat) : Prop := ow s = 2 ∧ kd s = 17
theorem gm {a : TS} {z : Hp} {s i k : Nat} (h : isM s) (hi : i < tN a s) (hk : Nat.blt k 15 = true) : gfI (enc 1 a z) (some (s, i)) 6 k = some (tI a s i k) := by
  refine gfI_enc ?_ hi
  have hk : k < 15 := Nat.le_of_ble_eq_true hk
  unfold okF
  rw [h.1, h.2]
  have : k = 0 ∨ k = 1 ∨ k = 2 ∨ k = 3 ∨ k = 4 ∨ k = 5 ∨ k = 6 ∨ k = 7 ∨ k = 8 ∨ k = 9 ∨ k = 10 ∨ k = 11 ∨ k = 12 ∨ k = 13 ∨ k = 14 := by omega
  rcases this with e | e | e | e | e | e | e | e | e | e | e | e | e | e | e <;> subst e <;> rfl
theorem pm {a : TS} {z : Hp} {s i k : Nat} {v : Int32} (h : isM s) (hi : i < tN a s) (hk : Nat.blt k 15 = true) : pf (enc 1 a z) (some (s, i)) 6 k (aI v) = some (enc 1 (sI a s i k v) z) := by
  refine pfI_enc ?_ hi
  have hk : k < 15 := Nat.le_of_ble_eq_true hk
  unfold okF
  rw [h.1, h.2]
  have : k = 0 ∨ k = 1 ∨ k = 2 ∨ k = 3 ∨ k = 4 ∨ k = 5 ∨ k = 6 ∨ k = 7 ∨ k = 8 ∨ k = 9 ∨ k = 10 ∨ k = 11 ∨ k = 12 ∨ k = 13 ∨ k = 14 := by omega
  rcases this with e | e | e | e | e | e | e | e | e | e | e | e | e | e | e <;> subst e <;> rfl
theorem gq {b : TS} {z : Hp} {s i k : Nat} (h : isQ s) (hi : i < tN b s) (hk : Nat.blt k 14 = true) : gfI (enc 2 b z) (some (s, i)) 17 k = some (tI b s i k) := by
  refine gfI_enc ?_ hi
  have hk : k < 14 := Nat.le_of_ble_eq_true hk
  unfold okF
  rw [h.1, h.2]
  have : k = 0 ∨ k = 1 ∨ k = 2 ∨ k = 3 ∨ k = 4 ∨ k = 5 ∨ k = 6 ∨ k = 7 ∨ k = 8 ∨ k = 9 ∨ k = 10 ∨ k = 11 ∨ k = 12 ∨ k = 13 := by omega
  rcases this with e | e | e | e | e | e | e | e | e | e | e | e | e | e <;> subst e <;> rfl
theorem acc_m {a : TS} {z : Hp} {s i : Nat} {r : Res} (h : isM s) (hi : i < tN a s) : acc (some (s, i)) 6 (enc 1 a z) r = r := acc_enc h.1 h.2 (by decide) hi
/-! numbers -/
theorem o_lt0 {n : Nat} (h : n < 2 ^ 31) : ¬ Int32.ofNat n < 0 := by
  rw [Int32.lt_iff_toInt_lt, Int32.toInt_ofNat_of_lt h]
  show ¬ (n : Int) < 0
  omega
theorem o_ix {n : Nat} (h : n < 2 ^ 31) : (Int32.ofNat n).toNatClampNeg = n := Int32.toNatClampNeg_ofNat_of_lt h
theorem o_s (n : Nat) : Int32.ofNat n + 1 = Int32.ofNat (n + 1) := (Int32.ofNat_add n 1).symm
theorem o_le {n k : Nat} (hn : n < 2 ^ 31) (hk : k < 2 ^ 31) : Int32.ofNat n ≤ Int32.ofNat k ↔ n ≤ k := by
  rw [Int32.le_iff_toInt_le, Int32.toInt_ofNat_of_lt hn, Int32.toInt_ofNat_of_lt hk]
  omega
theorem o_lt {n k : Nat} (hn : n < 2 ^ 31) (hk : k < 2 ^ 31) : Int32.ofNat n < Int32.ofNat k ↔ n < k := by
  rw [Int32.lt_iff_toInt_lt, Int32.toInt_ofNat_of_lt hn, Int32.toInt_ofNat_of_lt hk]
  omega
theorem o_inj {n k : Nat} (hn : n < 2 ^ 31) (hk : k < 2 ^ 31) (h : Int32.ofNat n = Int32.ofNat k) : n = k := by
  have := congrArg Int32.toInt h
  rw [Int32.toInt_ofNat_of_lt hn, Int32.toInt_ofNat_of_lt hk] at this
  omega
theorem x_ix (x : Int32) : x.toNatClampNeg = x.toInt.toNat := (Int32.toNat_toInt x).symm
theorem x_le {x : Int32} {n : Nat} (h : ¬ x < 0) (hn : n < 2 ^ 31) : Int32.ofNat n ≤ x ↔ n ≤ x.toNatClampNeg := by
  rw [Int32.lt_iff_toInt_lt] at h
  have h : ¬ x.toInt < 0 := h
  rw [Int32.le_iff_toInt_le, Int32.toInt_ofNat_of_lt hn, x_ix]
  omega
theorem x_lt {x : Int32} {n : Nat} (h : ¬ x < 0) (hn : n < 2 ^ 31) : x < Int32.ofNat n ↔ x.toNatClampNeg < n := by
  rw [Int32.lt_iff_toInt_lt] at h
  have h : ¬ x.toInt < 0 := h
  rw [Int32.lt_iff_toInt_lt, Int32.toInt_ofNat_of_lt hn, x_ix]
  omega
theorem x_of {x : Int32} (h : ¬ x < 0) : Int32.ofNat x.toNatClampNeg = x := Int32.ofNat_toNatClampNeg x (by
  rw [Int32.lt_iff_toInt_lt] at h
  rw [Int32.le_iff_toInt_le]
  have h : ¬ x.toInt < 0 := h
  show (0 : Int) ≤ x.toInt
  omega)
theorem x_b (x : Int32) : x.toNatClampNeg < 2 ^ 31 := Int32.toNatClampNeg_lt x
/-! sites that are not written out -/
def isO (w K s : Nat) : Prop := ow s = w ∧ kd s = K
theorem okF_o {w K s k t : Nat} (h : isO w K s) (hk : (Nat.blt K 24 && Nat.blt k (nF K) && Nat.beq (fTy K k) t) = true) : okF w s K k t = true := by
  unfold okF
  rw [h.1, h.2, beq_tt rfl, beq_tt rfl]
  simp only [Bool.and_eq_true] at hk ⊢
  exact ⟨⟨⟨⟨trivial, trivial⟩, hk.1.1⟩, hk.1.2⟩, hk.2⟩
theorem gI_o {w K s i k : Nat} {m : TS} {z : Hp} (h : isO w K s) (hi : i < tN m s) (hk : (Nat.blt K 24 && Nat.blt k (nF K) && Nat.beq (fTy K k) 0) = true) : gfI (enc w m z) (some (s, i)) K k = some (tI m s i k) := gfI_enc (okF_o h hk) hi
theorem gL_o {w K s i k : Nat} {m : TS} {z : Hp} (h : isO w K s) (hi : i < tN m s) (hk : (Nat.blt K 24 && Nat.blt k (nF K) && Nat.beq (fTy K k) 1) = true) : gfL (enc w m z) (some (s, i)) K k = some (tL m s i k) := gfL_enc (okF_o h hk) hi
theorem gR_o {w K s i k : Nat} {m : TS} {z : Hp} (h : isO w K s) (hi : i < tN m s) (hk : (Nat.blt K 24 && Nat.blt k (nF K) && Nat.beq (fTy K k) 4) = true) : gfR (enc w m z) (some (s, i)) K k = some (tR m s i k) := gfR_enc (okF_o h hk) hi
theorem pI_o {w K s i k : Nat} {m : TS} {z : Hp} {v : Int32} (h : isO w K s) (hi : i < tN m s) (hk : (Nat.blt K 24 && Nat.blt k (nF K) && Nat.beq (fTy K k) 0) = true) : pf (enc w m z) (some (s, i)) K k (aI v) = some (enc w (sI m s i k v) z) := pfI_enc (okF_o h hk) hi
theorem pL_o {w K s i k : Nat} {m : TS} {z : Hp} {v : Int64} (h : isO w K s) (hi : i < tN m s) (hk : (Nat.blt K 24 && Nat.blt k (nF K) && Nat.beq (fTy K k) 1) = true) : pf (enc w m z) (some (s, i)) K k (aL v) = some (enc w (sL m s i k v) z) := pfL_enc (okF_o h hk) hi
theorem pR_o {w K s i k : Nat} {m : TS} {z : Hp} {v : Option (Nat × Nat)} (h : isO w K s) (hi : i < tN m s) (hk : (Nat.blt K 24 && Nat.blt k (nF K) && Nat.beq (fTy K k) 4) = true) : pf (enc w m z) (some (s, i)) K k (aR v) = some (enc w (sR m s i k v) z) := pfR_enc (okF_o h hk) hi
theorem X_o {w K s i k : Nat} {m : TS} {z : Hp} {as : List AV} (h : isO w K s) (hk : (Nat.beq (rcT k) (K + 1) && Nat.blt K 24 && Nat.blt k 400 && !Nat.beq k 318) = true) (hi : i < tN m s) (h4 : Nat.ble (stS (aR (some (s, i)) :: as)) (alT k) = true) : Ex k (aR (some (s, i)) :: as) (enc w m z) = Ru k 0 (mkL 0 (aR (some (s, i)) :: as)) [] (enc w m z) := by
  refine X_in ?_ hi h4
  unfold okM
  rw [h.1, h.2, beq_tt rfl]
  exact hk
theorem acc_o {w K s i : Nat} {m : TS} {z : Hp} {r : Res} (h : isO w K s) (h3 : Nat.blt K 24 = true) (hi : i < tN m s) : acc (some (s, i)) K (enc w m z) r = r := acc_enc h.1 h.2 (Nat.le_of_ble_eq_true h3) hi
/-! what a run leaves as it was -/
def chg (D : List Nat) (a a' : TS) : Prop := ∀ s, s ∉ D → (∀ i k, tI a' s i k = tI a s i k) ∧ (∀ i k, tL a' s i k = tL a s i k) ∧ (∀ i k, tR a' s i k = tR a s i k) ∧ tN a' s = tN a s ∧ (∀ i, tZ a' s i = tZ a s i) ∧ ∀ i, tC a' s i = tC a s i
theorem chg_r (D : List Nat) (a : TS) : chg D a a := fun _ _ => ⟨fun _ _ => rfl, fun _ _ => rfl, fun _ _ => rfl, rfl, fun _ => rfl, fun _ => rfl⟩
theorem chg_t {D : List Nat} {a b c : TS} (h1 : chg D a b) (h2 : chg D b c) : chg D a c := fun s hs => by
  obtain ⟨a1, a2, a3, a4, a5, a6⟩ := h1 s hs
  obtain ⟨b1, b2, b3, b4, b5, b6⟩ := h2 s hs
  exact ⟨fun i k => (b1 i k).trans (a1 i k), fun i k => (b2 i k).trans (a2 i k), fun i k => (b3 i k).trans (a3 i k), b4.trans a4, fun i => (b5 i).trans (a5 i), fun i => (b6 i).trans (a6 i)⟩
theorem chg_m {D D' : List Nat} {a b : TS} (h : chg D a b) (hD : ∀ s ∈ D, s ∈ D') : chg D' a b := fun s hs => h s (fun q => hs (hD s q))
theorem chg_sI {D : List Nat} {a b : TS} {s i k : Nat} {v : Int32} (hs : s ∈ D) (h : chg D a b) : chg D a (sI b s i k v) := chg_t h (fun t ht => by
  have e : t ≠ s := fun q => ht (q ▸ hs)
  exact ⟨fun i' k' => (tI_sI ..).trans (if_neg (fun q => e q.1)), fun _ _ => rfl, fun _ _ => rfl, rfl, fun _ => rfl, fun _ => rfl⟩)
theorem chg_sL {D : List Nat} {a b : TS} {s i k : Nat} {v : Int64} (hs : s ∈ D) (h : chg D a b) : chg D a (sL b s i k v) := chg_t h (fun t ht => by
  have e : t ≠ s := fun q => ht (q ▸ hs)
  exact ⟨fun _ _ => rfl, fun i' k' => (tL_sL ..).trans (if_neg (fun q => e q.1)), fun _ _ => rfl, rfl, fun _ => rfl, fun _ => rfl⟩)
theorem chg_sR {D : List Nat} {a b : TS} {s i k : Nat} {v : Option (Nat × Nat)} (hs : s ∈ D) (h : chg D a b) : chg D a (sR b s i k v) := chg_t h (fun t ht => by
  have e : t ≠ s := fun q => ht (q ▸ hs)
  exact ⟨fun _ _ => rfl, fun _ _ => rfl, fun i' k' => (tR_sR ..).trans (if_neg (fun q => e q.1)), rfl, fun _ => rfl, fun _ => rfl⟩)
theorem chg_sZ {D : List Nat} {a b : TS} {s i n : Nat} (hs : s ∈ D) (h : chg D a b) : chg D a (sZ b s i n) := chg_t h (fun t ht => by
  have e : t ≠ s := fun q => ht (q ▸ hs)
  exact ⟨fun _ _ => rfl, fun _ _ => rfl, fun _ _ => rfl, rfl, fun i' => (tZ_sZ ..).trans (if_neg (fun q => e q.1)), fun _ => rfl⟩)
theorem chg_aC {D : List Nat} {a b : TS} {c n : Nat} (h : chg D a b) : chg D a (aC b c n) := chg_t h (fun _ _ => ⟨fun _ _ => rfl, fun _ _ => rfl, fun _ _ => rfl, rfl, fun _ => rfl, fun _ => rfl⟩)
theorem chg_mk {D : List Nat} {a b : TS} {s z c n : Nat} (hs : s ∈ D) (h : chg D a b) : chg D a (mk b s z c n) := chg_t h (fun t ht => by
  have e : t ≠ s := fun q => ht (q ▸ hs)
  exact ⟨fun _ _ => if_neg (fun q => e q.1), fun _ _ => if_neg (fun q => e q.1), fun _ _ => if_neg (fun q => e q.1), if_neg e, fun _ => if_neg (fun q => e q.1), fun _ => if_neg (fun q => e q.1)⟩)
theorem chg_pushL {D : List Nat} {a b : TS} {s i : Nat} {v : Option (Nat × Nat)} (hs : s ∈ D) (h : chg D a b) : chg D a (pushL b s i v) := chg_t h (fun t ht => by
  have e : t ≠ s := fun q => ht (q ▸ hs)
  exact ⟨fun _ _ => tI_pushL .., fun _ _ => tL_pushL .., fun _ _ => (tR_pushL ..).trans (if_neg (fun q => e q.1)), tN_pushL .., fun _ => (tZ_pushL ..).trans (if_neg (fun q => e q.1)), fun _ => (tC_pushL ..).trans (if_neg (fun q => e q.1))⟩)
theorem chg_cpL {D : List Nat} {a b : TS} {s i : Nat} {f : Nat → Int32} {l : List Nat} (hs : s ∈ D) (h : chg D a b) : chg D a (cpL b s i f l) := chg_t h (fun t ht => by
  have e : t ≠ s := fun q => ht (q ▸ hs)
  exact ⟨fun _ _ => (tI_cpL ..).trans (if_neg (fun q => e q.1)), fun _ _ => tL_cpL .., fun _ _ => tR_cpL .., tN_cpL .., fun _ => tZ_cpL .., fun _ => tC_cpL ..⟩)
theorem chg_rmL {D : List Nat} {a b : TS} {s i k : Nat} (hs : s ∈ D) (h : chg D a b) : chg D a (rmL b s i k) := chg_t h (fun t ht => by
  have e : t ≠ s := fun q => ht (q ▸ hs)
  exact ⟨fun _ _ => rfl, fun _ _ => rfl, fun _ _ => (tR_rmL ..).trans (if_neg (fun q => e q.1)), rfl, fun _ => (tZ_rmL ..).trans (if_neg (fun q => e q.1)), fun _ => rfl⟩)
/-! what a run is made of: writes, new cells, longer lists -/
/-- the slots of a new cell -/
def szN (s z : Nat) : Nat := if kd s < 24 then nF (kd s) else if kd s = 2000 then 3 else if kd s = 1000000 then 40 else z
/-- sites at which something is made after the start; the cables' rows that are made anew are not short -/
def dyS (s z : Nat) : Bool := [1, 2, 4, 5, 6, 7, 8, 9, 10, 11, 12, 16, 17, 18, 19, 20, 21, 22, 23, 35, 36, 37, 38, 39, 48, 61, 62, 63, 64, 74, 75, 76, 77, 78, 79, 80, 81].any (Nat.beq s) || ((Nat.beq s 51 || Nat.beq s 52) && Nat.ble 16 z || (Nat.beq s 49 || Nat.beq s 50) && Nat.ble z 32)
theorem dyS_lt {s z : Nat} (h : dyS s z = true) : s < 100 := by
  unfold dyS at h
  rw [Bool.or_eq_true, Bool.or_eq_true, Bool.and_eq_true, Bool.or_eq_true, Bool.and_eq_true, Bool.or_eq_true] at h
  rcases h with h | ⟨h | h, -⟩ | ⟨h | h, -⟩
  · obtain ⟨x, hx, e⟩ := List.any_eq_true.mp h
    have e := Nat.eq_of_beq_eq_true e
    subst e
    simp only [List.mem_cons, List.not_mem_nil, or_false] at hx
    omega
  · have := Nat.eq_of_beq_eq_true h; omega
  · have := Nat.eq_of_beq_eq_true h; omega
  · have := Nat.eq_of_beq_eq_true h; omega
  · have := Nat.eq_of_beq_eq_true h; omega
def WrC (P : TS → Prop) : Prop :=
  (∀ x s i k v, P x → P (sI x s i k v)) ∧ (∀ x s i k v, P x → P (sL x s i k v)) ∧ (∀ x s i k v, P x → P (sR x s i k v)) ∧
  (∀ x s z n, n = szN s z → dyS s z = true → P x → P (mk x s z 0 n)) ∧ (∀ x s i v, kd s = 2000 → s < 100 → i < tN x s → tZ x s i ≤ tC x s i → P x → P (pushL x s i v)) ∧
  (∀ x s i k, kd s = 2000 → P x → P (rmL x s i k)) ∧ (∀ x s i, (kd s = 2000 ∨ kd s = 1000000) → P x → P (sZ x s i 0)) ∧
  (∀ x s i v, kd s = 1000000 → s < 100 → i < tN x s → tZ x s i ≤ tC x s i → P x → P (pushB x s i v))
/-- m' comes out of m by such steps -/
def Wr (m m' : TS) : Prop := ∀ P, WrC P → P m → P m'
theorem Wr.rf (m : TS) : Wr m m := fun _ _ h => h
theorem Wr.t {a b c : TS} (h1 : Wr a b) (h2 : Wr b c) : Wr a c := fun P hP h => h2 P hP (h1 P hP h)
theorem Wr.cI {m m' : TS} (s i k : Nat) (v : Int32) (h : Wr m m') : Wr m (sI m' s i k v) := fun P hP p => hP.1 _ _ _ _ _ (h P hP p)
theorem Wr.cL {m m' : TS} (s i k : Nat) (v : Int64) (h : Wr m m') : Wr m (sL m' s i k v) := fun P hP p => hP.2.1 _ _ _ _ _ (h P hP p)
theorem Wr.cR {m m' : TS} (s i k : Nat) (v : Option (Nat × Nat)) (h : Wr m m') : Wr m (sR m' s i k v) := fun P hP p => hP.2.2.1 _ _ _ _ _ (h P hP p)
theorem Wr.cM {m m' : TS} (s z n : Nat) (hn : n = szN s z) (hs : dyS s z = true) (h : Wr m m') : Wr m (mk m' s z 0 n) := fun P hP p => hP.2.2.2.1 _ _ _ _ hn hs (h P hP p)
theorem Wr.cP {m m' : TS} (s i : Nat) (v : Option (Nat × Nat)) (hk : kd s = 2000) (hs : s < 100) (hi : i < tN m' s) (hc : tZ m' s i ≤ tC m' s i) (h : Wr m m') : Wr m (pushL m' s i v) := fun P hP p => hP.2.2.2.2.1 _ _ _ _ hk hs hi hc (h P hP p)
theorem Wr.cX {m m' : TS} (s i k : Nat) (hk : kd s = 2000) (h : Wr m m') : Wr m (rmL m' s i k) := fun P hP p => hP.2.2.2.2.2.1 _ _ _ _ hk (h P hP p)
theorem Wr.cZ {m m' : TS} (s i : Nat) (hk : kd s = 2000 ∨ kd s = 1000000) (h : Wr m m') : Wr m (sZ m' s i 0) := fun P hP p => hP.2.2.2.2.2.2.1 _ _ _ hk (h P hP p)
theorem Wr.cB {m m' : TS} (s i : Nat) (v : Int32) (hk : kd s = 1000000) (hs : s < 100) (hi : i < tN m' s) (hc : tZ m' s i ≤ tC m' s i) (h : Wr m m') : Wr m (pushB m' s i v) := fun P hP p => hP.2.2.2.2.2.2.2 _ _ _ _ hk hs hi hc (h P hP p)
theorem Wr.cpL {a b : TS} (h : Wr a b) (s i : Nat) (f : Nat → Int32) (l : List Nat) : Wr a (cpL b s i f l) := by
  induction l generalizing b with
  | nil => exact h
  | cons x l ih => exact ih (h.cI s i x (f x))
theorem Wr.N {a b : TS} (h : Wr a b) (s : Nat) : tN a s ≤ tN b s := by
  refine h (fun x => tN a s ≤ tN x s) ⟨fun _ _ _ _ _ h => h, fun _ _ _ _ _ h => h, fun _ _ _ _ _ h => h, fun x s' z n hn hs ih => ?_, fun x s' i v hk hs hi hc ih => ?_, fun _ _ _ _ _ h => h, fun _ _ _ _ h => h, fun x s' i v hk hs hi hc ih => ?_⟩ (Nat.le_refl _)
  · dsimp only
    rw [tN_mk]
    split
    · rename_i e; rw [← e]; omega
    · exact ih
  · dsimp only; rw [tN_pushL]; exact ih
  · dsimp only; rw [tN_pushB]; exact ih
theorem Wr.Z {a b : TS} (h : Wr a b) {s i : Nat} (h1 : kd s ≠ 2000) (h2 : kd s ≠ 1000000) (hi : i < tN a s) : tZ b s i = tZ a s i := by
  refine (h (fun x => i < tN x s ∧ tZ x s i = tZ a s i) ⟨fun _ _ _ _ _ h => h, fun _ _ _ _ _ h => h, fun _ _ _ _ _ h => h, fun x s' z n hn hs ih => ⟨?_, ?_⟩, fun x s' i v hk hs hi hc ih => ⟨?_, ?_⟩, fun x s' i' k hk ih => ⟨ih.1, ?_⟩, fun x s' i' hk ih => ⟨ih.1, ?_⟩, fun x s' i v hk hs hi hc ih => ⟨?_, ?_⟩⟩ ⟨hi, rfl⟩).2
  · rw [tN_mk]
    split
    · rename_i e; rw [← e]; exact Nat.lt_succ_of_lt ih.1
    · exact ih.1
  · rw [tZ_mk, if_neg]
    · exact ih.2
    · intro q
      have := ih.1
      rw [q.1, q.2] at this
      exact Nat.lt_irrefl _ this
  · rw [tN_pushL]; exact ih.1
  · rw [tZ_pushL, if_neg (fun q => h1 (by rw [q.1]; exact hk))]; exact ih.2
  · rw [tZ_rmL, if_neg (fun q => h1 (by rw [q.1]; exact hk))]; exact ih.2
  · rw [tZ_sZ, if_neg (fun q => by rw [q.1] at h1 h2; rcases hk with z | z; exact h1 z; exact h2 z)]; exact ih.2
  · rw [tN_pushB]; exact ih.1
  · rw [tZ_pushB, if_neg (fun q => h2 (by rw [q.1]; exact hk))]; exact ih.2
