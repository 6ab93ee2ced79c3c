/-! ===== the law's own arrays and numbers ===== -/
theorem ow_w : ow 0 = 0 ∧ ow 100 = 0 ∧ ow 101 = 0 ∧ ow 300 = 0 := by decide +kernel
/-- the rest of the heap: the constants, the numbers' state, the law's table -/
def WT (w : Hp) (n : Nat) (t : List Int32) : Prop := hG w (some (100, 0)) = some (1000, [aI (Int32.ofNat n)]) ∧ hG w (some (101, 0)) = some (1000, t.map aI) ∧ n < 4294967296 ∧ t.length = 60
theorem hG_1 {a : TS} {w : Hp} {s i : Nat} (h : ow s = 0) : hG (enc 1 a w) (some (s, i)) = hG w (some (s, i)) := hG_ot (by omega)
theorem hS_1 {a : TS} {w : Hp} {s i : Nat} {c : OC} (h : ow s = 0) : hS (enc 1 a w) (s, i) c = enc 1 a (hS w (s, i) c) := by
  have e1 : (hS (enc 1 a w) (s, i) c).1 = (enc 1 a (hS w (s, i) c)).1 := by
    funext s'
    show (match Nat.beq s' s with | true => ((enc 1 a w).1 s').set i c | false => (enc 1 a w).1 s') = _
    by_cases e : s' = s
    · subst e
      rw [beq_tt rfl, enc_ot _ _ (by omega), enc_ot _ _ (by omega)]
      show _ = (match Nat.beq s' s' with | true => (w.1 s').set i c | false => w.1 s')
      rw [beq_tt rfl]
    · rw [beq_ff e]
      by_cases h1 : ow s' = 1
      · rw [enc_at _ _ h1, enc_at _ _ h1]
      · rw [enc_ot _ _ h1, enc_ot _ _ h1]
        show _ = (match Nat.beq s' s with | true => (w.1 s').set i c | false => w.1 s')
        rw [beq_ff e]
  exact Prod.ext e1 rfl
theorem hX_1 {a : TS} {w : Hp} {e : Nat} : hX (enc 1 a w) e = enc 1 a (hX w e) := by
  have e1 : (hX (enc 1 a w) e).1 = (enc 1 a (hX w e)).1 := by
    funext s'
    show (match Nat.beq s' 300 with | true => (enc 1 a w).1 s' ++ [(e, [])] | false => (enc 1 a w).1 s') = _
    by_cases q : s' = 300
    · subst q
      rw [beq_tt rfl, enc_ot _ _ (by rw [ow_w.2.2.2]; decide), enc_ot _ _ (by rw [ow_w.2.2.2]; decide)]
      rfl
    · rw [beq_ff q]
      by_cases h1 : ow s' = 1
      · rw [enc_at _ _ h1, enc_at _ _ h1]
      · rw [enc_ot _ _ h1, enc_ot _ _ h1]
        show _ = (match Nat.beq s' 300 with | true => w.1 s' ++ [(e, [])] | false => w.1 s')
        rw [beq_ff q]
  exact Prod.ext e1 rfl
theorem hGX {w : Hp} {e s i : Nat} (h : s ≠ 300) : hG (hX w e) (some (s, i)) = hG w (some (s, i)) := by
  show (match Nat.beq s 300 with | true => w.1 s ++ [(e, [])] | false => w.1 s)[i]? = (w.1 s)[i]?
  rw [beq_ff h]
theorem hGS {w : Hp} {s s' i i' : Nat} {c : OC} (h : s' ≠ s) : hG (hS w (s, i) c) (some (s', i')) = hG w (some (s', i')) := by
  show (match Nat.beq s' s with | true => (w.1 s').set i c | false => w.1 s')[i']? = (w.1 s')[i']?
  rw [beq_ff h]
theorem hGSS {w : Hp} {s i : Nat} {c c' : OC} (h : hG w (some (s, i)) = some c') : hG (hS w (s, i) c) (some (s, i)) = some c := by
  show (match Nat.beq s s with | true => (w.1 s).set i c | false => w.1 s)[i]? = some c
  rw [beq_tt rfl]
  have h : (w.1 s)[i]? = some c' := h
  have hl : i < (w.1 s).length := by
    cases Nat.lt_or_ge i (w.1 s).length with
    | inl q => exact q
    | inr q => rw [List.getElem?_eq_none q] at h; cases h
  dsimp only
  rw [List.getElem?_set_self hl]
theorem WT_X {w : Hp} {n : Nat} {t : List Int32} (h : WT w n t) (e : Nat) : WT (hX w e) n t := by
  obtain ⟨h3, h4, h5⟩ := h
  exact ⟨(hGX (by decide)).trans h3, (hGX (by decide)).trans h4, h5⟩
theorem WT_r {w : Hp} {n m : Nat} {t : List Int32} (h : WT w n t) (hm : m < 4294967296) : WT (hS w (100, 0) (1000, [aI (Int32.ofNat m)])) m t := by
  obtain ⟨h3, h4, h5, h6⟩ := h
  exact ⟨hGSS h3, (hGS (by decide)).trans h4, hm, h6⟩
theorem WT_t {w : Hp} {n : Nat} {t t' : List Int32} (h : WT w n t) (hl : t'.length = 60) : WT (hS w (101, 0) (1000, t'.map aI)) n t' := by
  obtain ⟨h3, h4, h5, h6⟩ := h
  exact ⟨(hGS (by decide)).trans h3, hGSS h4, h5, hl⟩
/-- the numbers -/
def nS (r : Nat) : Nat := Nat.xor ((r * 1103515245 + 12345) % 4294967296) ((r * 1103515245 + 12345) % 4294967296 / 32768)
theorem nS_rS (r : Nat) : nS r = rS r := rfl
theorem nS_lt (r : Nat) : nS r < 4294967296 := rS_lt r
theorem i_mad (n : Nat) : Int32.ofNat n * 1103515245 + 12345 = Int32.ofNat (n * 1103515245 + 12345) := by
  have e1 : (1103515245 : Int32) = Int32.ofNat 1103515245 := rfl
  have e2 : (12345 : Int32) = Int32.ofNat 12345 := rfl
  rw [e1, e2, ← Int32.ofNat_mul, ← Int32.ofNat_add]
theorem i_tb (n : Nat) : (Int32.ofNat n).toBitVec = BitVec.ofNat 32 n := rfl
theorem i_shr (n k : Nat) (hk : k < 32) : ((Int32.ofNat n).toUInt32 >>> UInt32.ofNat k).toInt32 = Int32.ofNat (n % 4294967296 / 2 ^ k) := by
  apply Int32.toBitVec_inj.mp
  show (BitVec.ofNat 32 n) >>> (BitVec.ofNat 32 k % 32#32) = BitVec.ofNat 32 (n % 4294967296 / 2 ^ k)
  apply BitVec.eq_of_toNat_eq
  have hk2 : (BitVec.ofNat 32 k % 32#32).toNat = k := by
    rw [BitVec.toNat_umod, BitVec.toNat_ofNat, BitVec.toNat_ofNat]
    have e1 : (2 : Nat) ^ 32 = 4294967296 := rfl
    rw [e1, Nat.mod_eq_of_lt (a := k) (by omega), Nat.mod_eq_of_lt (a := 32) (by omega), Nat.mod_eq_of_lt hk]
  have hpos : 0 < 2 ^ k := Nat.two_pow_pos k
  have hle : n % 4294967296 / 2 ^ k ≤ n % 4294967296 := Nat.div_le_self _ _
  rw [BitVec.ushiftRight_eq', BitVec.toNat_ushiftRight, hk2, BitVec.toNat_ofNat, BitVec.toNat_ofNat, Nat.shiftRight_eq_div_pow]
  have e : (2 : Nat) ^ 32 = 4294967296 := rfl
  rw [e, Nat.mod_eq_of_lt (a := n % 4294967296 / 2 ^ k) (by omega)]
theorem i_xor (m k : Nat) : Int32.ofNat m ^^^ Int32.ofNat k = Int32.ofNat (Nat.xor (m % 4294967296) (k % 4294967296)) := by
  apply Int32.toBitVec_inj.mp
  show (BitVec.ofNat 32 m) ^^^ (BitVec.ofNat 32 k) = BitVec.ofNat 32 _
  apply BitVec.eq_of_toNat_eq
  rw [BitVec.toNat_xor, BitVec.toNat_ofNat, BitVec.toNat_ofNat, BitVec.toNat_ofNat]
  have hlt : Nat.xor (m % 4294967296) (k % 4294967296) < 2 ^ 32 := Nat.xor_lt_two_pow (n := 32) (by omega) (by omega)
  rw [Nat.mod_eq_of_lt hlt]
  rfl
theorem c15 : ((15 : Int32).toUInt32 &&& Int32.toUInt32 31) = UInt32.ofNat 15 := by decide
theorem c9 : ((9 : Int32).toUInt32 &&& Int32.toUInt32 31) = UInt32.ofNat 9 := by decide
theorem nx_1 (n : Nat) : (Int32.ofNat n * 1103515245 + 12345) ^^^ ((Int32.ofNat n * 1103515245 + 12345).toUInt32 >>> UInt32.ofNat 15).toInt32 = Int32.ofNat (nS n) := by
  rw [i_mad, i_shr _ 15 (by omega), i_xor]
  unfold nS
  have e : (n * 1103515245 + 12345) % 4294967296 / 2 ^ 15 % 4294967296 = (n * 1103515245 + 12345) % 4294967296 / 32768 := by
    have : (2 : Nat) ^ 15 = 32768 := rfl
    rw [this]
    omega
  rw [e]
theorem nx_2 {n : Nat} (h : n < 4294967296) : ((Int32.ofNat n).toUInt32 >>> UInt32.ofNat 9).toInt32 = Int32.ofNat (n / 512) := by
  rw [i_shr _ 9 (by omega), Nat.mod_eq_of_lt h]
/-- a call of a method of the law's -/
theorem X_sl {k : Nat} {h : Hp} {as : List AV} (h1 : (Nat.beq (rcT k) 0 && Nat.blt 318 k && Nat.blt k 400) = true) (h4 : Nat.ble (stS as) (alT k) = true) : Ex k as h = Ru k 0 (mkL 0 as) [] h := by
  simp only [Bool.and_eq_true] at h1
  have b1 : 318 < k := Nat.le_of_ble_eq_true h1.1.2
  have b : k < 400 := Nat.le_of_ble_eq_true h1.2
  refine Ex_of ?_ (beq_ff (by omega)) ?_
  · cases hb : Nat.ble 400 k
    · rfl
    · have a := Nat.le_of_ble_eq_true hb
      omega
  · unfold rcv
    rw [h4, Nat.eq_of_beq_eq_true h1.1.1]
    rfl
/-- next -/
theorem x319 {a : TS} {w : Hp} {n : Nat} {t : List Int32} (h : WT w n t) : ∃ w', Ex 319 [aR (some (100, 0))] (enc 1 a w) = some (.inl (some (aI (Int32.ofNat (nS n / 512)))), enc 1 a w') ∧ WT w' (nS n) t ∧ w'.2 = w.2 := by
  obtain ⟨h3, h4, h5, h6⟩ := id h
  have g0 : ∀ m w0, hG w0 (some (100, 0)) = some (1000, [aI m]) → gaI (enc 1 a w0) (some (100, 0)) 1000 0 = some m := by
    intro m w0 hw
    unfold gaI ga
    rw [hG_1 ow_w.2.1, hw]
    rfl
  have p0 : ∀ m m' w0, hG w0 (some (100, 0)) = some (1000, [aI m]) → pa (enc 1 a w0) (some (100, 0)) 1000 0 (aI m') = some (enc 1 a (hS w0 (100, 0) (1000, [aI m']))) := by
    intro m m' w0 hw
    unfold pa
    dsimp only
    rw [hG_1 ow_w.2.1, hw, ← hS_1 ow_w.2.1]
    rfl
  have s1 := hGSS (c := (1000, [aI (Int32.ofNat n * 1103515245 + 12345)])) h3
  have s2 := hGSS (c := (1000, [aI (Int32.ofNat (nS n))])) s1
  refine ⟨hS (hS w (100, 0) (1000, [aI (Int32.ofNat n * 1103515245 + 12345)])) (100, 0) (1000, [aI (Int32.ofNat (nS n))]), ?_, ?_, rfl⟩
  · refine (X_sl (by decide +kernel) (by decide +kernel)).trans ((lf_319_0 ..).trans ?_)
    rw [g0 _ _ h3]
    simp only [Option.bind_some]
    rw [p0 _ _ _ h3]
    simp only [Option.bind_some]
    rw [g0 _ _ s1]
    simp only [Option.bind_some]
    rw [c15, nx_1, p0 _ _ _ s1]
    simp only [Option.bind_some]
    rw [g0 _ _ s2]
    simp only [Option.bind_some]
    rw [c9, nx_2 (nS_lt n)]
  · exact ⟨s2, (hGS (by decide)).trans ((hGS (by decide)).trans h4), nS_lt n, h6⟩
