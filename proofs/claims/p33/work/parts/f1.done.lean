/-! ===== done: what a call of the law answers ===== -/
theorem no_r {r : Nat} (h1 : 1 ≤ r) (h3 : r ≤ 3) : (r = 1 ∧ exN r = 32) ∨ (r = 2 ∧ exN r = 30) ∨ (r = 3 ∧ exN r = 31) := by
  have : r = 1 ∨ r = 2 ∨ r = 3 := by omega
  rcases this with q | q | q <;> subst q
  · exact Or.inl ⟨rfl, rfl⟩
  · exact Or.inr (Or.inl ⟨rfl, rfl⟩)
  · exact Or.inr (Or.inr ⟨rfl, rfl⟩)
/-- what the law gets instead of an answer -/
def noV (r : Nat) : Int32 := if r = 1 then -1000000001 else if r = 2 then -1000000002 else -1000000003
theorem xif_r {r : Nat} (h1 : 1 ≤ r) (h3 : r ≤ 3) (h : Hp) : xif (exN r) 32 (some (.inl (some (aI (-1000000001 : Int32))), h)) (xif (exN r) 30 (some (.inl (some (aI (-1000000002 : Int32))), h)) (xif (exN r) 31 (some (.inl (some (aI (-1000000003 : Int32))), h)) (xT (exN r) h))) = some (.inl (some (aI (noV r))), h) := by
  rcases no_r h1 h3 with ⟨q, e⟩ | ⟨q, e⟩ | ⟨q, e⟩ <;> subst q <;> rw [e] <;> rfl
theorem xif_h {r : Nat} (h1 : 1 ≤ r) (h3 : r ≤ 3) (h h' : Hp) : xif (exN r) 32 (some (.inl (some (aI (-1000000001 : Int32))), h)) (xif (exN r) 30 (some (.inl (some (aI (-1000000002 : Int32))), h)) (xif (exN r) 31 (some (.inl (some (aI (-1000000003 : Int32))), h)) (xT (exN r) h'))) = some (.inl (some (aI (noV r))), h) := by
  rcases no_r h1 h3 with ⟨q, e⟩ | ⟨q, e⟩ | ⟨q, e⟩ <;> subst q <;> rw [e] <;> rfl
theorem dn_0 {a a' : TS} {w : Hp} {p2 p3 p4 p5 v : Int32} (h : ∀ z, Ex 82 [aR (some (96, 0)), aI p2] (enc 1 a z) = some (.inl (some (aI v)), enc 1 a' z)) : Ex 321 [aR (some (96, 0)), aI 0, aI p2, aI p3, aI p4, aI p5] (enc 1 a w) = some (.inl (some (aI v)), enc 1 a' w) := by
  refine (X_sl (by decide +kernel) rfl).trans ((lf_321_0 ..).trans ?_)
  rw [if_pos (by decide), h]
  rfl
theorem dn_1 {a a' : TS} {w : Hp} {p2 p3 p4 p5 v : Int32} (h : ∀ z, Ex 85 [aR (some (96, 0)), aI p2, aI p3] (enc 1 a z) = some (.inl (some (aI v)), enc 1 a' z)) : Ex 321 [aR (some (96, 0)), aI 1, aI p2, aI p3, aI p4, aI p5] (enc 1 a w) = some (.inl (some (aI v)), enc 1 a' w) := by
  refine (X_sl (by decide +kernel) rfl).trans ((lf_321_0 ..).trans ?_)
  rw [if_neg (by decide), if_pos (by decide), h]
  rfl
theorem dn_2 {a a' : TS} {w : Hp} {p2 p3 p4 p5 v : Int32} (h : ∀ z, Ex 88 [aR (some (96, 0)), aI p2, aI p3, aI p4, aI p5] (enc 1 a z) = some (.inl (some (aI v)), enc 1 a' z)) : Ex 321 [aR (some (96, 0)), aI 2, aI p2, aI p3, aI p4, aI p5] (enc 1 a w) = some (.inl (some (aI v)), enc 1 a' w) := by
  refine (X_sl (by decide +kernel) rfl).trans ((lf_321_0 ..).trans ?_)
  rw [if_neg (by decide), if_neg (by decide), if_pos (by decide), h]
  rfl
theorem dn_3 {a a' : TS} {w : Hp} {p2 p3 p4 p5 v : Int32} (h : ∀ z, Ex 91 [aR (some (96, 0)), aI p2, aI p3, aI p4] (enc 1 a z) = some (.inl (some (aI v)), enc 1 a' z)) : Ex 321 [aR (some (96, 0)), aI 3, aI p2, aI p3, aI p4, aI p5] (enc 1 a w) = some (.inl (some (aI v)), enc 1 a' w) := by
  refine (X_sl (by decide +kernel) rfl).trans ((lf_321_0 ..).trans ?_)
  rw [if_neg (by decide), if_neg (by decide), if_neg (by decide), if_pos (by decide), h]
  rfl
theorem dn_4 {a a' : TS} {w : Hp} {p2 p3 p4 p5 v : Int32} (h : ∀ z, Ex 94 [aR (some (96, 0)), aI p2, aI p3, aI p4, aI p5] (enc 1 a z) = some (.inl (some (aI v)), enc 1 a' z)) : Ex 321 [aR (some (96, 0)), aI 4, aI p2, aI p3, aI p4, aI p5] (enc 1 a w) = some (.inl (some (aI v)), enc 1 a' w) := by
  refine (X_sl (by decide +kernel) rfl).trans ((lf_321_0 ..).trans ?_)
  rw [if_neg (by decide), if_neg (by decide), if_neg (by decide), if_neg (by decide), if_pos (by decide), h]
  rfl
theorem dx_4 {a a' : TS} {w : Hp} {p2 p3 p4 p5 : Int32} {r : Nat} (h1 : 1 ≤ r) (h3 : r ≤ 3) (h : ∀ z, Ex 94 [aR (some (96, 0)), aI p2, aI p3, aI p4, aI p5] (enc 1 a z) = some (.inr (exN r), enc 1 a' z)) : Ex 321 [aR (some (96, 0)), aI 4, aI p2, aI p3, aI p4, aI p5] (enc 1 a w) = some (.inl (some (aI (noV r))), enc 1 a' (hX w (exN r))) := by
  refine (X_sl (by decide +kernel) rfl).trans ((lf_321_0 ..).trans ?_)
  rw [if_neg (by decide), if_neg (by decide), if_neg (by decide), if_neg (by decide), if_pos (by decide), h]
  dsimp only [cI]
  rw [xif_h h1 h3, hX_1]
theorem dn_5 {a a' : TS} {w : Hp} {p2 p3 p4 p5 v : Int32} (h : ∀ z, Ex 97 [aR (some (96, 0)), aI p2] (enc 1 a z) = some (.inl (some (aI v)), enc 1 a' z)) : Ex 321 [aR (some (96, 0)), aI 5, aI p2, aI p3, aI p4, aI p5] (enc 1 a w) = some (.inl (some (aI v)), enc 1 a' w) := by
  refine (X_sl (by decide +kernel) rfl).trans ((lf_321_0 ..).trans ?_)
  rw [if_neg (by decide), if_neg (by decide), if_neg (by decide), if_neg (by decide), if_neg (by decide), if_pos (by decide), h]
  rfl
theorem dn_6 {a a' : TS} {w : Hp} {p2 p3 p4 p5 v : Int32} (h : ∀ z, Ex 99 [aR (some (96, 0)), aI p2, aI p3, aI p4] (enc 1 a z) = some (.inl (some (aI v)), enc 1 a' z)) : Ex 321 [aR (some (96, 0)), aI 6, aI p2, aI p3, aI p4, aI p5] (enc 1 a w) = some (.inl (some (aI v)), enc 1 a' w) := by
  refine (X_sl (by decide +kernel) rfl).trans ((lf_321_0 ..).trans ?_)
  rw [if_neg (by decide), if_neg (by decide), if_neg (by decide), if_neg (by decide), if_neg (by decide), if_neg (by decide), if_pos (by decide), h]
  rfl
theorem dx_6 {a a' : TS} {w : Hp} {p2 p3 p4 p5 : Int32} {r : Nat} (h1 : 1 ≤ r) (h3 : r ≤ 3) (h : ∀ z, Ex 99 [aR (some (96, 0)), aI p2, aI p3, aI p4] (enc 1 a z) = some (.inr (exN r), enc 1 a' z)) : Ex 321 [aR (some (96, 0)), aI 6, aI p2, aI p3, aI p4, aI p5] (enc 1 a w) = some (.inl (some (aI (noV r))), enc 1 a' (hX w (exN r))) := by
  refine (X_sl (by decide +kernel) rfl).trans ((lf_321_0 ..).trans ?_)
  rw [if_neg (by decide), if_neg (by decide), if_neg (by decide), if_neg (by decide), if_neg (by decide), if_neg (by decide), if_pos (by decide), h]
  dsimp only [cI]
  rw [xif_h h1 h3, hX_1]
theorem dn_7 {a a' : TS} {w : Hp} {p2 p3 p4 p5 v : Int32} (h : ∀ z, Ex 102 [aR (some (96, 0)), aI p2, aI p3, aI p4] (enc 1 a z) = some (.inl (some (aI v)), enc 1 a' z)) : Ex 321 [aR (some (96, 0)), aI 7, aI p2, aI p3, aI p4, aI p5] (enc 1 a w) = some (.inl (some (aI v)), enc 1 a' w) := by
  refine (X_sl (by decide +kernel) rfl).trans ((lf_321_0 ..).trans ?_)
  rw [if_neg (by decide), if_neg (by decide), if_neg (by decide), if_neg (by decide), if_neg (by decide), if_neg (by decide), if_neg (by decide), if_pos (by decide), h]
  rfl
theorem dx_7 {a a' : TS} {w : Hp} {p2 p3 p4 p5 : Int32} {r : Nat} (h1 : 1 ≤ r) (h3 : r ≤ 3) (h : ∀ z, Ex 102 [aR (some (96, 0)), aI p2, aI p3, aI p4] (enc 1 a z) = some (.inr (exN r), enc 1 a' z)) : Ex 321 [aR (some (96, 0)), aI 7, aI p2, aI p3, aI p4, aI p5] (enc 1 a w) = some (.inl (some (aI (noV r))), enc 1 a' (hX w (exN r))) := by
  refine (X_sl (by decide +kernel) rfl).trans ((lf_321_0 ..).trans ?_)
  rw [if_neg (by decide), if_neg (by decide), if_neg (by decide), if_neg (by decide), if_neg (by decide), if_neg (by decide), if_neg (by decide), if_pos (by decide), h]
  dsimp only [cI]
  rw [xif_h h1 h3, hX_1]
theorem dn_8 {a a' : TS} {w : Hp} {p2 p3 p4 p5 v : Int32} (h : ∀ z, Ex 104 [aR (some (96, 0)), aI p2] (enc 1 a z) = some (.inl (some (aI v)), enc 1 a' z)) : Ex 321 [aR (some (96, 0)), aI 8, aI p2, aI p3, aI p4, aI p5] (enc 1 a w) = some (.inl (some (aI v)), enc 1 a' w) := by
  refine (X_sl (by decide +kernel) rfl).trans ((lf_321_0 ..).trans ?_)
  rw [if_neg (by decide), if_neg (by decide), if_neg (by decide), if_neg (by decide), if_neg (by decide), if_neg (by decide), if_neg (by decide), if_neg (by decide), if_pos (by decide), h]
  rfl
theorem dx_8 {a a' : TS} {w : Hp} {p2 p3 p4 p5 : Int32} {r : Nat} (h1 : 1 ≤ r) (h3 : r ≤ 3) (h : ∀ z, Ex 104 [aR (some (96, 0)), aI p2] (enc 1 a z) = some (.inr (exN r), enc 1 a' z)) : Ex 321 [aR (some (96, 0)), aI 8, aI p2, aI p3, aI p4, aI p5] (enc 1 a w) = some (.inl (some (aI (noV r))), enc 1 a' (hX w (exN r))) := by
  refine (X_sl (by decide +kernel) rfl).trans ((lf_321_0 ..).trans ?_)
  rw [if_neg (by decide), if_neg (by decide), if_neg (by decide), if_neg (by decide), if_neg (by decide), if_neg (by decide), if_neg (by decide), if_neg (by decide), if_pos (by decide), h]
  dsimp only [cI]
  rw [xif_h h1 h3, hX_1]
theorem dn_9 {a a' : TS} {w : Hp} {p2 p3 p4 p5 v : Int32} (h : ∀ z, Ex 108 [aR (some (96, 0)), aI p2, aI p3, aI p4, aI p5] (enc 1 a z) = some (.inl (some (aI v)), enc 1 a' z)) : Ex 321 [aR (some (96, 0)), aI 9, aI p2, aI p3, aI p4, aI p5] (enc 1 a w) = some (.inl (some (aI v)), enc 1 a' w) := by
  refine (X_sl (by decide +kernel) rfl).trans ((lf_321_0 ..).trans ?_)
  rw [if_neg (by decide), if_neg (by decide), if_neg (by decide), if_neg (by decide), if_neg (by decide), if_neg (by decide), if_neg (by decide), if_neg (by decide), if_neg (by decide), if_pos (by decide), h]
  rfl
theorem dn_11 {a a' : TS} {w : Hp} {p2 p3 p4 p5 v : Int32} (h : ∀ z, Ex 113 [aR (some (96, 0)), aI p2, aI p3] (enc 1 a z) = some (.inl (some (aI v)), enc 1 a' z)) : Ex 321 [aR (some (96, 0)), aI 11, aI p2, aI p3, aI p4, aI p5] (enc 1 a w) = some (.inl (some (aI v)), enc 1 a' w) := by
  refine (X_sl (by decide +kernel) rfl).trans ((lf_321_0 ..).trans ?_)
  rw [if_neg (by decide), if_neg (by decide), if_neg (by decide), if_neg (by decide), if_neg (by decide), if_neg (by decide), if_neg (by decide), if_neg (by decide), if_neg (by decide), if_neg (by decide), if_neg (by decide), if_pos (by decide), h]
  rfl
theorem dx_11 {a a' : TS} {w : Hp} {p2 p3 p4 p5 : Int32} {r : Nat} (h1 : 1 ≤ r) (h3 : r ≤ 3) (h : ∀ z, Ex 113 [aR (some (96, 0)), aI p2, aI p3] (enc 1 a z) = some (.inr (exN r), enc 1 a' z)) : Ex 321 [aR (some (96, 0)), aI 11, aI p2, aI p3, aI p4, aI p5] (enc 1 a w) = some (.inl (some (aI (noV r))), enc 1 a' (hX w (exN r))) := by
  refine (X_sl (by decide +kernel) rfl).trans ((lf_321_0 ..).trans ?_)
  rw [if_neg (by decide), if_neg (by decide), if_neg (by decide), if_neg (by decide), if_neg (by decide), if_neg (by decide), if_neg (by decide), if_neg (by decide), if_neg (by decide), if_neg (by decide), if_neg (by decide), if_pos (by decide), h]
  dsimp only [cI]
  rw [xif_h h1 h3, hX_1]
theorem dn_12 {a a' : TS} {w : Hp} {p2 p3 p4 p5 v : Int32} (hv : bitOk v = true) (h : ∀ z, Ex 116 [aR (some (96, 0)), aI p2] (enc 1 a z) = some (.inl (some (aI v)), enc 1 a' z)) : Ex 321 [aR (some (96, 0)), aI 12, aI p2, aI p3, aI p4, aI p5] (enc 1 a w) = some (.inl (some (aI v)), enc 1 a' w) := by
  refine (X_sl (by decide +kernel) rfl).trans ((lf_321_0 ..).trans ?_)
  rw [if_neg (by decide), if_neg (by decide), if_neg (by decide), if_neg (by decide), if_neg (by decide), if_neg (by decide), if_neg (by decide), if_neg (by decide), if_neg (by decide), if_neg (by decide), if_neg (by decide), if_neg (by decide), if_pos (by decide), h, cI_v]
  rcases bit01 hv with q | q <;> subst q <;> rfl
theorem dn_14 {a a' : TS} {w : Hp} {p2 p3 p4 p5 v : Int32} (h : ∀ z, Ex 120 [aR (some (96, 0)), aI p2] (enc 1 a z) = some (.inl (some (aI v)), enc 1 a' z)) : Ex 321 [aR (some (96, 0)), aI 14, aI p2, aI p3, aI p4, aI p5] (enc 1 a w) = some (.inl (some (aI v)), enc 1 a' w) := by
  refine (X_sl (by decide +kernel) rfl).trans ((lf_321_0 ..).trans ?_)
  rw [if_neg (by decide), if_neg (by decide), if_neg (by decide), if_neg (by decide), if_neg (by decide), if_neg (by decide), if_neg (by decide), if_neg (by decide), if_neg (by decide), if_neg (by decide), if_neg (by decide), if_neg (by decide), if_neg (by decide), if_neg (by decide), if_pos (by decide), h]
  rfl
theorem dx_14 {a a' : TS} {w : Hp} {p2 p3 p4 p5 : Int32} {r : Nat} (h1 : 1 ≤ r) (h3 : r ≤ 3) (h : ∀ z, Ex 120 [aR (some (96, 0)), aI p2] (enc 1 a z) = some (.inr (exN r), enc 1 a' z)) : Ex 321 [aR (some (96, 0)), aI 14, aI p2, aI p3, aI p4, aI p5] (enc 1 a w) = some (.inl (some (aI (noV r))), enc 1 a' (hX w (exN r))) := by
  refine (X_sl (by decide +kernel) rfl).trans ((lf_321_0 ..).trans ?_)
  rw [if_neg (by decide), if_neg (by decide), if_neg (by decide), if_neg (by decide), if_neg (by decide), if_neg (by decide), if_neg (by decide), if_neg (by decide), if_neg (by decide), if_neg (by decide), if_neg (by decide), if_neg (by decide), if_neg (by decide), if_neg (by decide), if_pos (by decide), h]
  dsimp only [cI]
  rw [xif_h h1 h3, hX_1]
theorem dn_15 {a a' : TS} {w : Hp} {p2 p3 p4 p5 v : Int32} (h : ∀ z, Ex 125 [aR (some (96, 0)), aI p2, aI p3] (enc 1 a z) = some (.inl (some (aI v)), enc 1 a' z)) : Ex 321 [aR (some (96, 0)), aI 15, aI p2, aI p3, aI p4, aI p5] (enc 1 a w) = some (.inl (some (aI v)), enc 1 a' w) := by
  refine (X_sl (by decide +kernel) rfl).trans ((lf_321_0 ..).trans ?_)
  rw [if_neg (by decide), if_neg (by decide), if_neg (by decide), if_neg (by decide), if_neg (by decide), if_neg (by decide), if_neg (by decide), if_neg (by decide), if_neg (by decide), if_neg (by decide), if_neg (by decide), if_neg (by decide), if_neg (by decide), if_neg (by decide), if_neg (by decide), if_pos (by decide), h]
  rfl
theorem dx_15 {a a' : TS} {w : Hp} {p2 p3 p4 p5 : Int32} {r : Nat} (h1 : 1 ≤ r) (h3 : r ≤ 3) (h : ∀ z, Ex 125 [aR (some (96, 0)), aI p2, aI p3] (enc 1 a z) = some (.inr (exN r), enc 1 a' z)) : Ex 321 [aR (some (96, 0)), aI 15, aI p2, aI p3, aI p4, aI p5] (enc 1 a w) = some (.inl (some (aI (noV r))), enc 1 a' (hX w (exN r))) := by
  refine (X_sl (by decide +kernel) rfl).trans ((lf_321_0 ..).trans ?_)
  rw [if_neg (by decide), if_neg (by decide), if_neg (by decide), if_neg (by decide), if_neg (by decide), if_neg (by decide), if_neg (by decide), if_neg (by decide), if_neg (by decide), if_neg (by decide), if_neg (by decide), if_neg (by decide), if_neg (by decide), if_neg (by decide), if_neg (by decide), if_pos (by decide), h]
  dsimp only [cI]
  rw [xif_h h1 h3, hX_1]
theorem dn_16 {a a' : TS} {w : Hp} {p2 p3 p4 p5 v : Int32} (h : ∀ z, Ex 126 [aR (some (96, 0)), aI p2, aI p3] (enc 1 a z) = some (.inl (some (aI v)), enc 1 a' z)) : Ex 321 [aR (some (96, 0)), aI 16, aI p2, aI p3, aI p4, aI p5] (enc 1 a w) = some (.inl (some (aI v)), enc 1 a' w) := by
  refine (X_sl (by decide +kernel) rfl).trans ((lf_321_0 ..).trans ?_)
  rw [if_neg (by decide), if_neg (by decide), if_neg (by decide), if_neg (by decide), if_neg (by decide), if_neg (by decide), if_neg (by decide), if_neg (by decide), if_neg (by decide), if_neg (by decide), if_neg (by decide), if_neg (by decide), if_neg (by decide), if_neg (by decide), if_neg (by decide), if_neg (by decide), if_pos (by decide), h]
  rfl
theorem dn_17 {a a' : TS} {w : Hp} {p2 p3 p4 p5 v : Int32} (h : ∀ z, Ex 127 [aR (some (96, 0)), aI p2, aI p3] (enc 1 a z) = some (.inl (some (aI v)), enc 1 a' z)) : Ex 321 [aR (some (96, 0)), aI 17, aI p2, aI p3, aI p4, aI p5] (enc 1 a w) = some (.inl (some (aI v)), enc 1 a' w) := by
  refine (X_sl (by decide +kernel) rfl).trans ((lf_321_0 ..).trans ?_)
  rw [if_neg (by decide), if_neg (by decide), if_neg (by decide), if_neg (by decide), if_neg (by decide), if_neg (by decide), if_neg (by decide), if_neg (by decide), if_neg (by decide), if_neg (by decide), if_neg (by decide), if_neg (by decide), if_neg (by decide), if_neg (by decide), if_neg (by decide), if_neg (by decide), if_neg (by decide), if_pos (by decide), h]
  rfl
theorem dx_17 {a a' : TS} {w : Hp} {p2 p3 p4 p5 : Int32} {r : Nat} (h1 : 1 ≤ r) (h3 : r ≤ 3) (h : ∀ z, Ex 127 [aR (some (96, 0)), aI p2, aI p3] (enc 1 a z) = some (.inr (exN r), enc 1 a' z)) : Ex 321 [aR (some (96, 0)), aI 17, aI p2, aI p3, aI p4, aI p5] (enc 1 a w) = some (.inl (some (aI (noV r))), enc 1 a' (hX w (exN r))) := by
  refine (X_sl (by decide +kernel) rfl).trans ((lf_321_0 ..).trans ?_)
  rw [if_neg (by decide), if_neg (by decide), if_neg (by decide), if_neg (by decide), if_neg (by decide), if_neg (by decide), if_neg (by decide), if_neg (by decide), if_neg (by decide), if_neg (by decide), if_neg (by decide), if_neg (by decide), if_neg (by decide), if_neg (by decide), if_neg (by decide), if_neg (by decide), if_neg (by decide), if_pos (by decide), h]
  dsimp only [cI]
  rw [xif_h h1 h3, hX_1]
theorem dn_18 {a a' : TS} {w : Hp} {p2 p3 p4 p5 : Int32} {v : Int64} (h : ∀ z, Ex 128 [aR (some (96, 0)), aI p2, aI p3] (enc 1 a z) = some (.inl (some (aL v)), enc 1 a' z)) : Ex 321 [aR (some (96, 0)), aI 18, aI p2, aI p3, aI p4, aI p5] (enc 1 a w) = some (.inl (some (aI v.toInt32)), enc 1 a' w) := by
  refine (X_sl (by decide +kernel) rfl).trans ((lf_321_0 ..).trans ?_)
  rw [if_neg (by decide), if_neg (by decide), if_neg (by decide), if_neg (by decide), if_neg (by decide), if_neg (by decide), if_neg (by decide), if_neg (by decide), if_neg (by decide), if_neg (by decide), if_neg (by decide), if_neg (by decide), if_neg (by decide), if_neg (by decide), if_neg (by decide), if_neg (by decide), if_neg (by decide), if_neg (by decide), if_pos (by decide), h]
  rfl
theorem dn_19 {a a' : TS} {w : Hp} {p2 p3 p4 p5 : Int32} {v : Int64} (h : ∀ z, Ex 129 [aR (some (96, 0)), aI p2, aI p3] (enc 1 a z) = some (.inl (some (aL v)), enc 1 a' z)) : Ex 321 [aR (some (96, 0)), aI 19, aI p2, aI p3, aI p4, aI p5] (enc 1 a w) = some (.inl (some (aI v.toInt32)), enc 1 a' w) := by
  refine (X_sl (by decide +kernel) rfl).trans ((lf_321_0 ..).trans ?_)
  rw [if_neg (by decide), if_neg (by decide), if_neg (by decide), if_neg (by decide), if_neg (by decide), if_neg (by decide), if_neg (by decide), if_neg (by decide), if_neg (by decide), if_neg (by decide), if_neg (by decide), if_neg (by decide), if_neg (by decide), if_neg (by decide), if_neg (by decide), if_neg (by decide), if_neg (by decide), if_neg (by decide), if_neg (by decide), h]
  rfl
theorem dn_10 {a a' : TS} {w : Hp} {p2 p3 p4 p5 v : Int32} (h : ∀ z, Ex 111 [aR (some (96, 0)), aI (if p2 = 1 then 1 else 0)] (enc 1 a z) = some (.inl (some (aI v)), enc 1 a' z)) : Ex 321 [aR (some (96, 0)), aI 10, aI p2, aI p3, aI p4, aI p5] (enc 1 a w) = some (.inl (some (aI v)), enc 1 a' w) := by
  refine (X_sl (by decide +kernel) rfl).trans ((lf_321_0 ..).trans ?_)
  rw [if_neg (by decide), if_neg (by decide), if_neg (by decide), if_neg (by decide), if_neg (by decide), if_neg (by decide), if_neg (by decide), if_neg (by decide), if_neg (by decide), if_neg (by decide), if_pos (by decide)]
  by_cases e : p2 = 1
  · rw [if_pos e] at h
    rw [if_pos e, lf_321_188, h]
    rfl
  · rw [if_neg e] at h
    rw [if_neg e, lf_321_188, h]
    rfl
theorem dn_13 {a a' : TS} {w : Hp} {p2 p3 p4 p5 v : Int32} (hv : bitOk v = true) (h : ∀ z, Ex 118 [aR (some (96, 0)), aI p2, aI (if p3 = 1 then 1 else 0)] (enc 1 a z) = some (.inl (some (aI v)), enc 1 a' z)) : Ex 321 [aR (some (96, 0)), aI 13, aI p2, aI p3, aI p4, aI p5] (enc 1 a w) = some (.inl (some (aI v)), enc 1 a' w) := by
  refine (X_sl (by decide +kernel) rfl).trans ((lf_321_0 ..).trans ?_)
  rw [if_neg (by decide), if_neg (by decide), if_neg (by decide), if_neg (by decide), if_neg (by decide), if_neg (by decide), if_neg (by decide), if_neg (by decide), if_neg (by decide), if_neg (by decide), if_neg (by decide), if_neg (by decide), if_neg (by decide), if_pos (by decide)]
  by_cases e : p3 = 1
  · rw [if_pos e] at h
    rw [if_pos e, lf_321_225, h, cI_v]
    rcases bit01 hv with q | q <;> subst q <;> rfl
  · rw [if_neg e] at h
    rw [if_neg e, lf_321_225, h, cI_v]
    rcases bit01 hv with q | q <;> subst q <;> rfl
theorem imod_n {x y : Nat} (hx : x < 2 ^ 31) (hy : y < 2 ^ 31) (h0 : 0 < y) : imod (Int32.ofNat x) (Int32.ofNat y) = Int32.ofNat (x % y) := by
  unfold imod
  have e1 : (Int32.ofNat x / Int32.ofNat y) = Int32.ofNat (x / y) := by
    apply Int32.toInt_inj.mp
    rw [Int32.toInt_div, Int32.toInt_ofNat_of_lt hx, Int32.toInt_ofNat_of_lt hy]
    have hd : x / y ≤ x := Nat.div_le_self _ _
    have h1 : Int.tdiv (x : Int) (y : Int) = ((x / y : Nat) : Int) := by rw [Int.tdiv_eq_ediv_of_nonneg (by omega)]; rfl
    rw [h1]
    clear h1
    generalize x / y = q at hd
    rw [Int32.toInt_ofNat_of_lt (by omega)]
    exact Int.bmod_eq_of_le (by omega) (by omega)
  rw [e1, ← Int32.ofNat_mul]
  have h2 : x / y * y + x % y = x := by rw [Nat.mul_comm]; exact Nat.div_add_mod x y
  have h3 : Int32.ofNat x = Int32.ofNat (x / y * y) + Int32.ofNat (x % y) := by rw [← Int32.ofNat_add, h2]
  rw [h3]
  apply Int32.toBitVec_inj.mp
  show (Int32.ofNat (x / y * y)).toBitVec + (Int32.ofNat (x % y)).toBitVec - (Int32.ofNat (x / y * y)).toBitVec = _
  rw [BitVec.add_comm, BitVec.add_sub_cancel]
theorem nx_lt (n : Nat) : nS n / 512 < 8388608 := by
  have := nS_lt n
  omega
/-- from -/
theorem x320 {a : TS} {w : Hp} {n l k : Nat} {t : List Int32} {lo hi : Int32} (h : WT w n t) (e1 : lo = Int32.ofNat l) (e2 : hi = Int32.ofNat k) (hlk : l ≤ k) (hk : k < 1000000) : ∃ w', Ex 320 [aR (some (100, 0)), aI lo, aI hi] (enc 1 a w) = some (.inl (some (aI (Int32.ofNat (l + nS n / 512 % (k - l + 1))))), enc 1 a w') ∧ WT w' (nS n) t ∧ w'.2 = w.2 := by
  obtain ⟨w', h1, h2, h3⟩ := x319 (a := a) h
  refine ⟨w', ?_, h2, h3⟩
  subst e1
  subst e2
  have e3 : Int32.ofNat k - Int32.ofNat l + 1 = Int32.ofNat (k - l + 1) := by
    have : Int32.ofNat k = Int32.ofNat (k - l) + Int32.ofNat l := by rw [← Int32.ofNat_add]; congr 1; omega
    rw [this, ← o_s]
    congr 1
    apply Int32.toBitVec_inj.mp
    show (Int32.ofNat (k - l)).toBitVec + (Int32.ofNat l).toBitVec - (Int32.ofNat l).toBitVec = _
    rw [BitVec.add_sub_cancel]
  refine (X_sl (by decide +kernel) rfl).trans ((lf_320_0 ..).trans ?_)
  rw [h1, cI_v, e3, if_neg (fun q => by
    have := o_inj (n := k - l + 1) (k := 0) (by omega) (by omega) q
    omega), imod_n (by have := nx_lt n; omega) (by omega) (by omega), ← Int32.ofNat_add]
