/-! ===== the law's table; stamps ===== -/
theorem tb_get {a : TS} {w : Hp} {n i : Nat} {t : List Int32} {x : Int32} (h : WT w n t) (hx : x = Int32.ofNat i) (hi : i < 60) : gaI (enc 1 a w) (some (101, 0)) 1000 x = some (t.getD i 0) := by
  obtain ⟨-, h4, -, h6⟩ := h
  subst hx
  have g1 : (Int32.ofNat i).toNatClampNeg = i := o_ix (by omega)
  have g2 : ¬ Int32.ofNat i < 0 := o_lt0 (by omega)
  unfold gaI ga
  rw [hG_1 ow_w.2.2.1, h4]
  dsimp only
  rw [if_neg g2, g1, List.getElem?_map, List.getElem?_eq_getElem (by omega), List.getD_eq_getElem?_getD, List.getElem?_eq_getElem (by omega)]
  rfl
theorem tb_set {a : TS} {w : Hp} {n i : Nat} {t : List Int32} {x v : Int32} (h : WT w n t) (hx : x = Int32.ofNat i) (hi : i < 60) : pa (enc 1 a w) (some (101, 0)) 1000 x (aI v) = some (enc 1 a (hS w (101, 0) (1000, (t.set i v).map aI))) ∧ WT (hS w (101, 0) (1000, (t.set i v).map aI)) n (t.set i v) ∧ (hS w (101, 0) (1000, (t.set i v).map aI)).2 = w.2 := by
  refine ⟨?_, WT_t h (by rw [List.length_set]; exact h.2.2.2), rfl⟩
  obtain ⟨-, h4, -, h6⟩ := h
  subst hx
  have g1 : (Int32.ofNat i).toNatClampNeg = i := o_ix (by omega)
  have g2 : ¬ Int32.ofNat i < 0 := o_lt0 (by omega)
  unfold pa
  dsimp only
  rw [hG_1 ow_w.2.2.1, h4, ← hS_1 ow_w.2.2.1]
  dsimp only
  rw [g1, if_neg (fun q => by
    rcases q with q | q
    · exact g2 q
    · rw [List.length_map] at q; omega), List.map_set]
  rfl
theorem tb_len {a : TS} {w : Hp} {n : Nat} {t : List Int32} (h : WT w n t) : len (enc 1 a w) (some (101, 0)) = some 60 := by
  obtain ⟨-, h4, -, h6⟩ := h
  unfold len
  rw [hG_1 ow_w.2.2.1, h4]
  dsimp only
  rw [List.length_map, h6]
  rfl
theorem getD_set {t : List Int32} {i j : Nat} {v : Int32} (hi : i < t.length) : (t.set i v).getD j 0 = if j = i then v else t.getD j 0 := by
  rw [List.getD_eq_getElem?_getD, List.getD_eq_getElem?_getD, List.getElem?_set]
  by_cases e : j = i
  · rw [if_pos e, if_pos e.symm, if_pos hi]
    rfl
  · rw [if_neg e, if_neg (fun q => e q.symm)]
theorem ix_add {k : Nat} (c : Nat) : Int32.ofNat c + Int32.ofNat k = Int32.ofNat (c + k) := (Int32.ofNat_add c k).symm
theorem x323 (k : Int32) (h : Hp) : Ex 323 [aI k] h = some (.inl (some (aL (keyL k))), h) := (X_sl (by decide +kernel) rfl).trans ((lf_323_0 ..).trans rfl)
theorem x324 (x : Int64) (n : Int32) (h : Hp) : Ex 324 [aL x, aI n] h = some (.inl (some (aL (lmod (((x * 37) + n.toInt64) + 11) 999983))), h) := (X_sl (by decide +kernel) rfl).trans ((lf_324_0 ..).trans rfl)
theorem x325 (k c m s t : Int32) (h : Hp) : Ex 325 [aI k, aI c, aI m, aI s, aI t] h = some (.inl (some (aI (stp (keyL k) c m s t))), h) := by
  refine (X_sl (by decide +kernel) rfl).trans ((lf_325_0 ..).trans ?_)
  rw [x323, cL_v, x324, cL_v, x324, cL_v, x324, cL_v, x324, cL_v]
  rfl
