/-! ===== string builders and strings ===== -/
theorem p411 (q : Nat × Nat) (c : Int32) (h : Hp) : Ex 411 [aR (some q), aI c] h = (match sbG h (some q) with
  | some (cap, xs) => if c < 0 ∨ 255 < c ∨ 1000 ≤ xs.length ∨ cap < xs.length then none else if xs.length < cap then some (.inl (some (aR (some q))), hS h q (1000000 + cap, xs ++ [aI c])) else some (.inl (some (aR (some q))), hC (hS h q (1000000 + (2 * cap + 2), xs ++ [aI c])) 1 (2 * cap + 2))
  | none => none) := rfl
theorem p412 (q : Nat × Nat) (h : Hp) : Ex 412 [aR (some q)] h = (match sbG h (some q) with
  | some (_, xs) => some (.inl (some (aI (Int32.ofNat xs.length))), h)
  | none => none) := rfl
theorem p413 (q : Nat × Nat) (i : Int32) (h : Hp) : Ex 413 [aR (some q), aI i] h = (match sbG h (some q) with
  | some (_, xs) => if i < 0 then none else (oI xs[i.toNatClampNeg]?).bind (fun v => some (.inl (some (aI v)), h))
  | none => none) := rfl
theorem p414 (q : Nat × Nat) (h : Hp) : Ex 414 [aR (some q), aI 0] h = (match sbG h (some q) with
  | some (cap, _) => some (.inl none, hS h q (1000000 + cap, []))
  | none => none) := rfl
theorem p415 (q : Nat × Nat) (h : Hp) : Ex 415 [aR (some q)] h = (match sgG h (some q) with
  | some xs => some (.inl (some (aI (Int32.ofNat xs.length))), h)
  | none => none) := rfl
theorem p416 (q : Nat × Nat) (i : Int32) (h : Hp) : Ex 416 [aR (some q), aI i] h = (match sgG h (some q) with
  | some xs => if i < 0 then none else (oI xs[i.toNatClampNeg]?).bind (fun v => some (.inl (some (aI v)), h))
  | none => none) := rfl
def okUy (w s : Nat) : Bool := Nat.beq (ow s) w && Nat.beq (kd s) 1000000
theorem okU_of {w s : Nat} (h : okUy w s = true) : ow s = w ∧ kd s = 1000000 := by
  unfold okUy at h
  rw [Bool.and_eq_true] at h
  exact ⟨Nat.eq_of_beq_eq_true h.1, Nat.eq_of_beq_eq_true h.2⟩
theorem sbG_enc {w s i : Nat} {m : TS} {z : Hp} (h : okUy w s = true) (hi : i < tN m s) : sbG (enc w m z) (some (s, i)) = some (tC m s i, (cellT m s i).2) := by
  obtain ⟨h1, h2⟩ := okU_of h
  unfold sbG
  rw [hG_enc h1 hi]
  dsimp only
  have e : (cellT m s i).1 = 1000000 + tC m s i := by
    rw [cell_tag, h2]
    unfold tagK
    rw [if_neg (by decide), if_pos rfl]
  rw [e, ble_tt (by omega)]
  dsimp only
  rw [Nat.add_sub_cancel_left]
theorem sb_get {m : TS} {s i k : Nat} (h : kd s = 1000000) (hk : k < tZ m s i) : (cellT m s i).2[k]? = some (aI (tI m s i k)) := by
  rw [cell_get (by unfold lnK; rw [h, if_neg (by decide)]; exact hk), h]
  rfl
theorem sb_len (m : TS) {s : Nat} (i : Nat) (h : kd s = 1000000) : (cellT m s i).2.length = tZ m s i := by
  rw [cell_len, h]
  rfl
theorem X412 {w s i : Nat} {m : TS} {z : Hp} (h : okUy w s = true) (hi : i < tN m s) : Ex 412 [aR (some (s, i))] (enc w m z) = some (.inl (some (aI (Int32.ofNat (tZ m s i)))), enc w m z) := by
  rw [p412]
  rw [sbG_enc h hi]
  dsimp only
  rw [sb_len m i (okU_of h).2]
theorem X413 {w s i : Nat} {m : TS} {z : Hp} {x : Int32} (h : okUy w s = true) (hi : i < tN m s) (h0 : ¬ x < 0) (hx : x.toNatClampNeg < tZ m s i) : Ex 413 [aR (some (s, i)), aI x] (enc w m z) = some (.inl (some (aI (tI m s i x.toNatClampNeg))), enc w m z) := by
  rw [p413]
  rw [sbG_enc h hi]
  dsimp only
  rw [if_neg h0, sb_get (okU_of h).2 hx]
  rfl
theorem cells_sb (m : TS) {s : Nat} (i : Nat) (h : kd s = 1000000) : (cellT m s i).2 = (List.range (tZ m s i)).map (fun k => aI (tI m s i k)) := by
  unfold cellT cellF
  rw [h]
  rfl
theorem hS_sb {w s i cap : Nat} {m m' : TS} {z : Hp} {xs : List AV} (h : okUy w s = true) (hc : tC m' s i = cap) (hx : i < tN m s → xs = (List.range (tZ m' s i)).map (fun k => aI (tI m' s i k))) (ho : ∀ s' i', ¬ (s' = s ∧ i' = i) → cellT m' s' i' = cellT m s' i') (hN : tN m' = tN m) (h1 : tc m' = tc m) (h2 : tz m' = tz m) : hS (enc w m z) (s, i) (1000000 + cap, xs) = enc w m' z := by
  obtain ⟨e1, e2⟩ := okU_of h
  refine hS_enc e1 (fun hi => ?_) ho hN h1 h2
  unfold cellT cellF
  rw [e2, hx hi, ← hc]
  rfl
theorem X414 {w s i : Nat} {m : TS} {z : Hp} (h : okUy w s = true) (hi : i < tN m s) : Ex 414 [aR (some (s, i)), aI 0] (enc w m z) = some (.inl none, enc w (sZ m s i 0) z) := by
  rw [p414]
  rw [sbG_enc h hi]
  dsimp only
  rw [hS_sb (m := m) (i := i) (cap := tC m s i) (m' := sZ m s i 0) h rfl (fun _ => ?_) (fun s' i' hh => ?_) rfl rfl rfl]
  · rw [tZ_sZ, if_pos ⟨rfl, rfl⟩]
    rfl
  · exact cellT_congr rfl rfl rfl (if_neg hh) rfl
theorem X411 {w s i : Nat} {m : TS} {z : Hp} {c : Int32} (h : okUy w s = true) (hi : i < tN m s) (hc0 : ¬ c < 0) (hc1 : ¬ 255 < c) (h0 : tZ m s i < 1000) (hx : tZ m s i ≤ tC m s i) : Ex 411 [aR (some (s, i)), aI c] (enc w m z) = some (.inl (some (aR (some (s, i)))), enc w (pushB m s i c) z) := by
  rw [p411]
  rw [sbG_enc h hi]
  dsimp only
  rw [sb_len m i (okU_of h).2, if_neg (fun q => by rcases q with q | q | q | q; exact hc0 q; exact hc1 q; omega; omega)]
  have lst : ∀ m' : TS, tZ m' s i = tZ m s i + 1 → (∀ k, tI m' s i k = if k = tZ m s i then c else tI m s i k) → (cellT m s i).2 ++ [aI c] = (List.range (tZ m' s i)).map (fun k => aI (tI m' s i k)) := by
    intro m' e1 e2
    rw [e1, List.range_succ, List.map_append, cells_sb m i (okU_of h).2]
    congr 1
    · refine List.map_congr_left (fun k hk => ?_)
      have := List.mem_range.mp hk
      rw [e2, if_neg (by omega)]
    · show [_] = [aI (tI m' s i (tZ m s i))]
      rw [e2, if_pos rfl]
  by_cases hn : tZ m s i < tC m s i
  · rw [if_pos hn]
    have e : pushB m s i c = sZ (sI m s i (tZ m s i) c) s i (tZ m s i + 1) := by
      unfold pushB
      rw [if_pos hn]
    rw [e]
    rw [hS_sb (m := m) (i := i) (cap := tC m s i) (m' := sZ (sI m s i (tZ m s i) c) s i (tZ m s i + 1)) h rfl (fun _ => ?_) (fun s' i' hh => ?_) rfl rfl rfl]
    · refine lst _ (if_pos ⟨rfl, rfl⟩) (fun k => ?_)
      show (if s = s ∧ i = i ∧ k = tZ m s i then c else tI m s i k) = _
      by_cases hk : k = tZ m s i
      · rw [if_pos ⟨rfl, rfl, hk⟩, if_pos hk]
      · rw [if_neg (fun q => hk q.2.2), if_neg hk]
    · exact cellT_congr (uq3_row _ _ _ _ _ hh) rfl rfl (if_neg hh) rfl
  · rw [if_neg hn]
    have e : pushB m s i c = aC (sC (sZ (sI m s i (tZ m s i) c) s i (tZ m s i + 1)) s i (2 * tC m s i + 2)) 1 (2 * tC m s i + 2) := by
      unfold pushB
      rw [if_neg hn]
    rw [e, ← hC_enc]
    rw [hS_sb (m := m) (i := i) (cap := 2 * tC m s i + 2) (m' := sC (sZ (sI m s i (tZ m s i) c) s i (tZ m s i + 1)) s i (2 * tC m s i + 2)) h (by rw [tC_sC, if_pos ⟨rfl, rfl⟩]) (fun _ => ?_) (fun s' i' hh => ?_) rfl rfl rfl]
    · refine lst _ (if_pos ⟨rfl, rfl⟩) (fun k => ?_)
      show (if s = s ∧ i = i ∧ k = tZ m s i then c else tI m s i k) = _
      by_cases hk : k = tZ m s i
      · rw [if_pos ⟨rfl, rfl, hk⟩, if_pos hk]
      · rw [if_neg (fun q => hk q.2.2), if_neg hk]
    · exact cellT_congr (uq3_row _ _ _ _ _ hh) rfl rfl (if_neg hh) (if_neg hh)
/-! the constants -/
def wdT : List (List Nat) := [[116, 111, 117, 99, 104], [97, 99, 99, 111, 117, 110, 116], [115, 104, 111, 112], [99, 97, 114, 100], [112, 97, 121], [115, 101, 110, 100], [98, 97, 99, 107], [119, 97, 105, 116], [102, 97, 117, 108, 116], [111, 112, 101, 110], [99, 108, 111, 115, 101], [104, 111, 117, 115, 101], [116, 101, 108, 108], [115, 116, 111, 108, 101, 110], [102, 114, 101, 101, 122, 101], [100, 97, 121], [100, 105, 115, 112, 117, 116, 101]]
/-- word j; 0: touch -/
def wd (j : Nat) : List Nat := wdT.getD j []
def nNT : List Nat := [1, 2, 4, 3, 1, 3, 1, 4, 0, 0, 3, 2, 1, 1, 0, 1]
/-- how many numbers a command takes -/
def nN (c : Nat) : Nat := nNT.getD c 0
/-- the constants stand -/
def Zk (z : Hp) : Prop := (∀ j, j < 17 → hG z (some (0, 10 + j)) = some (42, (wd j).map (fun n => aI (Int32.ofNat n)))) ∧ hG z (some (0, 1)) = some (1000, nNT.map (fun n => aI (Int32.ofNat n)))
theorem Zk_enc {w : Nat} {m : TS} {z : Hp} (hw : w ≠ 0) (h : Zk z) : Zk (enc w m z) := by
  have o0 : ow 0 ≠ w := fun e => hw (e.symm.trans (show ow 0 = 0 from by decide +kernel))
  exact ⟨fun j hj => (hG_ot o0).trans (h.1 j hj), (hG_ot o0).trans h.2⟩
theorem X415 {w j : Nat} {m : TS} {z : Hp} (hw : w ≠ 0) (h : Zk z) (hj : j < 17) : Ex 415 [aR (some (0, 10 + j))] (enc w m z) = some (.inl (some (aI (Int32.ofNat (wd j).length))), enc w m z) := by
  rw [p415]
  unfold sgG
  rw [(Zk_enc hw h).1 j hj]
  dsimp only
  rw [List.length_map]
theorem X416 {w j : Nat} {m : TS} {z : Hp} {x : Int32} (hw : w ≠ 0) (h : Zk z) (hj : j < 17) (h0 : ¬ x < 0) (hx : x.toNatClampNeg < (wd j).length) : Ex 416 [aR (some (0, 10 + j)), aI x] (enc w m z) = some (.inl (some (aI (Int32.ofNat ((wd j).getD x.toNatClampNeg 0)))), enc w m z) := by
  rw [p416]
  unfold sgG
  rw [(Zk_enc hw h).1 j hj]
  dsimp only
  rw [if_neg h0, List.getElem?_map, List.getD_eq_getElem?_getD, List.getElem?_eq_getElem hx]
  rfl
theorem nN_len {w : Nat} {m : TS} {z : Hp} (hw : w ≠ 0) (h : Zk z) : len (enc w m z) (some (0, 1)) = some 16 := by
  unfold len
  rw [(Zk_enc hw h).2]
  rfl
theorem nN_at {w : Nat} {m : TS} {z : Hp} (hw : w ≠ 0) (h : Zk z) : ∀ c, c < 16 → gaI (enc w m z) (some (0, 1)) 1000 (Int32.ofNat c) = some (Int32.ofNat (nN c)) := by
  intro c hc
  have g1 : (Int32.ofNat c).toNatClampNeg = c := o_ix (by omega)
  have g2 : ¬ Int32.ofNat c < 0 := o_lt0 (by omega)
  unfold gaI ga
  rw [(Zk_enc hw h).2]
  dsimp only
  rw [if_neg g2, g1]
  have : c = 0 ∨ c = 1 ∨ c = 2 ∨ c = 3 ∨ c = 4 ∨ c = 5 ∨ c = 6 ∨ c = 7 ∨ c = 8 ∨ c = 9 ∨ c = 10 ∨ c = 11 ∨ c = 12 ∨ c = 13 ∨ c = 14 ∨ c = 15 := by omega
  rcases this with e | e | e | e | e | e | e | e | e | e | e | e | e | e | e | e <;> subst e <;> rfl
