/-! ===== exceptions that reach a method's walk: caught by its table, or on to its caller ===== -/
def ctE (ct : Nat) : Nat := match ct with | 87 => 30 | 90 => 31 | _ => 32
def hmap (t : Nat × Nat × Nat × Nat) : Nat × Nat × Nat × Nat := (t.1, t.2.1, t.2.2.1, ctE t.2.2.2)
set_option maxRecDepth 100000 in
theorem hdl_rh : rlL.all (fun k => decide (hdlT k = (rhT k).map hmap) && (rhT k).all (fun t => decide (t.2.2.2 = 87 ∨ t.2.2.2 = 90 ∨ t.2.2.2 = 84)) && decide (rhT k = [] ∨ ownC k = 21)) = true := by decide +kernel
set_option maxRecDepth 100000 in
theorem cl13 : Cond.classLink RL 87 (excN 30) ∈ lw_tbl := in_of (gs := [532]) (ws := [Cond.classLink RL 87 (excN 30)]) rfl _ (by simp)
set_option maxRecDepth 100000 in
theorem cl15 : Cond.classLink RL 90 (excN 31) ∈ lw_tbl := in_of (gs := [533]) (ws := [Cond.classLink RL 90 (excN 31)]) rfl _ (by simp)
set_option maxRecDepth 100000 in
theorem cl33 : Cond.classLink RL 84 (excN 32) ∈ lw_tbl := in_of (gs := [531]) (ws := [Cond.classLink RL 84 (excN 32)]) rfl _ (by simp)
set_option maxRecDepth 100000 in
theorem cs30 : Cond.castable (excN 30) (excN 30) ∈ lw_tbl := in_of (gs := [490]) (ws := [Cond.castable (excN 30) (excN 30)]) rfl _ (by simp)
set_option maxRecDepth 100000 in
theorem cs31 : Cond.castable (excN 31) (excN 31) ∈ lw_tbl := in_of (gs := [505]) (ws := [Cond.castable (excN 31) (excN 31)]) rfl _ (by simp)
set_option maxRecDepth 100000 in
theorem cs32 : Cond.castable (excN 32) (excN 32) ∈ lw_tbl := in_of (gs := [427]) (ws := [Cond.castable (excN 32) (excN 32)]) rfl _ (by simp)
theorem ct_word {ct : Nat} (h : ct = 87 ∨ ct = 90 ∨ ct = 84) : Cond.classLink RL ct (excN (ctE ct)) ∈ lw_tbl ∧ ct ≠ 0 ∧ 30 ≤ ctE ct ∧ ctE ct < 33 := by
  rcases h with rfl | rfl | rfl
  · exact ⟨cl13, by decide, by decide, by decide⟩
  · exact ⟨cl15, by decide, by decide, by decide⟩
  · exact ⟨cl33, by decide, by decide, by decide⟩
theorem cast_word {e9 : Nat} (h1 : 30 ≤ e9) (h2 : e9 < 33) : Cond.castable (excN e9) (excN e9) ∈ lw_tbl := by
  have : e9 = 30 ∨ e9 = 31 ∨ e9 = 32 := by omega
  rcases this with rfl | rfl | rfl
  · exact cs30
  · exact cs31
  · exact cs32
theorem exc_pair {e9 e8 : Nat} (h1 : 30 ≤ e9) (h2 : e9 < 33) (h3 : 30 ≤ e8) (h4 : e8 < 33) (h : e9 ≠ e8) : (excN e9, excN e8) ∈ excP := by
  have k1 : e9 = 30 ∨ e9 = 31 ∨ e9 = 32 := by omega
  have k2 : e8 = 30 ∨ e8 = 31 ∨ e8 = 32 := by omega
  clear h1 h2 h3 h4
  rcases k1 with rfl | rfl | rfl <;> rcases k2 with rfl | rfl | rfl <;> first | exact absurd rfl h | (unfold excP; simp)
section HDL
variable {G : Geo} {p : Program} {l : Launch} {e e0 : Env} {R : Room} {s : State} {m : MethodId} {args : Array Value} {below : List Frame} {meth : Method} {c : Code} {Q : State → Prop} {k : Nat} {φ0 : Nat × Nat → Nat} {h0 : Hp} {res : Out × Hp} {K : KT} {C : CT} {X : XT}
variable {φ ψ : Nat × Nat → Nat} {L : LV} {st : List AV} {h : Hp} {H : Heap} {locs : List Loc} {cells slots : Nat} {ls : Array Slot} {pc a b : Nat} {ts : List Nat}
theorem IV.exc (I : IV G s k φ0 h0 φ ψ L st h H locs cells slots ls) {e9 : Nat} (he : isX e9) (q : Nat) : IV G s k φ0 h0 (up2 φ (300, (h.1 300).length) q) ψ L [aR (some (300, (h.1 300).length))] (hX h e9) H locs cells slots ls := by
  obtain ⟨i1, i2, i3, i4, i5, i6, i7, i8, i9⟩ := I
  have hφ : ∀ x : Nat × Nat, x.2 < (h.1 x.1).length → up2 φ (300, (h.1 300).length) q x = φ x := by
    intro x hx
    unfold up2
    rw [if_neg]
    intro z
    subst z
    exact Nat.lt_irrefl _ hx
  have hl : ∀ z, ((hX h e9).1 z).length = (h.1 z).length + (if z = 300 then 1 else 0) := fun z => hN_len h 300 (e9, []) 0 z
  have hl1 : ∀ z, (h.1 z).length ≤ ((hX h e9).1 z).length := fun z => by rw [hl]; omega
  refine ⟨by rw [mapL_congr hφ i2]; exact i1, fun x hx => clV_len hl1 (i2 x hx), fun v hv => ?_, i4.exc he q, fun x hx => (hφ x (Nat.lt_of_lt_of_le hx (i6 x.1))).trans (i5 x hx), fun z => Nat.le_trans (i6 z) (hl1 z), i7, i8, i9⟩
  rw [List.mem_singleton.mp hv]
  show (h.1 300).length < ((hX h e9).1 300).length
  rw [hl, if_pos rfl]
  exact Nat.lt_succ_self _
theorem xc_ok (hX' : Ctx G p s m meth c k) (hK : KOK G p l e0 R s m args below meth c Q k φ0 h0 res K) (hQ : Q = QM G φ0 h0 res below args s ∨ ∃ v, res.1 = .inl v)
    {e9 : Nat} {q : Addr} {ce : Cell} {rest : List Value} (g1 : 30 ≤ e9) (g2 : e9 < 33) (I : IV G s k φ0 h0 φ ψ L [] h H locs cells slots ls) (hcell : H[q]? = some ce) (hv : ce.vm = .none) (hcl : s.vm.findClass (excN e9) = some ce.cls) (rs : List (Nat × Nat × Nat × Nat)) :
    ∀ pre : List ExceptionTableEntry, c.exceptionTable.toList = pre ++ tableOf rs → (∀ z ∈ pre, covers z pc = false ∨ (z.catchType ≠ 0 ∧ ∃ nm : String, (Cond.classLink (ownS (ownC k)) z.catchType nm).before args s = true ∧ va_Nc (excN e9) nm s)) → (∀ t ∈ rs, t.2.2.2 = 87 ∨ t.2.2.2 = 90 ∨ t.2.2.2 = 84) → (rs = [] ∨ ownC k = 21) → xc (rs.map hmap) K pc L e9 h = some res →
      vx_W p l e0 R s m args below meth c H locs cells slots Q (F0 m pc ls rest) q := by
  induction rs with
  | nil =>
    intro pre hs hp _ _ hr
    have hr : some (Sum.inr e9, h) = some res := hr
    cases hr
    rcases hQ with rfl | ⟨v, hv9⟩
    · refine vx_outP hX'.2.2.2.1 hX'.2.2.2.2.2.1 (fun z hz => ?_) hcell hv hcl (fun t hT hW => ⟨e9, φ, ψ, rfl, rfl, g1, g2, I.aft hT hW⟩) I.2.2.2.2.2.2.1.2.2 (by rw [I.cnt.1]; exact Nat.le_refl _) (by rw [I.cnt.2]; exact Nat.le_refl _)
      rw [hs] at hz
      exact hp z (by simpa [tableOf] using hz)
    · cases hv9
  | cons t rs ih =>
    intro pre hs hp hct hown hr
    have hown : ownC k = 21 := hown.resolve_left (by simp)
    have hct1 := hct t List.mem_cons_self
    obtain ⟨w1, w2, w3, w4⟩ := ct_word hct1
    have hlk : (Cond.classLink (ownS (ownC k)) t.2.2.2 (excN (ctE t.2.2.2))).before args s = true := by
      rw [hown]
      exact hX'.w w1 rfl
    have hs2 : c.exceptionTable.toList = (pre ++ [⟨t.1, t.2.1, t.2.2.1, t.2.2.2⟩]) ++ tableOf rs := by
      rw [hs, List.append_assoc]
      rfl
    have hr : (match Nat.ble t.1 pc with
      | true => (match Nat.ble t.2.1 pc with
        | true => xc (rs.map hmap) K pc L
        | false => fun e h => xif e (ctE t.2.2.2) (K t.2.2.1 L [aR (some (300, (h.1 300).length))] (hX h e)) (xc (rs.map hmap) K pc L e h))
      | false => xc (rs.map hmap) K pc L) e9 h = some res := hr
    have go : ∀ _ : covers ⟨t.1, t.2.1, t.2.2.1, t.2.2.2⟩ pc = false ∨ e9 ≠ ctE t.2.2.2, xc (rs.map hmap) K pc L e9 h = some res → vx_W p l e0 R s m args below meth c H locs cells slots Q (F0 m pc ls rest) q := fun hno hr => by
      refine ih _ hs2 (fun z hz => ?_) (fun t ht => hct t (List.mem_cons_of_mem _ ht)) (Or.inr hown) hr
      rcases List.mem_append.mp hz with z1 | z1
      · exact hp z z1
      · rw [List.mem_singleton.mp z1]
        rcases hno with hno | hno
        · exact Or.inl hno
        · exact Or.inr ⟨w2, _, hlk, hX'.sta.1.2.2.2.2.2.2.2.2.1 _ (exc_pair g1 g2 w3 w4 hno)⟩
    cases b1 : Nat.ble t.1 pc with
    | false =>
      rw [b1] at hr
      refine go (Or.inl ?_) hr
      have : ¬ t.1 ≤ pc := fun z => by rw [Nat.ble_eq_true_of_le z] at b1; cases b1
      simp [covers, this]
    | true =>
      rw [b1] at hr
      cases b2 : Nat.ble t.2.1 pc with
      | true =>
        rw [b2] at hr
        refine go (Or.inl ?_) hr
        have : ¬ pc < t.2.1 := fun z => absurd (Nat.le_of_ble_eq_true b2) (by omega)
        simp [covers, this]
      | false =>
        rw [b2] at hr
        have hr : xif e9 (ctE t.2.2.2) (K t.2.2.1 L [aR (some (300, (h.1 300).length))] (hX h e9)) (xc (rs.map hmap) K pc L e9 h) = some res := hr
        unfold xif at hr
        cases b3 : Nat.beq e9 (ctE t.2.2.2) with
        | false =>
          rw [b3] at hr
          exact go (Or.inr fun z => by rw [beq_tt z] at b3; cases b3) hr
        | true =>
          rw [b3] at hr
          have he := Nat.eq_of_beq_eq_true b3
          have h1 := Nat.le_of_ble_eq_true b1
          have h2 : pc < t.2.1 := Nat.lt_of_not_le fun z => by rw [Nat.ble_eq_true_of_le z] at b2; cases b2
          have I' := I.exc (e9 := e9) (by unfold isX; omega) q
          have kk := hK _ _ _ _ _ _ _ _ _ _ _ hr I'
          have e2 : ([aR (some (300, (h.1 300).length))] : List AV).map (vv (up2 φ (300, (h.1 300).length) q)) = [.ref q] := by
            show [Value.ref (up2 φ (300, (h.1 300).length) q (300, (h.1 300).length))] = _
            unfold up2
            rw [if_pos rfl]
          rw [e2] at kk
          exact vx_catch (E := excN e9) hX'.2.2.2.1 pre ⟨t.1, t.2.1, t.2.2.1, t.2.2.2⟩ (tableOf rs) hs hp (by simp [covers, h1, h2]) w2 (by rw [he]; exact hlk) (hX'.w (cast_word g1 g2) rfl) hcell hv hcl kk
end HDL
