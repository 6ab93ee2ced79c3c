/-! ===== calls with a receiver ===== -/
theorem ownS_cAt : ∀ c, c < 21 → ownS c = (cAt c).1 := fun c h => of_decide_eq_true (List.all_eq_true.mp (show (List.range 21).all (fun c => decide (ownS c = (cAt c).1)) = true by decide +kernel) c (List.mem_range.mpr h))
theorem ownP : calA.all (fun a => Nat.blt a 400 || (decide (a < 410) && decide (ownC a = 24) || decide (410 ≤ a ∧ a < 415) && decide (ownC a = 25) || decide (415 ≤ a) && decide (ownC a = 26))) = true := by decide +kernel
theorem prim420 (as : List AV) (h : Hp) : prim 420 as h = (match as with
  | [.inr (.inr (.inr (.inr (some q))))] => match hG h (some q) with | some _ => some (.inl none, h) | none => none
  | _ => none) := rfl
theorem prim499 (as : List AV) (h : Hp) : prim 499 as h = none := rfl
section CALL3
variable {G : Geo} {p : Program} {l : Launch} {e e0 : Env} {R : Room} {s : State} {m : MethodId} {args : Array Value} {below : List Frame} {meth : Method} {c : Code} {Q : State → Prop} {k : Nat} {φ0 : Nat × Nat → Nat} {h0 : Hp} {res : Out × Hp} {K : KT} {C : CT} {X : XT}
variable {φ ψ : Nat × Nat → Nat} {L : LV} {st : List AV} {h : Hp} {H : Heap} {locs : List Loc} {cells slots : Nat} {ls : Array Slot} {pc a b : Nat} {ts : List Nat}
theorem obj_cls (hX : Ctx G p s m meth c k) {j o : Nat} {n : Nat} {T : Nat → Nat} {vals : Nat → Value} {H : Heap} (hj : j < 24) (q : ∃ cell : Cell, H[o]? = some cell ∧ cell.cls = G.1.1 j ∧ cell.vm = .none) : ∃ cell : Cell, H[o]? = some cell ∧ cell.vm.isStatics = false ∧ s.vm.findClass (cAt j).1 = some cell.cls := by
  obtain ⟨cell, q1, q2, q3⟩ := q
  exact ⟨cell, q1, by rw [q3]; rfl, by rw [q2]; exact (hX.kn.1 j _ (kcl_at hj)).2.1⟩
theorem rc_cls (hX : Ctx G p s m meth c k) (R1 : Hrel G s φ ψ h H) (ha : a ∈ calA) {o : Nat × Nat} {x : OC} (e1 : hG h (some o) = some x) (hk : knd a x.1) : ∃ cell : Cell, H[φ o]? = some cell ∧ cell.vm.isStatics = false ∧ s.vm.findClass (ownS (ownC a)) = some cell.cls := by
  have hP := List.all_eq_true.mp ownP a ha
  have hrep := R1.1 o x e1
  unfold knd at hk
  unfold cellRep at hrep
  split at hk
  · rename_i h4
    rw [if_pos (by omega)] at hrep
    obtain ⟨-, cell, q1, q2, q3, -⟩ := hrep
    rw [ownS_cAt _ (by omega), ← hk.1]
    exact obj_cls (n := 0) (T := fun _ => 0) (vals := fun _ => .null) hX (by omega) ⟨cell, q1, q2, q3⟩
  · rename_i h4
    rw [show Nat.blt a 400 = false by
      cases z : Nat.blt a 400
      · rfl
      · exact absurd (Nat.le_of_ble_eq_true z) (by omega), Bool.false_or] at hP
    simp only [Bool.or_eq_true, Bool.and_eq_true, decide_eq_true_eq] at hP
    split at hk
    · have : ownC a = 24 := by omega
      rw [this, show ownS 24 = (cAt 21).1 from rfl]
      rcases hk with z | z
      · rw [if_pos (by omega), z] at hrep
        obtain ⟨-, cell, q1, q2, q3, -⟩ := hrep
        exact obj_cls (n := 0) (T := fun _ => 0) (vals := fun _ => .null) hX (by omega) ⟨cell, q1, q2, q3⟩
      · rw [if_neg (by omega), if_neg (by omega), if_neg (by omega), if_neg (by omega), if_pos (by omega)] at hrep
        obtain ⟨mc, -, -, ⟨cell, q1, q2, q3, -⟩, -⟩ := hrep
        exact obj_cls (n := 0) (T := fun _ => 0) (vals := fun _ => .null) hX (by omega) ⟨cell, q1, q2, q3⟩
    · split at hk
      · have : ownC a = 25 := by omega
        rw [this, show ownS 25 = (cAt 22).1 from rfl]
        rcases hk with z | z
        · rw [if_pos (by omega), z] at hrep
          obtain ⟨-, cell, q1, q2, q3, -⟩ := hrep
          exact obj_cls (n := 0) (T := fun _ => 0) (vals := fun _ => .null) hX (by omega) ⟨cell, q1, q2, q3⟩
        · rw [if_neg (by omega), if_neg (by omega), if_neg (by omega), if_neg (by omega), if_neg (by omega)] at hrep
          obtain ⟨mc, -, -, ⟨cell, q1, q2, q3, -⟩, -⟩ := hrep
          exact obj_cls (n := 0) (T := fun _ => 0) (vals := fun _ => .null) hX (by omega) ⟨cell, q1, q2, q3⟩
      · have : ownC a = 26 := by omega
        rw [this, show ownS 26 = "java/lang/String" from rfl]
        rw [if_neg (by omega), if_neg (by omega), if_pos (by omega)] at hrep
        obtain ⟨-, e9, ⟨cell, q1, q2, q3, -⟩, -⟩ := hrep
        exact ⟨cell, q1, q2, q3⟩
theorem cls_at (hX : Ctx G p s m meth c k) {j : Nat} (hj : j < 24) : ClassAt s (cAt j).1 (G.1.1 j) := (hX.kn.1 j _ (kcl_at hj)).2
theorem sn_invokevirtual {idx : Nat} (hX : Ctx G p s m meth c k) (S : SUR l G p e0 R s m args below meth c Q k φ0 h0 res K C X pc L) (I : IV G s k φ0 h0 φ ψ L st h H locs cells slots ls) (hd : decode (bT k) pc = .ok (.invokevirtual idx, 3)) (hw : calOk k idx a b ts 0 = true) (hr : F K C X (.invokevirtual idx) (pc + 3) a b ts L st h = some res) : W p l e0 R s m args below meth c H locs cells slots Q (F0 m pc ls (st.map (vv φ))) := by
  have hi := inv_spec (idx := idx) hr
  obtain ⟨w1, w2, w3, w4, w5, w6, w7, w8, w9⟩ := calOk_spec hw
  obtain ⟨as, rest, r1, p1, p2, p3, p4, p5, p6, p7, p8, p9, p10, p11⟩ := call_pre hX S I hi w2 w5 w6 (fun z => by rw [z] at w4; exact absurd w4 (by decide))
  obtain ⟨q1, q2, q3⟩ := calF_at w6
  obtain ⟨o, as', x, rfl, r2, r3⟩ := S.2.2.2.2.1 a w6 as h r1 p6 (Or.inl w4)
  have hins : (Cond.instanceMethod (yT a)).before args s = true := by
    have := calA_in a w6
    unfold calWA at this
    rw [w4] at this
    exact hX.w this rfl
  have hsel : (Cond.selects (yT a).cls (yT a) (yT a)).before args s = true := hX.w (calC_in a (w8 rfl)) rfl
  have hini : (Cond.initialized (yT a).cls).before args s = true := by rw [w9]; exact hX.w (ini_in _ q1) rfl
  have hcode : (calWB a).before args s = true := hX.w (calB_in a w7) (calWB_ok a)
  have hlen : (as'.map (vv φ)).length = b - 1 := by rw [List.length_map]; rw [List.length_cons] at p1; omega
  have hpar : ∀ sig, parseMethodDescriptor (yT a).desc = some sig → b - 1 = sig.parameters.length := fun sig z => by
    rw [par_of a sig z, w3, w4]
    rfl
  rcases mth_word w1 (own_lt k) with hl | ⟨hn3, hn0, host, hl⟩
  · have hlk := hX.w (args := args) hl rfl
    rw [calWB_code (by rw [w4]; decide)] at hcode p9
    have hwd := word_of (a := a) hX w7
    rw [calWB_code (by rw [w4]; decide)] at hwd
    obtain ⟨cell, c1, c2, c3⟩ := rc_cls hX I.2.2.2.1 w6 r2 r3
    rw [← w9] at c3
    obtain ⟨pb, pp⟩ := pre_of hX I (aR (some o) :: as')
    rw [p2, List.map_cons, List.reverse_cons, List.append_assoc]
    exact run_use I p4 p7 (vx_runV (fix_of hX) p9 ⟨⟨rfl, rfl, p10.1, p10.2, hwd, List.mem_singleton.mpr rfl, hcode, hini, by rw [w9]; exact q2, hpar, hlk⟩, hins, hsel⟩ ⟨pb, ⟨cell, c1, c2, c3⟩, pp⟩ rfl hlen (by rw [I.1.1]) rfl (by exact (Nat.zero_add _).symm ▸ p5) hd p11) S.2.2.1 S.2.1 p8
  · exact absurd w4 hn0.1
theorem sn_invokespecial {idx : Nat} (hX : Ctx G p s m meth c k) (S : SUR l G p e0 R s m args below meth c Q k φ0 h0 res K C X pc L) (hCp : ∀ a, 419 < a → ∀ as h, C a as h = prim a as h) (I : IV G s k φ0 h0 φ ψ L st h H locs cells slots ls) (hd : decode (bT k) pc = .ok (.invokespecial idx, 3)) (hw : (Nat.beq a 499 || Nat.beq a 420 && Nat.beq b 1 && (Nat.ble 1 (rkT k) && Nat.ble 20 (lcT k)) && decide (ts = [9]) && mthOk (ownC k) idx a || calOk k idx a b ts 2) = true) (hr : F K C X (.invokespecial idx) (pc + 3) a b ts L st h = some res) : W p l e0 R s m args below meth c H locs cells slots Q (F0 m pc ls (st.map (vv φ))) := by
  have hi := inv_spec (idx := idx) hr
  simp only [Bool.or_eq_true, Bool.and_eq_true] at hw
  rcases hw with (hw | ⟨⟨⟨⟨ha, hb⟩, hr1, hr2⟩, ht⟩, hw⟩) | hw
  · have ha := Nat.eq_of_beq_eq_true hw
    subst ha
    obtain ⟨as, rest, r1, e1, e2, e3, -⟩ := hi
    rw [hCp _ (by decide), prim499] at e3
    cases e3
  · have ha := Nat.eq_of_beq_eq_true ha
    have hb := Nat.eq_of_beq_eq_true hb
    have hr1 := Nat.le_of_ble_eq_true hr1
    have hr2 := Nat.le_of_ble_eq_true hr2
    subst ha
    subst hb
    obtain ⟨as, rest, r1, e1, e2, e3, e4⟩ := hi
    obtain ⟨xs, f1, f2, f3⟩ := popA_spec _ _ _ _ _ e1
    rw [List.append_nil] at f3
    rw [hCp _ (by decide), prim420] at e3
    split at e3
    · rename_i o
      split at e3
      · cases e3
        have hst : st = aR (some o) :: rest := by
          rw [f2]
          have : xs = [aR (some o)] := by rw [← List.reverse_reverse xs, ← f3]; rfl
          rw [this]
          rfl
        rcases e4 with ⟨v, h1, g1, g2⟩ | ⟨e9, h1, g1, g2⟩
        · cases g1
          have hl : Cond.methodLink (ownS (ownC k)) idx (yT 420) ∈ lw_tbl := by
            rcases mth_word hw (own_lt k) with z | ⟨-, ⟨-, w, -⟩, host, z⟩
            · exact z
            · exact absurd rfl w
          have hs := I.2.2.1
          rw [hst] at hs ⊢
          have hobj1 : Cond.instanceMethod objectInit ∈ lw_tbl := in_of (gs := [93]) (ws := [Cond.instanceMethod objectInit]) rfl _ (by simp)
          have hobj2 : Cond.code objectInit ⟨#[0xb1]⟩ 1 none ∈ lw_tbl := in_of (gs := [94]) (ws := [Cond.code objectInit ⟨#[0xb1]⟩ 1 none]) rfl _ (by simp)
          have hRm := S.2.2.2.2.2.2.1
          refine W.objInit hX.1 hX.2.1 hX.2.2.2.1 (hX.w hl rfl) (hX.w hobj1 rfl) (hX.w hobj2 rfl) rfl (by rw [I.1.1]; exact hX.2.2.1.symm) rfl hd (by omega) ?_ (S.2.1 _ _ _ _ _ _ _ _ _ _ _ g2 (I.st (fun v hv => hs v (List.mem_cons_of_mem _ hv))))
          have : ((rest.map (vv φ)).map fun v => v.category).sum ≤ 8 := by rw [sum_cat]; exact e2
          show 2 * 0 + ((rest.map (vv φ)).map fun v => v.category).sum + 12 ≤ R.locals
          omega
        · cases g1
      · cases e3
    · cases e3
  · obtain ⟨w1, w2, w3, w4, w5, w6, w7, w8, w9⟩ := calOk_spec hw
    obtain ⟨as, rest, r1, p1, p2, p3, p4, p5, p6, p7, p8, p9, p10, p11⟩ := call_pre hX S I hi w2 w5 w6 (fun z => by rw [z] at w4; exact absurd w4 (by decide))
    obtain ⟨q1, q2, q3⟩ := calF_at w6
    obtain ⟨n1, n2⟩ := q3 w4
    obtain ⟨o, as', x, rfl, r2, r3⟩ := S.2.2.2.2.1 a w6 as h r1 p6 (Or.inr w4)
    have hins : (Cond.instanceMethod (yT a)).before args s = true := by
      have := calA_in a w6
      unfold calWA at this
      rw [w4] at this
      exact hX.w this rfl
    have hini : (Cond.initialized (yT a).cls).before args s = true := by rw [w9]; exact hX.w (ini_in _ q1) rfl
    have hcode : (calWB a).before args s = true := hX.w (calB_in a w7) (calWB_ok a)
    have hlen : (as'.map (vv φ)).length = b - 1 := by rw [List.length_map]; rw [List.length_cons] at p1; omega
    have hpar : ∀ sig, parseMethodDescriptor (yT a).desc = some sig → b - 1 = sig.parameters.length := fun sig z => by
      rw [par_of a sig z, w3, w4]
      rfl
    have hwd := word_of (a := a) hX w7
    rw [calWB_code (by rw [w4]; decide), n2] at hcode p9 hwd
    rw [p2, List.map_cons, List.reverse_cons, List.append_assoc]
    rcases mth_word w1 (own_lt k) with hl | ⟨hn3, hn0, host, hl⟩
    · have hlk := hX.w (args := args) hl rfl
      exact run_use I p4 p7 (vx_runI (fix_of hX) p9 ⟨⟨rfl, rfl, p10.1, p10.2, hwd, List.mem_singleton.mpr rfl, hcode, hini, by rw [w9]; exact q2, hpar, hlk⟩, n1, hins⟩ (pre_of hX I (aR (some o) :: as')) rfl hlen (by rw [I.1.1]) rfl (by exact (Nat.zero_add _).symm ▸ p5) hd p11) S.2.2.1 S.2.1 p8
    · have hlk := hX.w (args := args) hl rfl
      exact run_use I p4 p7 (vx_runIN (fix_of hX) p9 ⟨⟨⟨rfl, rfl, p10.1, p10.2, hwd, List.mem_singleton.mpr rfl⟩, hcode, hini, by rw [w9]; exact q2, hpar, hlk⟩, n1, hins⟩ (pre_of hX I (aR (some o) :: as')) rfl hlen (by rw [I.1.1]) rfl (by exact (Nat.zero_add _).symm ▸ p5) hd p11) S.2.2.1 S.2.1 p8
end CALL3
