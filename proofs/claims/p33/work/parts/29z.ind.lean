/-! ===== the induction on the number of steps ===== -/
section IND
variable {G : Geo} {p : Program} {l : Launch} {e e0 : Env} {R : Room} {s : State} {m : MethodId} {args : Array Value} {below : List Frame} {meth : Method} {c : Code} {Q : State → Prop} {k : Nat} {φ0 : Nat × Nat → Nat} {h0 : Hp} {res : Out × Hp} {K : KT} {C : CT} {X : XT}
variable {φ ψ : Nat × Nat → Nat} {L : LV} {st : List AV} {h : Hp} {H : Heap} {locs : List Loc} {cells slots : Nat} {ls : Array Slot} {pc a b : Nat} {ts : List Nat}
theorem kc_ok {cuts : List (Nat × List Nat)} {R0 K0 : KT} (h1 : KOK G p l e0 R s m args below meth c Q k φ0 h0 res R0) (h2 : KOK G p l e0 R s m args below meth c Q k φ0 h0 res K0) : KOK G p l e0 R s m args below meth c Q k φ0 h0 res (kc cuts R0 K0) := by
  intro pc L st h φ ψ H locs cells slots ls hr I
  unfold kc at hr
  split at hr
  · rename_i is _
    have hp := pick_has I.1 is
    exact h1 _ _ _ _ _ _ _ _ _ _ _ hr ⟨hp.1, fun q hq => I.2.1 q (hp.2 q hq), I.2.2⟩
  · exact h2 _ _ _ _ _ _ _ _ _ _ _ hr I
theorem hdl_spec {k : Nat} (hk : k ∈ rlL) : hdlT k = (rhT k).map hmap ∧ (∀ t ∈ rhT k, t.2.2.2 = 87 ∨ t.2.2.2 = 90 ∨ t.2.2.2 = 84) ∧ (rhT k = [] ∨ ownC k = 21) := by
  have := List.all_eq_true.mp hdl_rh k hk
  rw [Bool.and_eq_true, Bool.and_eq_true] at this
  exact ⟨of_decide_eq_true this.1.1, fun t ht => of_decide_eq_true (List.all_eq_true.mp this.1.2 t ht), of_decide_eq_true this.2⟩
theorem xok_of (hk : k ∈ rlL) (hX : Ctx G p s m meth c k) (hT : c.exceptionTable.toList = tableOf (rhT k)) (hK : KOK G p l e0 R s m args below meth c Q k φ0 h0 res K) (hQ : Q = QM G φ0 h0 res below args s ∨ ∃ v, res.1 = .inl v) (pc : Nat) (L : LV) : XOK G p l e0 R s m args below meth c Q k φ0 h0 res (xc (hdlT k) K pc L) pc L := by
  intro e9 h φ ψ H locs cells slots ls rest q ce hx g1 g2 I hcell hv hcl
  obtain ⟨d1, d2, d3⟩ := hdl_spec hk
  rw [d1] at hx
  exact xc_ok hX hK hQ g1 g2 I hcell hv hcl (rhT k) [] (by rw [hT]; rfl) (fun z hz => nomatch hz) d2 d3 hx
theorem call_at {n a : Nat} {as : List AV} {h : Hp} {r1 : Out × Hp} (hr : call (run n) a as h = some r1) : (400 ≤ a ∧ prim a as h = some r1) ∨ (a = 318 ∧ minP as h = some r1) ∨ (¬ 400 ≤ a ∧ a ≠ 318 ∧ rcv a as h = true ∧ run n a 0 (mkL 0 as) [] h = some r1) := by
  unfold call at hr
  cases b : Nat.ble 400 a with
  | true => rw [b] at hr; exact Or.inl ⟨Nat.le_of_ble_eq_true b, hr⟩
  | false =>
    rw [b] at hr
    dsimp only at hr
    cases b3 : Nat.beq a 318 with
    | true => rw [b3] at hr; exact Or.inr (Or.inl ⟨Nat.eq_of_beq_eq_true b3, hr⟩)
    | false =>
      rw [b3] at hr
      dsimp only at hr
      cases b2 : rcv a as h with
      | true => rw [b2] at hr; exact Or.inr (Or.inr ⟨(fun z => by rw [Nat.ble_eq_true_of_le z] at b; exact Bool.noConfusion b), (fun z => by rw [z] at b3; exact Bool.noConfusion b3), rfl, hr⟩)
      | false => rw [b2] at hr; cases hr
theorem cok_of {n : Nat} (hS : SOUND l G n) (hP : PRIMS l G) : COK l G (call (run n)) := by
  intro a ha h8 as h r1 hr
  rcases call_at hr with ⟨h4, h5⟩ | ⟨h4, h5⟩ | ⟨h4, -, h5, h6⟩
  · exact (hP a ha h4 as h r1 h5).2
  · exact absurd h4 h8
  · exact con_of hS ha h4 h8 h5 h6
theorem rcok_of {n : Nat} (hP : PRIMS l G) : RCOK (call (run n)) := by
  intro a ha as h r1 hr
  rcases call_at hr with ⟨h4, h5⟩ | ⟨h4, h5⟩ | ⟨h4, -, h5, h6⟩
  · exact (hP a ha h4 as h r1 h5).1
  · intro z
    rw [h4] at z
    exact absurd z (by decide)
  · exact rcv_ok ha h4 h5
theorem call_mon {n : Nat} (a : Nat) (as : List AV) (h : Hp) : mon h (call (run n) a as h) := fun r hr => by
  rcases call_at hr with ⟨h4, h5⟩ | ⟨h4, h5⟩ | ⟨h4, -, h5, h6⟩
  · exact prim_mon _ _ _ _ h5
  · exact minP_mon _ _ _ h5
  · exact run_mon n _ _ _ _ _ _ h6
theorem spc_of (hX : Ctx G p s m meth c k) (hl : l.stackTraces = false) (hT : c.exceptionTable.toList = tableOf (rhT k)) (hB : BUD h0 R res) (hRm : rkT k ≤ R.frames ∧ lcT k ≤ R.locals) (hMul : MULOK l G) (hK : KOK G p l e0 R s m args below meth c Q k φ0 h0 res K) (hM : KMON res K) (hXT : (hdlT k).length = 0 → X = xT)
    (hQ : Q = QM G φ0 h0 res below args s ∨ (k = 333 ∧ LAWR G p l e0 R s m args below meth c Q φ0 h0 res)) : SPC l G p e0 R s m args below meth c Q k φ0 h0 res K C X pc L := by
  intro ins a b ts st h φ ψ H locs cells slots ls hs hd hlk hr I
  rcases hs with hs | ⟨idx, l9, rfl, rfl⟩ | ⟨i, j, rfl⟩
  · rcases hQ with rfl | ⟨rfl, hL⟩
    · cases ins
      case ireturn => exact sn_ireturn hX I hd ((or_dec hlk).imp of_decide_eq_true of_decide_eq_true) hr
      case lreturn => exact sn_lreturn hX I hd (of_decide_eq_true hlk) hr
      case freturn => exact sn_freturn hX I hd (of_decide_eq_true hlk) hr
      case dreturn => exact sn_dreturn hX I hd (of_decide_eq_true hlk) hr
      case areturn => exact sn_areturn hX I hd hlk hr
      case return_ => exact sn_return hX I hd (of_decide_eq_true hlk) hr
      all_goals cases hs
    · cases ins
      case ireturn =>
        unfold F at hr
        dsimp only at hr
        split at hr
        · rename_i x
          have hres : res = (.inl (some (aI x)), h) := by
            split at hr
            · cases hr; rfl
            · unfold gz at hr
              split at hr
              · cases hr; rfl
              · cases hr
          exact hL.2 _ x h φ ψ H locs cells slots ls L hd hres I
        · cases hr
      case lreturn => exact absurd (of_decide_eq_true (show decide (rT 333 = some .long) = true from hlk)) (by decide)
      case freturn => exact absurd (of_decide_eq_true (show decide (rT 333 = some .float) = true from hlk)) (by decide)
      case dreturn => exact absurd (of_decide_eq_true (show decide (rT 333 = some .double) = true from hlk)) (by decide)
      case areturn => exact absurd (show Nat.beq (tgR (rT 333)) 4 = true from hlk) (by decide)
      case return_ => exact absurd (of_decide_eq_true (show decide (rT 333 = none) = true from hlk)) (by decide)
      all_goals cases hs
  · have z : (Nat.blt 0 b && Nat.blt b 300 && (Nat.blt 29 a && Nat.blt a 33 && Nat.beq (hdlT k).length 0 && (Nat.ble 6 (rkT k) && Nat.ble 90 (lcT k)) && decide ((k, pc, a) ∈ excE))) = true := hlk
    simp only [Bool.and_eq_true] at z
    obtain ⟨-, ⟨⟨-, z1⟩, -⟩, z2⟩ := z
    have z1 := Nat.eq_of_beq_eq_true z1
    have z2 := of_decide_eq_true z2
    rcases hQ with rfl | ⟨rfl, hL⟩
    · exact sn_throw hX hl hT hB hRm (hXT z1) I hd z2 ⟨l9, rfl⟩ hr
    · simp [excE] at z2
  · exact hMul p e0 R s m args below meth c Q k φ0 h0 res K C X pc i j a b ts L st h φ ψ H locs cells slots ls hX hK hM hB I hd (of_decide_eq_true hlk) hr
theorem sound_all (hl : l.stackTraces = false) (hRows : ROWS) (hP : PRIMS l G) (hMul : MULOK l G) : ∀ n, SOUND l G n := by
  intro n
  induction n with
  | zero => exact fun k hk p e0 R s m args below meth c Q φ0 h0 res E pc L st h φ ψ H locs cells slots ls hr I => nomatch (show (none : Res) = some res from hr)
  | succ n ih =>
    intro k hk p e0 R s m args below meth c Q φ0 h0 res E pc L st h φ ψ H locs cells slots ls hr I
    have hK0 := ih k hk p e0 R s m args below meth c Q φ0 h0 res E
    obtain ⟨hX, hT, hZ, hB, hRm, hQ⟩ := E
    have hr : stepK (run n) k pc L st h = some res := hr
    unfold stepK at hr
    cases hra : rowAt pc (codeT k) with
    | none => rw [hra] at hr; cases hr
    | some r =>
      rw [hra] at hr
      obtain ⟨pc', ins, np, a, b, ts⟩ := r
      obtain ⟨hmem, hpc⟩ := rowAt_mem hra
      have hpc : pc' = pc := hpc
      subst hpc
      dsimp only at hr
      have hrow := List.all_eq_true.mp (hRows k hk) _ hmem
      unfold rowOk at hrow
      rw [Bool.and_eq_true, Bool.and_eq_true, Bool.and_eq_true] at hrow
      obtain ⟨⟨⟨w1, w2⟩, w3⟩, w4⟩ := hrow
      have w1 := of_decide_eq_true w1
      dsimp only at w1 w3 w4
      have hK : KOK G p l e0 R s m args below meth c Q k φ0 h0 res (kc (cutT k) (run n k) (run n k)) := kc_ok hK0 hK0
      have hKm := kc_mon (cuts := cutT k) (run_mon n k) (run_mon n k)
      have hQ2 : Q = QM G φ0 h0 res below args s ∨ ∃ v, res.1 = .inl v := hQ.imp id (fun z => z.2.1)
      by_cases ht : ∃ d lo hi o, ins = .tableswitch d lo hi o
      · obtain ⟨d, lo, hi, o, rfl⟩ := ht
        have z : (decide ((pc' : Int) + d = a) && decide (hi = lo + ts.length - 1) && decide (o.toList.map (fun x => (pc' : Int) + x) = ts.map (fun (x : Nat) => (x : Int))) && Nat.blt 0 ts.length) = true := w4
        rw [Bool.and_eq_true, Bool.and_eq_true, Bool.and_eq_true] at z
        exact sn_tableswitch hX hK I w1 (of_decide_eq_true z.1.1.1) (of_decide_eq_true z.1.1.2) (of_decide_eq_true z.1.2) hr
      · have hne : ∀ d lo hi o, ins ≠ .tableswitch d lo hi o := fun d lo hi o z => ht ⟨d, lo, hi, o, z⟩
        have hnp : np = pc' + ilen ins := by
          split at w3
          · exact absurd rfl (hne _ _ _ _)
          · exact Nat.eq_of_beq_eq_true w3
        subst hnp
        rw [Nat.add_sub_cancel_left] at w1
        exact F_sound hX ⟨hZ, hK, xok_of hk hX hT hK hQ2 pc' L, cok_of ih hP, rcok_of hP, hB, hRm, hKm, fun a as h => call_mon a as h, xc_mon hKm pc' L, fun as h => rfl⟩ (fun a ha as h => by unfold call; rw [Nat.ble_eq_true_of_le (show 400 ≤ a by omega)])
          (spc_of hX hl hT hB hRm hMul hK (fun pc L st h z => hKm pc L st h res z) (fun z => by rw [List.length_eq_zero_iff.mp z]; rfl) hQ) I ins hne w1 w4 hr
end IND
