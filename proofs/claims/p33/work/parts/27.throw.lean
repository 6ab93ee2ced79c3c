/-! ===== new exceptions, thrown at once ===== -/
def excM : List String := ["java/lang/RuntimeException", "java/lang/Exception"]
def excW (ik ic e9 : Nat) : List Cond := Cond.classLink RX11 ik (excN e9) :: Cond.initialized (excN e9) :: vx_at0 RX11 ic (excN e9) excM
theorem nth_in (is : List Nat) : ∀ w ∈ is.filterMap (fun i => lw_tbl[i]?), w ∈ lw_tbl := fun w hw => by
  obtain ⟨i, -, e⟩ := List.mem_filterMap.mp hw
  exact List.mem_of_getElem? e
set_option maxRecDepth 100000 in
theorem ew30 : excW 76 78 30 = [488, 70, 66, 447, 456, 460, 463, 465, 448, 449, 93, 94, 450, 455, 461, 477, 437, 478, 439, 479, 441, 451, 453, 443, 498, 499, 500, 470, 428, 470, 471, 472, 473, 430, 473, 474, 475, 448, 432, 497, 489, 490, 491, 458, 492, 493, 494, 495, 446, 445, 496].filterMap (fun i => lw_tbl[i]?) := rfl
set_option maxRecDepth 100000 in
theorem ew31 : excW 89 91 31 = [503, 71, 66, 447, 456, 460, 463, 465, 448, 449, 93, 94, 450, 455, 461, 477, 437, 478, 439, 479, 441, 451, 453, 443, 513, 514, 515, 470, 428, 470, 471, 472, 473, 430, 473, 474, 475, 448, 432, 512, 504, 505, 506, 459, 507, 508, 509, 510, 446, 445, 511].filterMap (fun i => lw_tbl[i]?) := rfl
set_option maxRecDepth 100000 in
theorem ew32 : excW 572 574 32 = [425, 69, 66, 447, 456, 460, 463, 465, 448, 449, 93, 94, 450, 455, 461, 477, 437, 478, 439, 479, 441, 451, 453, 443, 467, 468, 469, 470, 428, 470, 471, 472, 473, 430, 473, 474, 475, 448, 432, 466, 426, 427, 434, 435, 436, 438, 440, 442, 446, 445, 444].filterMap (fun i => lw_tbl[i]?) := rfl
def excI (e9 : Nat) : Nat × Nat := match e9 with | 30 => (76, 78) | 31 => (89, 91) | _ => (572, 574)
theorem exc_ws {e9 : Nat} (h : e9 = 30 ∨ e9 = 31 ∨ e9 = 32) : (∀ w ∈ excW (excI e9).1 (excI e9).2 e9, w ∈ lw_tbl) ∧ (excW (excI e9).1 (excI e9).2 e9).all (fun w => okW w && vx_ot w) = true ∧ Bundle.fit (excN e9) = true := by
  rcases h with rfl | rfl | rfl
  · exact ⟨fun w hw => nth_in _ w (ew30 ▸ hw), by decide +kernel, by decide +kernel⟩
  · exact ⟨fun w hw => nth_in _ w (ew31 ▸ hw), by decide +kernel, by decide +kernel⟩
  · exact ⟨fun w hw => nth_in _ w (ew32 ▸ hw), by decide +kernel, by decide +kernel⟩
theorem exc_at : excE.all (fun t => decide (decode (bT t.1) t.2.1 = .ok (.new (excI t.2.2).1, 3) ∧ decode (bT t.1) (t.2.1 + 3) = .ok (.dup, 1) ∧ decode (bT t.1) (t.2.1 + 4) = .ok (.invokespecial (excI t.2.2).2, 3) ∧ decode (bT t.1) (t.2.1 + 7) = .ok (.athrow, 1)) && decide (rhT t.1 = []) && Nat.beq (ownC t.1) 11 && decide (t.2.2 = 30 ∨ t.2.2 = 31 ∨ t.2.2 = 32)) = true := by decide +kernel
theorem Hrel.grow {G : Geo} {U : State} {φ ψ : Nat × Nat → Nat} {h : Hp} {H H1 : Heap} (R : Hrel G U φ ψ h H) (hz : H.size ≤ H1.size) (hk : ∀ q : Nat, q < H.size → H1[q]? = H[q]?) : Hrel G U φ ψ h H1 := by
  obtain ⟨r1, r2, r3, r4, r5, r6, r7, r8, r9⟩ := R
  exact ⟨fun q x e => cellRep_kept (r1 q x e) (r5 q x e) (fun _ _ => rfl) (fun hx => hk _ (r3 q x e hx).1) (fun hh => hk _ (r4 q x e hh).1) (fun q hq _ => hk q hq), r2, fun q x e hx => ⟨Nat.lt_of_lt_of_le (r3 q x e hx).1 hz, (r3 q x e hx).2⟩, fun q x e hh => ⟨Nat.lt_of_lt_of_le (r4 q x e hh).1 hz, (r4 q x e hh).2⟩, r5, r6, r7, Nat.le_trans r8 hz, r9⟩
section THR
variable {G : Geo} {p : Program} {l : Launch} {e e0 : Env} {R : Room} {s : State} {m : MethodId} {args : Array Value} {below : List Frame} {meth : Method} {c : Code} {Q : State → Prop} {k : Nat} {φ0 : Nat × Nat → Nat} {h0 : Hp} {res : Out × Hp} {K : KT} {C : CT} {X : XT}
variable {φ ψ : Nat × Nat → Nat} {L : LV} {st : List AV} {h : Hp} {H : Heap} {locs : List Loc} {cells slots : Nat} {ls : Array Slot} {pc a b : Nat} {ts : List Nat}
theorem sn_throw {idx : Nat} (hX' : Ctx G p s m meth c k) (hl : l.stackTraces = false) (hT : c.exceptionTable.toList = tableOf (rhT k)) (hB : BUD h0 R res) (hRm : rkT k ≤ R.frames ∧ lcT k ≤ R.locals) (hXT : X = xT) (I : IV G s k φ0 h0 φ ψ L st h H locs cells slots ls) (hd : decode (bT k) pc = .ok (.new idx, 3)) (hw : (k, pc, a) ∈ excE) (hts : ∃ l, ts = 9 :: l) (hr : F K C X (.new idx) (pc + 3) a b ts L st h = some res) : W p l e0 R s m args below meth c H locs cells slots (QM G φ0 h0 res below args s) (F0 m pc ls (st.map (vv φ))) := by
  have hA := List.all_eq_true.mp exc_at _ hw
  simp only [Bool.and_eq_true, decide_eq_true_eq] at hA
  obtain ⟨⟨⟨⟨d0, d3, d4, d7⟩, hrh⟩, hown⟩, ha⟩ := hA
  have hown := Nat.eq_of_beq_eq_true hown
  obtain ⟨w1, w2, w3⟩ := exc_ws ha
  have hok : ∀ w ∈ excW (excI a).1 (excI a).2 a, okW w = true ∧ vx_ot w = true := fun w hw => by
    have := List.all_eq_true.mp w2 w hw
    rw [Bool.and_eq_true] at this
    exact this
  have hbf : ∀ w ∈ excW (excI a).1 (excI a).2 a, w.before args s = true := fun w hw => hX'.w (w1 w hw) (hok w hw).1
  obtain ⟨l9, rfl⟩ := hts
  unfold F at hr
  dsimp only at hr
  split at hr
  · split at hr
    · rw [hXT] at hr
      have hr : some (Sum.inr a, hC h 1 6) = some res := hr
      cases hr
      have i8 := I.2.2.2.2.2.2.2.1
      have i9 := I.2.2.2.2.2.2.2.2
      obtain ⟨b1, b2, -⟩ := hB
      have b1 : h.2.1 + 1 ≤ h0.2.1 + R.cells := b1
      have b2 : h.2.2 + 6 ≤ h0.2.2 + R.slots := b2
      have ho : s.vm.findClass RX11 = some m.cls := by
        have := hX'.2.2.2.1
        rw [hown] at this
        exact this
      have hS := I.2.2.2.2.2.2.1
      have hq := List.all_eq_true.mp (show excE.all (fun e => Nat.ble 6 (rkT e.1) && Nat.ble 90 (lcT e.1)) = true by decide) _ hw
      rw [Bool.and_eq_true] at hq
      have hq1 : 6 ≤ rkT k := Nat.le_of_ble_eq_true hq.1
      have hq2 : 90 ≤ lcT k := Nat.le_of_ble_eq_true hq.2
      refine vx_throw0 (names := excM) (ik := (excI a).1) (ic := (excI a).2) (A := frz G) hX'.1 hX'.2.1 hl ho w3 (by decide +kernel) (hbf _ List.mem_cons_self) (hbf _ (List.mem_cons_of_mem _ List.mem_cons_self)) (fun w hw => hbf w (List.mem_cons_of_mem _ (List.mem_cons_of_mem _ hw))) (fun w hw => (hok w hw).2) hX'.sta.2.2.2.2.2.1 hX'.sta.2.2.2.2.2.2 hS (by rw [I.1.1]; exact hX'.2.2.1.symm) d0 d3 d4 d7 (by rw [hT, hrh]; exact fun x hx => nomatch hx) (by show 2 + 3 < R.frames; omega) (by show 0 + (13 * (2 + 1) + 42) ≤ R.locals; omega) (by omega) (by omega) hX'.2.2.2.2.2.1 (fun t hW hz hk => ⟨a, φ, ψ, rfl, rfl, by omega, by omega, I.2.2.2.2.1, I.2.2.2.2.2.1, (I.2.2.2.1.moved hW).grow hz hk, ⟨Nat.le_trans hS.1 hz, fun q h1 h2 => (hk q (Nat.lt_of_lt_of_le h1 hS.1)).trans (hS.2.1 q h1 h2)⟩⟩) hS.2.2 (by show cells + 1 ≤ h.2.1 + 1 - h0.2.1; omega) (by show slots + 6 ≤ h.2.2 + 6 - h0.2.2; omega)
    · cases hr
  · rename_i z
    exact absurd rfl (z _)
end THR
