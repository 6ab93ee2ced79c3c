section CALL2
variable {G : Geo} {p : Program} {l : Launch} {e e0 : Env} {R : Room} {s : State} {m : MethodId} {args : Array Value} {below : List Frame} {meth : Method} {c : Code} {Q : State → Prop} {k : Nat} {φ0 : Nat × Nat → Nat} {h0 : Hp} {res : Out × Hp} {K : KT} {C : CT} {X : XT}
variable {φ ψ : Nat × Nat → Nat} {L : LV} {st : List AV} {h : Hp} {H : Heap} {locs : List Loc} {cells slots : Nat} {ls : Array Slot} {pc a b : Nat} {ts : List Nat}
/-- what a walk's step knows of its surroundings -/
def SUR (l : Launch) (G : Geo) (p : Program) (e0 : Env) (R : Room) (s : State) (m : MethodId) (args : Array Value) (below : List Frame) (meth : Method) (c : Code) (Q : State → Prop) (k : Nat) (φ0 : Nat × Nat → Nat) (h0 : Hp) (res : Out × Hp) (K : KT) (C : CT) (X : XT) (pc : Nat) (L : LV) : Prop :=
  30 ≤ (h0.1 0).length ∧ KOK G p l e0 R s m args below meth c Q k φ0 h0 res K ∧ XOK G p l e0 R s m args below meth c Q k φ0 h0 res X pc L ∧ COK l G C ∧ RCOK C ∧ BUD h0 R res ∧ (rkT k ≤ R.frames ∧ lcT k ≤ R.locals) ∧ (∀ pc L st h, mon h (K pc L st h)) ∧ (∀ a as h, mon h (C a as h)) ∧ (∀ e9 h, mon h (X e9 h)) ∧ ∀ as h, C 318 as h = minP as h
theorem sum_cat (φ : Nat × Nat → Nat) (st : List AV) : ((st.map (vv φ)).map fun v => v.category).sum = stS st := by
  induction st with
  | nil => rfl
  | cons v st ih =>
    rw [List.map_cons, List.map_cons, List.sum_cons, ih, vv_cat]
    rfl
theorem res_mon {np : Nat} {rest : List AV} {r1 : Out × Hp} (hKm : ∀ pc L st h, mon h (K pc L st h)) (hXm : ∀ e9 h, mon h (X e9 h)) (hres : (∃ v h1, r1 = (.inl v, h1) ∧ K np L (v.toList ++ rest) h1 = some res) ∨ ∃ e h1, r1 = (.inr e, h1) ∧ X e h1 = some res) : r1.2.2.1 ≤ res.2.2.1 ∧ r1.2.2.2 ≤ res.2.2.2 := by
  rcases hres with ⟨v, h1, rfl, z⟩ | ⟨e, h1, rfl, z⟩
  · exact hKm _ _ _ _ _ z
  · exact hXm _ _ _ z
/-- all that the rows of a call ask, out of the walk's step -/
theorem call_pre (hX : Ctx G p s m meth c k) (S : SUR l G p e0 R s m args below meth c Q k φ0 h0 res K C X pc L) (I : IV G s k φ0 h0 φ ψ L st h H locs cells slots ls) {np : Nat} (hi : INV K C X np a b L st h res) (hrk : rkT a < rkT k) (hml : lcT a + mlT a + 19 ≤ lcT k) (ha : a ∈ calA) (h8 : a ≠ 318) :
    ∃ (as rest : List AV) (r1 : Out × Hp), as.length = b ∧ st.map (vv φ) = (as.map (vv φ)).reverse ++ rest.map (vv φ) ∧ (∀ v ∈ as, clV h v) ∧ (∀ v ∈ rest, clV h v) ∧ ((rest.map (vv φ)).map fun v => v.category).sum ≤ 8 ∧ C a as h = some r1 ∧ (h.2.1 ≤ r1.2.2.1 ∧ h.2.2 ≤ r1.2.2.2) ∧
      ((∃ v h1, r1 = (.inl v, h1) ∧ K np L (v.toList ++ rest) h1 = some res) ∨ ∃ e h1, r1 = (.inr e, h1) ∧ X e h1 = some res) ∧
      vx_Met l (yT a) [calWB a] (rmM a h r1) (cP G φ ψ h as) (cQ G φ h r1) (cX G φ h r1) (r1.2.2.1 - h.2.1) (r1.2.2.2 - h.2.2) (frz G) ∧ ((rmM a h r1).frames + 1 ≤ R.frames ∧ 8 + (mlT a + 11) + (rmM a h r1).locals ≤ R.locals) ∧ (cells + (r1.2.2.1 - h.2.1) ≤ R.cells ∧ slots + (r1.2.2.2 - h.2.2) ≤ R.slots) := by
  obtain ⟨hZ, hK, hXo, hC, hR, hB, hRm, hKm, hCm, hXm, -⟩ := S
  obtain ⟨as, rest, r1, e1, e2, e3, e4⟩ := hi
  obtain ⟨xs, f1, f2, f3⟩ := popA_spec _ _ _ _ _ e1
  rw [List.append_nil] at f3
  have hs := I.2.2.1
  have hcl : (∀ v ∈ as, clV h v) ∧ ∀ v ∈ rest, clV h v := by
    rw [f3]
    exact ⟨fun v hv => hs v (by rw [f2]; exact List.mem_append_left _ (List.mem_reverse.mp hv)), fun v hv => hs v (by rw [f2]; exact List.mem_append_right _ hv)⟩
  have hm := hCm _ _ _ _ e3
  obtain ⟨g1, g2, g3⟩ := room_of (a := a) I hB hRm hm (res_mon hKm hXm e4) hrk hml
  refine ⟨as, rest, r1, by rw [f3, List.length_reverse, f1], by rw [f2, f3, List.map_append, List.map_reverse, List.reverse_reverse], hcl.1, hcl.2, by rw [sum_cat]; exact e2, e3, hm, e4, hC a ha h8 as h r1 e3 hcl.1 (Nat.le_trans hZ (I.2.2.2.2.2.1 0)) g3 φ ψ, g1, g2⟩
theorem fix_of (hX : Ctx G p s m meth c k) : CallFix p m c (bT k) (mlT k) s args [] (ownS (ownC k)) := ⟨hX.1, hX.2.1, hX.2.2.1, hX.2.2.2.1, fun w hw => nomatch hw⟩
theorem calF_at (ha : a ∈ calA) : ownC a < 27 ∧ (ownS (ownC a) ≠ "java/lang/invoke/MethodHandle" ∧ ownS (ownC a) ≠ "java/lang/invoke/VarHandle") ∧ (kdT a = 2 → (yT a).name = "<init>" ∧ rT a = none) := by
  have := List.all_eq_true.mp calF a ha
  simp only [Bool.and_eq_true] at this
  obtain ⟨⟨⟨h1, h2⟩, h3⟩, h4⟩ := this
  exact ⟨Nat.le_of_ble_eq_true h1, of_decide_eq_true h2, of_decide_eq_true h4⟩
theorem calWB_code (h : kdT a ≠ 3) : calWB a = .code (yT a) (bT a) (mlT a) (rT a) := by
  unfold calWB
  split
  · rename_i z; exact absurd z h
  · rfl
theorem sn_invokestatic {idx : Nat} (hX : Ctx G p s m meth c k) (S : SUR l G p e0 R s m args below meth c Q k φ0 h0 res K C X pc L) (I : IV G s k φ0 h0 φ ψ L st h H locs cells slots ls) (hd : decode (bT k) pc = .ok (.invokestatic idx, 3)) (hw : calOk k idx a b ts 1 = true ∨ calOk k idx a b ts 3 = true) (hr : F K C X (.invokestatic idx) (pc + 3) a b ts L st h = some res) : W p l e0 R s m args below meth c H locs cells slots Q (F0 m pc ls (st.map (vv φ))) := by
  have hi := inv_spec hr
  obtain ⟨kd, hkd, hw⟩ : ∃ kd, (kd = 1 ∨ kd = 3) ∧ calOk k idx a b ts kd = true := by
    rcases hw with z | z
    · exact ⟨1, Or.inl rfl, z⟩
    · exact ⟨3, Or.inr rfl, z⟩
  obtain ⟨w1, w2, w3, w4, w5, w6, w7, w8, w9⟩ := calOk_spec hw
  obtain ⟨q1, q2, q3⟩ := calF_at w6
  by_cases h8 : a = 318
  · subst h8
    obtain ⟨as, rest, r1, e1, e2, e3, e4⟩ := hi
    obtain ⟨xs, f1, f2, f3⟩ := popA_spec _ _ _ _ _ e1
    rw [List.append_nil] at f3
    rw [S.2.2.2.2.2.2.2.2.2.2 as h] at e3
    unfold minP at e3
    split at e3
    · rename_i x y
      cases e3
      rcases e4 with ⟨v, h1, g1, g2⟩ | ⟨e9, h1, g1, g2⟩
      · cases g1
        have hst : st = aL y :: aL x :: rest := by
          have hx : xs = [aL y, aL x] := by rw [← List.reverse_reverse xs, ← f3]; rfl
          rw [f2, hx]
          rfl
        have hl : Cond.methodLink (ownS (ownC k)) idx (yT 318) ∈ lw_tbl := by
          rcases mth_word w1 (own_lt k) with z | ⟨-, ⟨-, -, w⟩, host, z⟩
          · exact z
          · exact absurd rfl w
        have hs := I.2.2.1
        rw [hst] at hs ⊢
        have hRm := S.2.2.2.2.2.2.1
        obtain ⟨hB1, hB2, -⟩ := S.2.2.2.2.2.1
        have hg := S.2.2.2.2.2.2.2.1 _ _ _ _ _ g2
        have i8 := I.2.2.2.2.2.2.2.1
        have i9 := I.2.2.2.2.2.2.2.2
        have hsum : ((rest.map (vv φ)).map fun v => v.category).sum ≤ 8 := by rw [sum_cat]; exact e2
        have hk2 := S.2.1 _ _ _ _ _ _ _ _ _ _ _ g2 (I.st (fun v hv => by
          rcases List.mem_append.mp hv with z | z
          · rw [List.mem_singleton.mp z]; trivial
          · exact hs v (List.mem_cons_of_mem _ (List.mem_cons_of_mem _ z))))
        have q3 : lcT 318 + mlT 318 = 4 := by decide
        exact va_mmin_long hX.1 hX.2.1 (by rw [I.1.1]; exact hX.2.2.1) hX.2.2.2.1 (hX.w (show Cond.methodLink (ownS (ownC k)) idx Lib.MathLoose.min_long.x ∈ lw_tbl from hl) rfl) (hX.w (show Cond.static Lib.MathLoose.min_long.x ∈ lw_tbl from calA_in 318 w6) rfl) (hX.w (show Cond.initialized "java/lang/Math" ∈ lw_tbl from ini_in 23 (by decide)) rfl) (hX.w (show Cond.code Lib.MathLoose.min_long.x Lib.MathLoose.min_long.code 4 (some .long) ∈ lw_tbl from calB_in 318 w7) rfl) (by omega) (by omega) (by omega) (by omega) hd hk2
      · cases g1
    · cases e3
  obtain ⟨as, rest, r1, p1, p2, p3, p4, p5, p6, p7, p8, p9, p10, p11⟩ := call_pre hX S I hi w2 w5 w6 h8
  have hst : (Cond.static (yT a)).before args s = true := by
    have := calA_in a w6
    unfold calWA at this
    rcases hkd with rfl | rfl <;> rw [w4] at this <;> exact hX.w this rfl
  have hini : (Cond.initialized (yT a).cls).before args s = true := by rw [w9]; exact hX.w (ini_in _ q1) rfl
  have hcode : (calWB a).before args s = true := hX.w (calB_in a w7) (calWB_ok a)
  have hpar : ∀ sig, parseMethodDescriptor (yT a).desc = some sig → b = sig.parameters.length := fun sig z => by
    rw [par_of a sig z, w3]
    rcases hkd with rfl | rfl <;> rw [w4] <;> rfl
  have hlen : (as.map (vv φ)).length = b := by rw [List.length_map]; exact p1
  rw [p2]
  rcases mth_word w1 (own_lt k) with hl | ⟨hn3, hn0, host, hl⟩
  · have hlk := hX.w (args := args) hl rfl
    rcases hkd with rfl | rfl
    · rw [calWB_code (by rw [w4]; decide)] at hcode p9
      have hwd := word_of (a := a) hX w7
      rw [calWB_code (by rw [w4]; decide)] at hwd
      exact run_use I p4 p7 (vx_runS (fix_of hX) p9 ⟨⟨rfl, rfl, p10.1, p10.2, hwd, List.mem_singleton.mpr rfl, hcode, hini, by rw [w9]; exact q2, hpar, hlk⟩, hst⟩ (pre_of hX I as) rfl hlen (by rw [I.1.1]) rfl (by exact (Nat.zero_add _).symm ▸ p5) hd p11) S.2.2.1 S.2.1 p8
    · have e3 : calWB a = .codeWith (yT a) (bT a) (mlT a) (rT a) (rhT a) := by
        unfold calWB
        rw [w4]
        rfl
      rw [e3] at hcode p9
      have hwd := word_of (a := a) hX w7
      rw [e3] at hwd
      exact run_use I p4 p7 (vx_runSX (fix_of hX) p9 ⟨⟨rfl, rfl, p10.1, p10.2, hwd, List.mem_singleton.mpr rfl⟩, hcode, hini, by rw [w9]; exact q2, hpar, hlk, hst⟩ (pre_of hX I as) rfl hlen (by rw [I.1.1]) rfl (by exact (Nat.zero_add _).symm ▸ p5) hd p11) S.2.2.1 S.2.1 p8
  · have hlk := hX.w (args := args) hl rfl
    rw [calWB_code hn3] at hcode p9
    have hwd := word_of (a := a) hX w7
    rw [calWB_code hn3] at hwd
    exact run_use I p4 p7 (vx_runSN (fix_of hX) p9 ⟨⟨⟨rfl, rfl, p10.1, p10.2, hwd, List.mem_singleton.mpr rfl⟩, hcode, hini, by rw [w9]; exact q2, hpar, hlk⟩, hst, trivial⟩ (pre_of hX I as) rfl hlen (by rw [I.1.1]) rfl (by exact (Nat.zero_add _).symm ▸ p5) hd p11) S.2.2.1 S.2.1 p8
end CALL2
