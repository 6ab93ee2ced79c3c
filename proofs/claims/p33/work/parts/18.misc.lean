section MISC
variable {G : Geo} {p : Program} {l : Launch} {e e0 : Env} {R : Room} {s : State} {m : MethodId} {args : Array Value} {below : List Frame} {meth : Method} {c : Code} {Q : State → Prop} {k : Nat} {φ0 : Nat × Nat → Nat} {h0 : Hp} {res : Out × Hp} {K : KT} {C : CT} {X : XT}
variable {φ ψ : Nat × Nat → Nat} {L : LV} {st : List AV} {h : Hp} {H : Heap} {locs : List Loc} {cells slots : Nat} {ls : Array Slot} {pc a b : Nat} {ts : List Nat}
theorem num_in : Cond.fieldLinkNest RX8 52 "Chipcardhouse" "NUMBERS_OF" "[I" "Chipcardhouse" ∈ lw_tbl := in_of (gs := [348]) (ws := [Cond.fieldLinkNest RX8 52 "Chipcardhouse" "NUMBERS_OF" "[I" "Chipcardhouse"]) rfl _ (by simp)
theorem sn_ldc {idx : Nat} (hX : Ctx G p s m meth c k) (hZ : 30 ≤ (h0.1 0).length) (hK : KOK G p l e R s m args below meth c Q k φ0 h0 res K) (I : IV G s k φ0 h0 φ ψ L st h H locs cells slots ls) (hd : decode (bT k) pc = .ok (.ldc idx, 2))
    (hw : ts = [1] ∧ (ownC k, idx, a) ∈ strE ∨ ts = [0] ∧ Cond.constant (ownS (ownC k)) idx (Int32.ofNat a) ∈ cstW) (ha : ts = [1] → a < 30) (hr : F K C X (.ldc idx) (pc + 2) a b ts L st h = some res) : W p l e R s m args below meth c H locs cells slots Q (F0 m pc ls (st.map (vv φ))) := by
  have hs := I.2.2.1
  unfold F at hr
  dsimp only at hr
  rcases hw with ⟨hw, hw2⟩ | ⟨hw, hw2⟩
  · have ha := ha hw
    rw [hw] at hr
    obtain ⟨tx, e1⟩ := hX.sta.1.2.2.2.2.2.1 _ _ _ hw2
    have i6 := I.2.2.2.2.2.1 0
    have := hK _ _ _ _ _ _ _ _ _ _ _ hr (I.st (List.forall_mem_cons.mpr ⟨(show a < (h.1 0).length by omega), hs⟩))
    refine va_ldcS (q := G.2.2.2 a) hX.1 hX.2.1 hX.2.2.2.1 e1 hd ?_
    rw [List.map_cons] at this
    have e2 : vv φ (aR (some (0, a))) = .ref (G.2.2.2 a) := congrArg Value.ref (I.2.2.2.1.2.2.2.2.2.1 a)
    rw [e2] at this
    exact this
  · rw [hw] at hr
    exact lv_ldc hX.1 hX.2.1 hX.2.2.2.1 (hX.w (cst_in _ hw2) rfl) hd (hK _ _ _ _ _ _ _ _ _ _ _ hr (I.st (List.forall_mem_cons.mpr ⟨trivial, hs⟩)))
theorem sn_ldc_w {idx : Nat} (hX : Ctx G p s m meth c k) (hK : KOK G p l e R s m args below meth c Q k φ0 h0 res K) (I : IV G s k φ0 h0 φ ψ L st h H locs cells slots ls) (hd : decode (bT k) pc = .ok (.ldc_w idx, 3))
    (hw : ts = [0]) (hw2 : Cond.constant (ownS (ownC k)) idx (Int32.ofNat a) ∈ cstW) (hr : F K C X (.ldc_w idx) (pc + 3) a b ts L st h = some res) : W p l e R s m args below meth c H locs cells slots Q (F0 m pc ls (st.map (vv φ))) := by
  have hs := I.2.2.1
  unfold F at hr
  dsimp only at hr
  rw [hw] at hr
  exact lv_ldcw hX.1 hX.2.1 hX.2.2.2.1 (hX.w (cst_in _ hw2) rfl) hd (hK _ _ _ _ _ _ _ _ _ _ _ hr (I.st (List.forall_mem_cons.mpr ⟨trivial, hs⟩)))
theorem sn_ldc2_w {idx : Nat} (hX : Ctx G p s m meth c k) (hK : KOK G p l e R s m args below meth c Q k φ0 h0 res K) (I : IV G s k φ0 h0 φ ψ L st h H locs cells slots ls) (hd : decode (bT k) pc = .ok (.ldc2_w idx, 3))
    (hw2 : Cond.constantLong (ownS (ownC k)) idx (Int64.ofNat a) ∈ cstW) (hr : F K C X (.ldc2_w idx) (pc + 3) a b ts L st h = some res) : W p l e R s m args below meth c H locs cells slots Q (F0 m pc ls (st.map (vv φ))) := by
  have hs := I.2.2.1
  unfold F at hr
  dsimp only at hr
  exact lv_ldc2 hX.1 hX.2.1 hX.2.2.2.1 (hX.w (cst_in _ hw2) rfl) hd (hK _ _ _ _ _ _ _ _ _ _ _ hr (I.st (List.forall_mem_cons.mpr ⟨trivial, hs⟩)))
theorem sn_getstatic {idx : Nat} (hX : Ctx G p s m meth c k) (hZ : 30 ≤ (h0.1 0).length) (hK : KOK G p l e R s m args below meth c Q k φ0 h0 res K) (I : IV G s k φ0 h0 φ ψ L st h H locs cells slots ls) (hd : decode (bT k) pc = .ok (.getstatic idx, 3))
    (hw : ts = [0]) (ha : a = 1) (hw2 : ownC k = 8) (hw3 : idx = 52) (hr : F K C X (.getstatic idx) (pc + 3) a b ts L st h = some res) : W p l e R s m args below meth c H locs cells slots Q (F0 m pc ls (st.map (vv φ))) := by
  have hs := I.2.2.1
  subst ha
  subst hw3
  unfold F at hr
  dsimp only at hr
  rw [hw] at hr
  have i6 := I.2.2.2.2.2.1 0
  have := hK _ _ _ _ _ _ _ _ _ _ _ hr (I.st (List.forall_mem_cons.mpr ⟨(show 1 < (h.1 0).length by omega), hs⟩))
  rw [List.map_cons] at this
  have e2 : vv φ (aR (some (0, 1))) = .ref (G.2.2.2 1) := congrArg Value.ref (I.2.2.2.1.2.2.2.2.2.1 1)
  rw [e2] at this
  have hown := hX.2.2.2.1
  rw [hw2] at hown
  exact va_getsN (own := RX8) hX.1 hX.2.1 hX.sta.2.1 I.2.2.2.2.2.2.1 hown (hX.w num_in rfl) (fun _ z => z) hd this
theorem okx_spec {o : Option (Nat × Nat)} (h1 : okx h o = true) : o = none ∨ ∃ q x, o = some q ∧ hG h (some q) = some x ∧ ¬ isX x.1 := by
  unfold okx at h1
  cases o with
  | none => exact Or.inl rfl
  | some q =>
    cases hx : hG h (some q) with
    | none => rw [hx] at h1; cases h1
    | some x =>
      rw [hx] at h1
      have := Nat.le_of_ble_eq_true h1
      exact Or.inr ⟨q, x, rfl, hx, by unfold isX; omega⟩
theorem vv_rf (φ : Nat × Nat → Nat) (o : Option (Nat × Nat)) : vv φ (aR o) = va_rf (o.map φ) := by cases o <;> rfl
theorem okx_inj (R1 : Hrel G s φ ψ h H) {x y : Option (Nat × Nat)} (hx : okx h x = true) (hy : okx h y = true) : x.map φ = y.map φ ↔ x = y := by
  constructor
  · intro z
    rcases okx_spec hx with rfl | ⟨q, w, rfl, e1, n1⟩ <;> rcases okx_spec hy with rfl | ⟨q', w', rfl, e2, n2⟩
    · rfl
    · cases z
    · cases z
    · rw [R1.2.1 q q' w w' e1 e2 n1 n2 (Option.some.inj z)]
  · intro z; rw [z]
theorem aq_spec {x y : Option (Nat × Nat)} {r : Res} {o : Out × Hp} (h1 : aq h x y r = some o) : okx h x = true ∧ okx h y = true ∧ r = some o := by
  unfold aq at h1
  split at h1
  · rename_i e
    rw [Bool.and_eq_true] at e
    exact ⟨e.1, e.2, h1⟩
  · cases h1
theorem sn_acmp_eq {off : Int} (hX : Ctx G p s m meth c k) (hK : KOK G p l e R s m args below meth c Q k φ0 h0 res K) (I : IV G s k φ0 h0 φ ψ L st h H locs cells slots ls) (hd : decode (bT k) pc = .ok (.if_acmp .eq off, 3)) (ht : (pc : Int) + off = (a : Int)) (hr : F K C X (.if_acmp .eq off) (pc + 3) a b ts L st h = some res) : W p l e R s m args below meth c H locs cells slots Q (F0 m pc ls (st.map (vv φ))) := by
  have hs := I.2.2.1
  unfold F at hr
  dsimp only at hr
  split at hr
  · rename_i y x rest
    simp only [List.forall_mem_cons] at hs
    obtain ⟨o1, o2, hr⟩ := aq_spec hr
    have key : W p l e R s m args below meth c H locs cells slots Q (F0 m pc ls (va_rf (y.map φ) :: va_rf (x.map φ) :: rest.map (vv φ))) := by
      refine lv_acmp_eq hX.1 hX.2.1 hd ht (fun q => ?_) (fun q => ?_)
      · rw [okx_inj I.2.2.2.1 o1 o2] at q
        rw [if_pos q] at hr
        exact hK _ _ _ _ _ _ _ _ _ _ _ hr (I.st hs.2.2)
      · rw [okx_inj I.2.2.2.1 o1 o2] at q
        rw [if_neg q] at hr
        exact hK _ _ _ _ _ _ _ _ _ _ _ hr (I.st hs.2.2)
    rw [← vv_rf, ← vv_rf] at key
    exact key
  · cases hr
theorem sn_acmp_ne {off : Int} (hX : Ctx G p s m meth c k) (hK : KOK G p l e R s m args below meth c Q k φ0 h0 res K) (I : IV G s k φ0 h0 φ ψ L st h H locs cells slots ls) (hd : decode (bT k) pc = .ok (.if_acmp .ne off, 3)) (ht : (pc : Int) + off = (a : Int)) (hr : F K C X (.if_acmp .ne off) (pc + 3) a b ts L st h = some res) : W p l e R s m args below meth c H locs cells slots Q (F0 m pc ls (st.map (vv φ))) := by
  have hs := I.2.2.1
  unfold F at hr
  dsimp only at hr
  split at hr
  · rename_i y x rest
    simp only [List.forall_mem_cons] at hs
    obtain ⟨o1, o2, hr⟩ := aq_spec hr
    have key : W p l e R s m args below meth c H locs cells slots Q (F0 m pc ls (va_rf (y.map φ) :: va_rf (x.map φ) :: rest.map (vv φ))) := by
      refine lv_acmp_ne hX.1 hX.2.1 hd ht (fun q => ?_) (fun q => ?_)
      · rw [okx_inj I.2.2.2.1 o1 o2] at q
        rw [if_neg q] at hr
        exact hK _ _ _ _ _ _ _ _ _ _ _ hr (I.st hs.2.2)
      · rw [okx_inj I.2.2.2.1 o1 o2] at q
        rw [if_pos q] at hr
        exact hK _ _ _ _ _ _ _ _ _ _ _ hr (I.st hs.2.2)
    rw [← vv_rf, ← vv_rf] at key
    exact key
  · cases hr
theorem swT_spec (x : Int) (kk : Nat → Res) (d : Nat) (l : List Nat) : ∀ lo : Int, swT x lo kk d l = (if lo ≤ x ∧ x < lo + l.length then kk (l.getD (x - lo).toNat 0) else kk d) := by
  induction l with
  | nil =>
    intro lo
    rw [if_neg (by simp)]
    rfl
  | cons t l ih =>
    intro lo
    show (if x = lo then kk t else swT x (lo + 1) kk d l) = _
    by_cases z : x = lo
    · subst z
      rw [if_pos rfl, if_pos (by simp only [List.length_cons]; omega), Int.sub_self]
      rfl
    · rw [if_neg z, ih]
      by_cases w : lo ≤ x ∧ x < lo + (t :: l).length
      · simp only [List.length_cons] at w
        rw [if_pos (by omega), if_pos (by simp only [List.length_cons]; omega)]
        have : (x - lo).toNat = (x - (lo + 1)).toNat + 1 := by omega
        rw [this]
        rfl
      · simp only [List.length_cons] at w
        rw [if_neg (by omega), if_neg (by simp only [List.length_cons]; omega)]
theorem sn_tableswitch {d lo hi : Int} {offs : Array Int} {ln : Nat} {np : Nat} (hX : Ctx G p s m meth c k) (hK : KOK G p l e R s m args below meth c Q k φ0 h0 res K) (I : IV G s k φ0 h0 φ ψ L st h H locs cells slots ls) (hd : decode (bT k) pc = .ok (.tableswitch d lo hi offs, ln))
    (h1 : (pc : Int) + d = a) (h2 : hi = lo + ts.length - 1) (h3 : offs.toList.map (fun x => (pc : Int) + x) = ts.map (fun (x : Nat) => (x : Int))) (hr : F K C X (.tableswitch d lo hi offs) np a b ts L st h = some res) : W p l e R s m args below meth c H locs cells slots Q (F0 m pc ls (st.map (vv φ))) := by
  have hs := I.2.2.1
  unfold F at hr
  dsimp only at hr
  split at hr
  · rename_i x rest
    simp only [List.forall_mem_cons] at hs
    rw [swT_spec] at hr
    by_cases z : lo ≤ x.toInt ∧ x.toInt < lo + ts.length
    · rw [if_pos z] at hr
      have hlt : (x.toInt - lo).toNat < ts.length := by omega
      have e1 : (offs.toList.map (fun x => (pc : Int) + x))[(x.toInt - lo).toNat]? = some ((ts[(x.toInt - lo).toNat] : Nat) : Int) := by
        rw [h3, List.getElem?_map, List.getElem?_eq_getElem hlt]
        rfl
      rw [List.getElem?_map] at e1
      cases e2 : offs.toList[(x.toInt - lo).toNat]? with
      | none => rw [e2] at e1; cases e1
      | some o =>
        rw [e2] at e1
        have e1 := Option.some.inj e1
        have e3 : ts.getD (x.toInt - lo).toNat 0 = ts[(x.toInt - lo).toNat] := by rw [List.getD_eq_getElem?_getD, List.getElem?_eq_getElem hlt]; rfl
        rw [e3] at hr
        exact lv_tableIn hX.1 hX.2.1 hd (by omega) (by omega) (by rw [← Array.getElem?_toList]; exact e2) e1 (hK _ _ _ _ _ _ _ _ _ _ _ hr (I.st hs.2))
    · rw [if_neg z] at hr
      exact lv_tableOut hX.1 hX.2.1 hd (by omega) h1 (hK _ _ _ _ _ _ _ _ _ _ _ hr (I.st hs.2))
  · cases hr
end MISC
