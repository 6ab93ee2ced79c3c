/-! ===== the primitives' contracts: the JDK's methods over our heap ===== -/
section JCON
variable {l : Launch} {G : Geo}
theorem con_jm {k : Nat} {as : List AV} {h : Hp} {res : Out × Hp} {y : MethodName} {cc : ByteArray} {nL : Nat} {ret : Option FieldType} (hy : yT k = y) (hw : calWB k = .code y cc nL ret) (hrk : rkT k = 7 ∧ lcT k = 250) {mc ms : Nat} (hmc : res.2.2.1 - h.2.1 = mc) (hms : res.2.2.2 - h.2.2 = ms)
    (core : (∀ v ∈ as, clV h v) → ∀ (s : State) (φ ψ : Nat × Nat → Nat), Sta G s s.heap → Hrel G s φ ψ h s.heap → ∃ (E : State → Prop) (fr : List Nat) (Q : Option Value → Heap → Prop), E s ∧ (∀ q ∈ fr, G.2.2.1 ≤ q) ∧ JM l G E y cc nL ret 7 250 (as.map (vv φ)) fr s.heap Q mc ms ∧
      ∀ (v : Option Value) (H1 : Heap), Q v H1 → s.heap.size ≤ H1.size → (∀ q, q < s.heap.size → q ∉ fr → H1[q]? = s.heap[q]?) → ∃ (v' : Option AV) (ψ' : Nat × Nat → Nat), res.1 = .inl v' ∧ v = v'.map (vv φ) ∧ (∀ w, v' = some w → clV res.2 w) ∧ (∀ z, (h.1 z).length ≤ (res.2.1 z).length) ∧ Hrel G s φ ψ' res.2 H1) : CON l G k as h res := by
  subst hmc hms
  intro hcl hZ hsl φ ψ
  rw [hy, hw]
  intro p e ha hc hk s m args below hf happ hP hK
  obtain ⟨rfl, hSta, hRel⟩ := hP
  obtain ⟨E, fr, Q, hE, hfr, hM, hend⟩ := core hcl s φ ψ hSta hRel
  have hfz : G.2.2.1 ≤ s.heap.size := hRel.2.2.2.2.2.2.2.1
  have hA : ∀ q, jA fr s.heap.size q → frz G q := jA_frz hfr hfz
  obtain ⟨n, o, h1, h2, h3, ⟨v, ho, hQ, hF⟩, L, hL1, hL2⟩ := hM (rmM k h res) (by unfold rmM; rw [hrk.1]; exact Nat.le_refl _) (by unfold rmM; rw [hrk.2]; exact Nat.le_refl _) rfl rfl p e ha hc hk s m _ below hf happ ⟨rfl, rfl, hSta, hE⟩ trivial
  refine ⟨n, o, h1, h2, h3, Or.inl ⟨?_, L, hL1, fun q hq => hA _ (hL2 q hq)⟩⟩
  obtain ⟨v', ψ', g1, g2, g3, g4, g5⟩ := hend v _ hQ hF.1 (fun q a b => hF.2 q a (fun z => z.elim b (fun w => absurd a (Nat.not_lt.mpr w))))
  exact ⟨v', φ, ψ', g1, by rw [ho, g2], g3, fun _ _ => rfl, g4, g5.moved hL1.2.1.alike, hF.1, fun q a b => hF.2 q a (fun z => b (hA q z))⟩
theorem con_rd {k : Nat} {as : List AV} {h : Hp} {v' : AV} {y : MethodName} {cc : ByteArray} {nL : Nat} {ret : Option FieldType} (hy : yT k = y) (hw : calWB k = .code y cc nL ret) (hrk : rkT k = 7 ∧ lcT k = 250)
    (core : (∀ v ∈ as, clV h v) → ∀ (s : State) (φ ψ : Nat × Nat → Nat), Sta G s s.heap → Hrel G s φ ψ h s.heap → ∃ E : State → Prop, E s ∧ JM l G E y cc nL ret 7 250 (as.map (vv φ)) [] s.heap (jR s.heap (some (vv φ v'))) 0 0 ∧ clV h v') : CON l G k as h (.inl (some v'), h) := by
  refine con_jm hy hw hrk (mc := 0) (ms := 0) (Nat.sub_self _) (Nat.sub_self _) (fun hcl s φ ψ hSt R => ?_)
  obtain ⟨E, hE, hM, hc⟩ := core hcl s φ ψ hSt R
  refine ⟨E, [], _, hE, (fun _ h => nomatch h), hM, fun v H1 hq _ _ => ?_⟩
  obtain ⟨rfl, rfl⟩ := hq
  exact ⟨some v', ψ, rfl, rfl, fun w hw => by cases hw; exact hc, fun _ => Nat.le_refl _, R⟩
theorem Hrel_hC {U : State} {φ ψ : Nat × Nat → Nat} {h : Hp} {H : Heap} {a b : Nat} (R : Hrel G U φ ψ h H) : Hrel G U φ ψ (hC h a b) H := ⟨R.1, R.2.1, R.2.2.1, R.2.2.2.1, R.2.2.2.2.1, R.2.2.2.2.2.1, R.2.2.2.2.2.2.1, R.2.2.2.2.2.2.2.1, R.2.2.2.2.2.2.2.2⟩
theorem jm_le {E : State → Prop} {y : MethodName} {cc : ByteArray} {nL : Nat} {ret : Option FieldType} {F L F' L' : Nat} {av : List Value} {fr : List Nat} {H : Heap} {Q : Option Value → Heap → Prop} {mc ms : Nat} (h : JM l G E y cc nL ret F L av fr H Q mc ms) (h1 : F ≤ F') (h2 : L ≤ L') : JM l G E y cc nL ret F' L' av fr H Q mc ms := fun rm a b => h rm (Nat.le_trans h1 a) (Nat.le_trans h2 b)
section PIC
variable {s : State} {φ ψ : Nat × Nat → Nat} {h : Hp} {H : Heap}
theorem at_LI {a d : Nat} {mc n : Int32} (z : t_OB a (G.1.1 21) 3 (G.1.2 21) H (vp_V [.int mc, .ref d, .int n])) : va_at G.1 kcl (jLI a mc d n) H := ⟨_, kcl_at (a := 21) (by decide), z⟩
theorem at_LI' {a d : Nat} {mc n : Int32} (z : va_at G.1 kcl (jLI a mc d n) H) : t_OB a (G.1.1 21) 3 (G.1.2 21) H (vp_V [.int mc, .ref d, .int n]) := by
  obtain ⟨r, h1, h2⟩ := z
  cases (kcl_at (a := 21) (by decide)).symm.trans h1
  exact h2
theorem at_SB {a d : Nat} {ml n : Int32} (z : t_OB a (G.1.1 22) 4 (G.1.2 22) H (vp_V [.ref d, .int 0, .int ml, .int n])) : va_at G.1 kcl (jSB a d ml n) H := ⟨_, kcl_at (a := 22) (by decide), z⟩
theorem at_SB' {a d : Nat} {ml n : Int32} (z : va_at G.1 kcl (jSB a d ml n) H) : t_OB a (G.1.1 22) 4 (G.1.2 22) H (vp_V [.ref d, .int 0, .int ml, .int n]) := by
  obtain ⟨r, h1, h2⟩ := z
  cases (kcl_at (a := 22) (by decide)).symm.trans h1
  exact h2
/-- a list, as it stands -/
theorem li_pic (R : Hrel G s φ ψ h H) {q : Nat × Nat} {x : OC} (hx : hG h (some q) = some x) (k1 : 2000 ≤ x.1) (k2 : x.1 < 1000000) :
    ∃ mc, x.2.length ≤ x.1 - 2000 ∧ x.1 - 2000 < 100000 ∧ x.1 - 2000 ≠ 1 ∧ va_at G.1 kcl (jLI (φ q) mc (if x.1 - 2000 = 0 then G.2.2.2 2 else ψ q) (nI x.2.length)) H ∧ (x.1 - 2000 ≠ 0 → ∃ f, va_at G.1 kcl (jRO G (ψ q) (x.1 - 2000) f) H ∧ ∀ j, j < x.2.length → va_rf (f j) = rowV φ x.2 j) ∧ G.2.2.1 ≤ φ q ∧ (x.1 - 2000 ≠ 0 → G.2.2.1 ≤ ψ q ∧ φ q ≠ ψ q) ∧ q.1 ≠ 0 := by
  have hr := R.1 q x hx
  unfold cellRep at hr
  rw [if_neg (by omega), if_neg (by omega), if_neg (by omega), if_neg (by omega), if_pos k2] at hr
  obtain ⟨mc, h1, ⟨h2, h3⟩, h4, h5⟩ := hr
  have hn : ¬ isX x.1 := by unfold isX; omega
  have h0 : q.1 ≠ 0 := fun z => by
    have := R.2.2.2.2.2.2.1 q x hx z
    unfold isH at this
    omega
  refine ⟨mc, h1, h2, h3, at_LI h4, fun z => ?_, (R.2.2.1 q x hx hn).2.1 h0, fun z => ?_, h0⟩
  · obtain ⟨f, g1, g2⟩ := h5 z
    exact ⟨f, g1, g2⟩
  · have := R.2.2.2.1 q x hx (by unfold isH; omega)
    exact ⟨this.2.1, this.2.2.1 q x hx hn⟩
/-- a list, put back -/
theorem li_put (R : Hrel G s φ ψ h H) {q : Nat × Nat} {x : OC} (hx : hG h (some q) = some x) (hn : ¬ isX x.1) (h21 : 21 ≤ x.1) (hq0 : q.1 ≠ 0) {H1 : Heap} {cap' d' : Nat} {xs' : List AV} {mc' : Int32} (h1 : va_at G.1 kcl (jLI (φ q) mc' (if cap' = 0 then G.2.2.2 2 else d') (nI xs'.length)) H1) (h2 : cap' ≠ 0 → ∃ f', va_at G.1 kcl (jRO G d' cap' f') H1 ∧ ∀ j, j < xs'.length → va_rf (f' j) = rowV φ xs' j)
    (h3 : xs'.length ≤ cap') (h4 : cap' < 100000) (h5 : cap' ≠ 1) (hz : H.size ≤ H1.size) (hk : ∀ p, p < H.size → p ≠ φ q → (isH x.1 → p ≠ ψ q) → H1[p]? = H[p]?) (hd : cap' ≠ 0 → (isH x.1 ∧ d' = ψ q) ∨ H.size ≤ d') (hcl : ∀ v ∈ xs', clV h v) (hok : ∀ v ∈ xs', okE h v) : Hrel G s φ (up2 ψ q d') (hS h q (2000 + cap', xs')) H1 := by
  refine R.put hx hq0 hn (by unfold isX; dsimp only; omega) hz hk (fun z => ?_) ?_ hcl ⟨fun z => by omega, fun _ _ => hok⟩
  · have hc : cap' ≠ 0 := by unfold isH at z; dsimp only at z; omega
    obtain ⟨f', g1, -⟩ := h2 hc
    exact ⟨g1.lt, hd hc⟩
  · unfold cellRep
    dsimp only
    rw [if_neg (by omega), if_neg (by omega), if_neg (by omega), if_neg (by omega), if_pos (by omega), Nat.add_sub_cancel_left]
    exact ⟨mc', h3, ⟨h4, h5⟩, at_LI' h1, fun z => by
      obtain ⟨f', g1, g2⟩ := h2 z
      exact ⟨f', g1, g2⟩⟩
theorem cst_w (s : State) (hS : AllW s) : ∀ k, k < 21 → va_Nw (.castable (cAt k).1 "java/lang/Object") s := by
  intro k hk
  match k, hk with
  | 0, _ => exact hS.at #[] (jw_in _ (List.mem_of_getElem? (i := 136) rfl)) rfl
  | 1, _ => exact hS.at #[] (jw_in _ (List.mem_of_getElem? (i := 139) rfl)) rfl
  | 2, _ => exact hS.at #[] (jw_in _ (List.mem_of_getElem? (i := 133) rfl)) rfl
  | 3, _ => exact hS.at #[] (jw_in _ (List.mem_of_getElem? (i := 134) rfl)) rfl
  | 4, _ => exact hS.at #[] (jw_in _ (List.mem_of_getElem? (i := 130) rfl)) rfl
  | 5, _ => exact hS.at #[] (jw_in _ (List.mem_of_getElem? (i := 138) rfl)) rfl
  | 6, _ => exact hS.at #[] (jw_in _ (List.mem_of_getElem? (i := 141) rfl)) rfl
  | 7, _ => exact hS.at #[] (jw_in _ (List.mem_of_getElem? (i := 140) rfl)) rfl
  | 8, _ => exact hS.at #[] (jw_in _ (List.mem_of_getElem? (i := 132) rfl)) rfl
  | 9, _ => exact hS.at #[] (jw_in _ (List.mem_of_getElem? (i := 135) rfl)) rfl
  | 10, _ => exact hS.at #[] (jw_in _ (List.mem_of_getElem? (i := 137) rfl)) rfl
  | 11, _ => exact hS.at #[] (jw_in _ (List.mem_of_getElem? (i := 131) rfl)) rfl
  | 12, _ => exact hS.at #[] (jw_in _ (List.mem_of_getElem? (i := 136) rfl)) rfl
  | 13, _ => exact hS.at #[] (jw_in _ (List.mem_of_getElem? (i := 136) rfl)) rfl
  | 14, _ => exact hS.at #[] (jw_in _ (List.mem_of_getElem? (i := 136) rfl)) rfl
  | 15, _ => exact hS.at #[] (jw_in _ (List.mem_of_getElem? (i := 136) rfl)) rfl
  | 16, _ => exact hS.at #[] (jw_in _ (List.mem_of_getElem? (i := 136) rfl)) rfl
  | 17, _ => exact hS.at #[] (jw_in _ (List.mem_of_getElem? (i := 136) rfl)) rfl
  | 18, _ => exact hS.at #[] (jw_in _ (List.mem_of_getElem? (i := 136) rfl)) rfl
  | 19, _ => exact hS.at #[] (jw_in _ (List.mem_of_getElem? (i := 136) rfl)) rfl
  | 20, _ => exact hS.at #[] (jw_in _ (List.mem_of_getElem? (i := 136) rfl)) rfl
  | k + 21, h9 => exact absurd h9 (by omega)
/-- an object is an Object -/
theorem el_any (hSt : Sta G s H) (R : Hrel G s φ ψ h H) {q : Nat × Nat} (hc : clV h (aR (some q))) (ho : okE h (aR (some q))) : va_Any "java/lang/Object" s H (φ q) := by
  obtain ⟨y, hy⟩ := hG_of_lt (h := h) (q := q) hc
  have h21 := ho q y rfl hy
  obtain ⟨z1, z2, -⟩ := R.obj hy (by omega)
  have hP : va_P G.1 kcl [(φ q, .inr (y.1, y.2.map (vv φ)))] H := j_P1 ⟨_, kcl_at (by omega), z2.to (fun i hi => by
    unfold rowV vp_V
    rw [List.getD_eq_getElem?_getD, List.getD_eq_getElem?_getD, List.getElem?_map, List.getElem?_eq_getElem (by omega)]
    rfl)⟩
  exact va_rAny (q0 := 0) hSt.1.2.1 hP rfl (kcl_at (by omega)) (vb_asgC (cst_w s hSt.1.1 y.1 h21))
theorem row_el {f : Nat → Option Nat} {v : AV} {j y : Nat} (h1 : va_rf (f j) = vv φ v) (h2 : f j = some y) : ∃ q, v = aR (some q) ∧ y = φ q := by
  rw [h2] at h1
  rcases v with _ | _ | _ | _ | _ | q
  all_goals first | (cases h1; done) | skip
  exact ⟨q, rfl, by cases h1; rfl⟩
theorem okB_E {v : Option (Nat × Nat)} (h1 : okB h v = true) : okE h (aR v) := fun q y e1 e2 => by
  cases e1
  unfold okB at h1
  rw [e2] at h1
  exact Nat.le_of_ble_eq_true h1
theorem rowV_at {xs : List AV} {j : Nat} (hj : j < xs.length) : rowV φ xs j = vv φ xs[j] := by
  unfold rowV
  rw [List.getD_eq_getElem?_getD, List.getElem?_eq_getElem hj]
  rfl
/-- what a list's row holds -/
theorem row_ok (hSt : Sta G s H) (R : Hrel G s φ ψ h H) {q : Nat × Nat} {x : OC} (hx : hG h (some q) = some x) (k1 : 2000 ≤ x.1) (k2 : x.1 < 1000000) {f : Nat → Option Nat} (hf : ∀ j, j < x.2.length → va_rf (f j) = rowV φ x.2 j) :
    jEl x.2.length f H s ∧ ∀ j, j < x.2.length → f j ≠ some (φ q) ∧ (isH x.1 → f j ≠ some (ψ q)) := by
  have key : ∀ j, j < x.2.length → ∀ y, f j = some y → ∃ q', clV h (aR (some q')) ∧ okE h (aR (some q')) ∧ y = φ q' := by
    intro j hj y hy
    have h1 := hf j hj
    rw [rowV_at hj] at h1
    obtain ⟨q', e1, e2⟩ := row_el h1 hy
    have hm : x.2[j] ∈ x.2 := List.getElem_mem hj
    exact ⟨q', by rw [← e1]; exact R.2.2.2.2.1 q x hx _ hm, by rw [← e1]; exact R.2.2.2.2.2.2.2.2 q x hx k1 k2 _ hm, e2⟩
  have hn : ¬ isX x.1 := by unfold isX; omega
  have key2 : ∀ q', clV h (aR (some q')) → okE h (aR (some q')) → φ q' ≠ φ q ∧ (isH x.1 → φ q' ≠ ψ q) := by
    intro q' hc ho
    obtain ⟨y, hy⟩ := hG_of_lt (h := h) (q := q') hc
    have h21 := ho q' y rfl hy
    have hn' : ¬ isX y.1 := by unfold isX; omega
    refine ⟨fun z => ?_, fun hH => (R.2.2.2.1 q x hx hH).2.2.1 q' y hy hn'⟩
    have := R.2.1 q' q y x hy hx hn' hn z
    subst this
    rw [hy] at hx
    cases hx
    omega
  refine ⟨fun j hj y hy => ?_, fun j hj => ⟨fun z => ?_, fun hH z => ?_⟩⟩
  · obtain ⟨q', c1, c2, rfl⟩ := key j hj y hy
    exact el_any hSt R c1 c2
  · obtain ⟨q', c1, c2, c3⟩ := key j hj _ z
    exact (key2 q' c1 c2).1 c3.symm
  · obtain ⟨q', c1, c2, c3⟩ := key j hj _ z
    exact (key2 q' c1 c2).2 hH c3.symm
theorem el_ne (R : Hrel G s φ ψ h H) {q q' : Nat × Nat} {x : OC} (hx : hG h (some q) = some x) (k1 : 2000 ≤ x.1) (hc : clV h (aR (some q'))) (ho : okE h (aR (some q'))) : φ q' ≠ φ q ∧ (isH x.1 → φ q' ≠ ψ q) := by
  have hn : ¬ isX x.1 := by unfold isX; omega
  obtain ⟨y, hy⟩ := hG_of_lt (h := h) (q := q') hc
  have h21 := ho q' y rfl hy
  have hn' : ¬ isX y.1 := by unfold isX; omega
  refine ⟨fun z => ?_, fun hH => (R.2.2.2.1 q x hx hH).2.2.1 q' y hy hn'⟩
  have := R.2.1 q' q y x hy hx hn' hn z
  subst this
  rw [hy] at hx
  cases hx
  omega
theorem hS_le {h : Hp} {q : Nat × Nat} {c : OC} (z : Nat) : (h.1 z).length ≤ ((hS h q c).1 z).length := Nat.le_of_eq (hS_len h q c z).symm
theorem ofI {i : Int32} (h0 : ¬ i < 0) : i = nI i.toNatClampNeg ∧ i.toNatClampNeg < 2147483648 := by
  obtain ⟨j, hj, rfl⟩ := nI_of h0
  rw [nI_clamp hj]
  exact ⟨rfl, hj⟩
end PIC
end JCON
