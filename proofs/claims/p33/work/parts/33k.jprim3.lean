/-! ===== add; all primitives ===== -/
section JPRIM3
variable {l : Launch} {G : Geo}
/-- a list with one more element -/
theorem add_row {φ : Nat × Nat → Nat} {xs : List AV} {v : Option (Nat × Nat)} {f f' : Nat → Option Nat} (he : ∀ j, j < xs.length → va_rf (f j) = rowV φ xs j) (hf : ∀ j, j < xs.length → f' j = f j) : ∀ j, j < (xs ++ [aR v]).length → va_rf (va_up f' xs.length (v.map φ) j) = rowV φ (xs ++ [aR v]) j := by
  intro j hj
  rw [List.length_append, List.length_singleton] at hj
  unfold va_up
  by_cases e : j = xs.length
  · rw [if_pos e]
    unfold rowV
    rw [List.getD_eq_getElem?_getD, e, List.getElem?_append_right (Nat.le_refl _), Nat.sub_self]
    exact (vv_rf φ v).symm
  · rw [if_neg e, hf j (by omega), he j (by omega)]
    unfold rowV
    rw [List.getD_eq_getElem?_getD, List.getD_eq_getElem?_getD, List.getElem?_append_left (by omega)]
set_option maxRecDepth 100000 in
set_option maxHeartbeats 1000000 in
theorem con_401 {as : List AV} {h : Hp} {r1 : Out × Hp} (hr : prim 401 as h = some r1) : CON l G 401 as h r1 := by
  simp only [prim] at hr
  split at hr
  · rename_i q v
    cases e : liG h (some q) with
    | none => rw [e] at hr; cases hr
    | some r =>
      obtain ⟨cap, xs⟩ := r
      rw [e] at hr
      dsimp only at hr
      split at hr
      · cases hr
      · rename_i h0
        obtain ⟨x, hx, k1, k2, rfl⟩ := li_of e
        have hob : okB h v = true := by cases z : okB h v; exact absurd (Or.inl z) h0; rfl
        have c3 : xs.length < 30000 := Nat.not_le.mp (fun z => h0 (Or.inr (Or.inl z)))
        have key : ∀ (s : State) (φ ψ : Nat × Nat → Nat), Sta G s s.heap → Hrel G s φ ψ h s.heap → clV h (aR v) → (∀ y, v.map φ = some y → va_Any "java/lang/Object" s s.heap y ∧ y ≠ φ q ∧ (isH (2000 + cap) → y ≠ ψ q)) := by
          intro s φ ψ hSt R hcv y hy
          cases v with
          | none => cases hy
          | some q' =>
            cases hy
            have h1 := el_ne R hx k1 hcv (okB_E hob)
            exact ⟨el_any hSt R hcv (okB_E hob), h1.1, h1.2⟩
        have hokx : ∀ (s : State) (φ ψ : Nat × Nat → Nat) (H : Heap), Hrel G s φ ψ h H → clV h (aR v) → (∀ u ∈ xs ++ [aR v], clV h u) ∧ ∀ u ∈ xs ++ [aR v], okE h u := by
          intro s φ ψ H R hcv
          refine ⟨fun u hu => ?_, fun u hu => ?_⟩
          · rcases List.mem_append.mp hu with z | z
            · exact R.2.2.2.2.1 q _ hx u z
            · rw [List.mem_singleton.mp z]; exact hcv
          · rcases List.mem_append.mp hu with z | z
            · exact R.2.2.2.2.2.2.2.2 q _ hx k1 k2 u z
            · rw [List.mem_singleton.mp z]; exact okB_E hob
        have hla : (xs ++ [aR v]).length = xs.length + 1 := by rw [List.length_append, List.length_singleton]
        split at hr
        · -- there is room
          rename_i hlt
          cases hr
          refine con_jm (y := jy_add) (cc := jc_add) (nL := 2) (ret := jr_add) rfl rfl ⟨rfl, rfl⟩ (mc := 0) (ms := 0) (Nat.sub_self _) (Nat.sub_self _) (fun hcl s φ ψ hSt R => ?_)
          obtain ⟨mc, p1, p2, p3, p4, p5, p6, p7, p8⟩ := li_pic R hx k1 k2
          dsimp only at p1 p2 p3 p4 p5 p6 p7
          rw [Nat.add_sub_cancel_left] at p1 p2 p3 p4 p5 p7
          have hc : cap ≠ 0 := by omega
          rw [if_neg hc] at p4
          obtain ⟨f, g1, g2⟩ := p5 hc
          have hH : isH (2000 + cap) := by unfold isH; omega
          have hcv : clV h (aR v) := hcl _ (by simp)
          have hro := row_ok hSt R hx k1 k2 g2
          dsimp only at hro
          have hfz := R.2.2.2.2.2.2.2.1
          have hfr : ∀ p ∈ [φ q, ψ q], G.2.2.1 ≤ p := fun p hp => by
            rcases List.mem_cons.mp hp with z | z
            · rw [z]; exact p6
            · rw [List.mem_singleton.mp z]; exact (p7 hc).1
          have hM := c_add (l := l) (v := v.map φ) (f := f) (cap := xs.length) (mc' := 0) (ms' := 0) (Q3 := fun H1 => ∃ q', q' = ψ q ∧ va_P G.1 kcl [jLI (φ q) (mc + 1) q' (nI (xs.length + 1)), jRO G q' cap (va_up f xs.length (v.map φ))] H1) hfz hfr (fun z => by
              simp only [List.map_cons, List.map_nil, List.mem_cons, List.not_mem_nil, or_false] at z
              rcases z with z | z
              · exact (key s φ ψ hSt R hcv _ z).2.1 rfl
              · exact (key s φ ψ hSt R hcv _ z).2.2 hH rfl) (fun i hi z => by
              simp only [List.map_cons, List.map_nil, List.mem_cons, List.not_mem_nil, or_false] at z
              rcases z with z | z
              · exact (hro.2 i hi).1 z
              · exact (hro.2 i hi).2 hH z) (j_P2 p4 g1) (j_D2 (p7 hc).2 (Or.inl List.mem_cons_self) (Or.inl (List.mem_cons_of_mem _ List.mem_cons_self))) (fun H' hz' hP' => c_add3r (Nat.le_trans hfz hz') (p7 hc).2 hP' hlt p2)
          rw [← vv_rf] at hM
          refine ⟨_, [φ q, ψ q], _, ⟨hro.1, fun y hy => (key s φ ψ hSt R hcv y hy).1⟩, hfr, jm_le hM (by decide) (by decide), fun v1 H1 hq hz hk => ?_⟩
          obtain ⟨rfl, q', rfl, hP⟩ := hq
          refine ⟨some (aI 1), _, rfl, rfl, fun w hw => by cases hw; trivial, hS_le, li_put (d' := ψ q) (mc' := mc + 1) R hx (by unfold isX; dsimp only; omega) (by dsimp only; omega) p8 (by rw [if_neg hc, hla]; exact hP 0 _ rfl) (fun _ => ⟨_, hP 1 _ rfl, add_row g2 (fun _ _ => rfl)⟩) (by rw [hla]; omega) p2 p3 hz (fun p hp h1 h2 => hk p hp (fun z => ?_)) (fun _ => Or.inl ⟨hH, rfl⟩) (hokx s φ ψ _ R hcv).1 (hokx s φ ψ _ R hcv).2⟩
          rcases List.mem_cons.mp z with z | z
          · exact h1 z
          · exact h2 hH (List.mem_singleton.mp z)
        · rename_i hlt
          cases hr
          by_cases hc : cap = 0
          · -- the first element of all
            subst hc
            have hx0 : xs = [] := List.length_eq_zero_iff.mp (by have := Nat.not_lt.mp (fun z => h0 (Or.inr (Or.inr z))); omega)
            subst hx0
            refine con_jm (y := jy_add) (cc := jc_add) (nL := 2) (ret := jr_add) rfl rfl ⟨rfl, rfl⟩ (mc := 1) (ms := 10) (Nat.add_sub_cancel_left _ _) (Nat.add_sub_cancel_left _ _) (fun hcl s φ ψ hSt R => ?_)
            obtain ⟨mc, p1, p2, p3, p4, p5, p6, p7, p8⟩ := li_pic R hx k1 k2
            have hcv : clV h (aR v) := hcl _ (by simp)
            have hfz := R.2.2.2.2.2.2.2.1
            have hfr : ∀ p ∈ [φ q], G.2.2.1 ≤ p := fun p hp => by rw [List.mem_singleton.mp hp]; exact p6
            have hva : v.map φ ≠ some (φ q) := fun z => (key s φ ψ hSt R hcv _ z).2.1 rfl
            have hM := c_add (l := l) (v := v.map φ) (f := fun _ => none) (cap := 0) (n := 0) (mc' := 1) (ms' := 10) (Q3 := fun H1 => ∃ q', s.heap.size ≤ q' ∧ va_P G.1 kcl [jLI (φ q) (mc + 1) q' (nI 1), jRO G q' 10 (va_up (fun _ => none) 0 (v.map φ))] H1) hfz hfr (fun z => by
                simp only [List.map_cons, List.map_nil, List.mem_cons, List.not_mem_nil, or_false] at z
                exact hva z) (fun i hi => absurd hi (Nat.not_lt_zero _)) (j_P1 p4) (j_D1 (Or.inl List.mem_cons_self)) (fun H' hz' hP' => c_add3a (Nat.le_trans hfz hz') p6 hva hP' hz')
            rw [← vv_rf] at hM
            refine ⟨_, [φ q], _, ⟨fun i hi => absurd hi (Nat.not_lt_zero _), fun y hy => (key s φ ψ hSt R hcv y hy).1⟩, hfr, jm_le hM (by decide) (by decide), fun v1 H1 hq hz hk => ?_⟩
            obtain ⟨rfl, d, hd, hP⟩ := hq
            exact ⟨some (aI 1), _, rfl, rfl, fun w hw => by cases hw; trivial, hS_le, Hrel_hC (li_put (cap' := 10) (d' := d) (mc' := mc + 1) (xs' := [] ++ [aR v]) R hx (by unfold isX; dsimp only; omega) (by dsimp only; omega) p8 (hP 0 _ rfl) (fun _ => ⟨_, hP 1 _ rfl, add_row (xs := []) (f := fun _ => none) (fun j hj => absurd hj (Nat.not_lt_zero _)) (fun _ _ => rfl)⟩) (by show 1 ≤ 10; decide) (by decide) (by decide) hz (fun p hp h1 h2 => hk p hp (fun z => h1 (List.mem_singleton.mp z))) (fun _ => Or.inr hd) (hokx s φ ψ _ R hcv).1 (hokx s φ ψ _ R hcv).2)⟩
          · -- the row is full
            have hcap : cap = xs.length := by have := Nat.not_lt.mp (fun z => h0 (Or.inr (Or.inr z))); omega
            have hlc : liC cap xs.length = cap + cap / 2 := by unfold liC; rw [if_neg hlt, if_neg hc]
            rw [hlc]
            refine con_jm (y := jy_add) (cc := jc_add) (nL := 2) (ret := jr_add) rfl rfl ⟨rfl, rfl⟩ (mc := 1) (ms := cap + cap / 2) (Nat.add_sub_cancel_left _ _) (Nat.add_sub_cancel_left _ _) (fun hcl s φ ψ hSt R => ?_)
            obtain ⟨mc, p1, p2, p3, p4, p5, p6, p7, p8⟩ := li_pic R hx k1 k2
            dsimp only at p1 p2 p3 p4 p5 p6 p7
            rw [Nat.add_sub_cancel_left] at p1 p2 p3 p4 p5 p7
            rw [if_neg hc, ← hcap] at p4
            obtain ⟨f, g1, g2⟩ := p5 hc
            have hH : isH (2000 + cap) := by unfold isH; omega
            have hcv : clV h (aR v) := hcl _ (by simp)
            have hro := row_ok hSt R hx k1 k2 g2
            dsimp only at hro
            rw [← hcap] at hro
            have hfz := R.2.2.2.2.2.2.2.1
            have hfr : ∀ p ∈ [φ q, ψ q], G.2.2.1 ≤ p := fun p hp => by
              rcases List.mem_cons.mp hp with z | z
              · rw [z]; exact p6
              · rw [List.mem_singleton.mp z]; exact (p7 hc).1
            have hva : v.map φ ≠ some (φ q) := fun z => (key s φ ψ hSt R hcv _ z).2.1 rfl
            have hvd : v.map φ ≠ some (ψ q) := fun z => (key s φ ψ hSt R hcv _ z).2.2 hH rfl
            have hM := c_add (l := l) (v := v.map φ) (f := f) (cap := cap) (n := cap) (mc' := 1) (ms' := cap + cap / 2) (Q3 := fun H1 => ∃ q', s.heap.size ≤ q' ∧ va_P G.1 kcl [jLI (φ q) (mc + 1) q' (nI (cap + 1)), jRO G q' (cap + cap / 2) (va_up (va_cpy f (fun _ => none) 0 0 cap) cap (v.map φ))] H1) hfz hfr (fun z => by
                simp only [List.map_cons, List.map_nil, List.mem_cons, List.not_mem_nil, or_false] at z
                rcases z with z | z
                · exact hva z
                · exact hvd z) (fun i hi z => by
                simp only [List.map_cons, List.map_nil, List.mem_cons, List.not_mem_nil, or_false] at z
                rcases z with z | z
                · exact (hro.2 i hi).1 z
                · exact (hro.2 i hi).2 hH z) (j_P2 p4 g1) (j_D2 (p7 hc).2 (Or.inl List.mem_cons_self) (Or.inl (List.mem_cons_of_mem _ List.mem_cons_self))) (fun H' hz' hP' => c_add3b (Nat.le_trans hfz hz') p6 (p7 hc).1 (p7 hc).2 hva hvd hP' (by omega) (by omega) hz')
            rw [← vv_rf] at hM
            refine ⟨_, [φ q, ψ q], _, ⟨hro.1, fun y hy => (key s φ ψ hSt R hcv y hy).1⟩, hfr, jm_le hM (by decide) (by decide), fun v1 H1 hq hz hk => ?_⟩
            obtain ⟨rfl, d, hd, hP⟩ := hq
            refine ⟨some (aI 1), _, rfl, rfl, fun w hw => by cases hw; trivial, hS_le, Hrel_hC (li_put (d' := d) (mc' := mc + 1) R hx (by unfold isX; dsimp only; omega) (by dsimp only; omega) p8 (by rw [if_neg (by omega), hla, ← hcap]; exact hP 0 _ rfl) (fun _ => ⟨_, hP 1 _ rfl, ?_⟩) (by rw [hla]; omega) (by omega) (by omega) hz (fun p hp h1 h2 => hk p hp (fun z => ?_)) (fun _ => Or.inr hd) (hokx s φ ψ _ R hcv).1 (hokx s φ ψ _ R hcv).2)⟩
            · have := add_row (v := v) (f' := va_cpy f (fun _ => none) 0 0 cap) g2 (fun j hj => by rw [pk_cpy_in (Nat.zero_le _) (by omega), Nat.sub_zero, Nat.zero_add])
              rw [← hcap] at this
              exact this
            · rcases List.mem_cons.mp z with z | z
              · exact h1 z
              · exact h2 hH (List.mem_singleton.mp z)
  · cases hr
theorem prim_is2 : ∀ a ∈ calA, 400 ≤ a → a ∈ [400, 401, 402, 403, 404, 405, 406, 407, 410, 412, 413, 415, 416] := by decide +kernel
theorem prims_all (l : Launch) (G : Geo) : PRIMS l G := by
  intro a ha h4 as h r1 hr
  refine ⟨prim_rc ha h4 hr, ?_⟩
  have := prim_is2 a ha h4
  simp only [List.mem_cons, List.not_mem_nil, or_false] at this
  rcases this with rfl | rfl | rfl | rfl | rfl | rfl | rfl | rfl | rfl | rfl | rfl | rfl | rfl
  · exact con_400 hr
  · exact con_401 hr
  · exact con_402 hr
  · exact con_403 hr
  · exact con_404 hr
  · exact con_405 hr
  · exact con_406 hr
  · exact con_407 hr
  · exact con_410 hr
  · exact con_412 hr
  · exact con_413 hr
  · exact con_415 hr
  · exact con_416 hr
end JPRIM3
