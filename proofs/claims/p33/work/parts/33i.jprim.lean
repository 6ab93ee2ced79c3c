/-! ===== lists: each primitive keeps its contract ===== -/
section JPRIM
variable {l : Launch} {G : Geo}
theorem li_of {h : Hp} {q : Nat × Nat} {cap : Nat} {xs : List AV} (e : liG h (some q) = some (cap, xs)) : ∃ x, hG h (some q) = some x ∧ 2000 ≤ x.1 ∧ x.1 < 1000000 ∧ x = (2000 + cap, xs) := by
  obtain ⟨x, h1, h2, h3, h4⟩ := liG_at e
  obtain ⟨h5, h6⟩ := Prod.mk.inj h4
  exact ⟨x, h1, h2, h3, Prod.ext (by dsimp only; omega) h6.symm⟩
set_option maxRecDepth 100000 in
theorem con_405 {as : List AV} {h : Hp} {r1 : Out × Hp} (hr : prim 405 as h = some r1) : CON l G 405 as h r1 := by
  simp only [prim] at hr
  split at hr
  · rename_i q
    cases e : liG h (some q) with
    | none => rw [e] at hr; cases hr
    | some r =>
      obtain ⟨cap, xs⟩ := r
      rw [e] at hr
      cases hr
      obtain ⟨x, hx, k1, k2, rfl⟩ := li_of e
      refine con_rd (y := jy_size) (cc := jc_size) (nL := 1) (ret := jr_size) rfl rfl ⟨rfl, rfl⟩ (fun hcl s φ ψ hSt R => ?_)
      obtain ⟨mc, p1, p2, p3, p4, -⟩ := li_pic R hx k1 k2
      exact ⟨jE0, trivial, jm_le (c_size (ws := []) (j_P1 p4)) (Nat.zero_le _) (Nat.zero_le _), trivial⟩
  · cases hr
set_option maxRecDepth 100000 in
theorem con_406 {as : List AV} {h : Hp} {r1 : Out × Hp} (hr : prim 406 as h = some r1) : CON l G 406 as h r1 := by
  simp only [prim] at hr
  split at hr
  · rename_i q
    cases e : liG h (some q) with
    | none => rw [e] at hr; cases hr
    | some r =>
      obtain ⟨cap, xs⟩ := r
      rw [e] at hr
      cases hr
      obtain ⟨x, hx, k1, k2, rfl⟩ := li_of e
      refine con_rd (y := jy_isE) (cc := jc_isE) (nL := 1) (ret := jr_isE) rfl rfl ⟨rfl, rfl⟩ (fun hcl s φ ψ hSt R => ?_)
      obtain ⟨mc, p1, p2, p3, p4, -⟩ := li_pic R hx k1 k2
      have e1 : (if nI xs.length = 0 then (1 : Int32) else 0) = if xs.length = 0 then 1 else 0 := by
        by_cases c0 : xs.length = 0
        · rw [if_pos c0, if_pos (by rw [c0]; rfl)]
        · rw [if_neg c0, if_neg (nI_ne0 (by omega) (by dsimp only at p1 p2; omega))]
      have hM := c_isE (l := l) (ws := []) (j_P1 p4)
      dsimp only at hM
      rw [e1] at hM
      exact ⟨jE0, trivial, jm_le hM (Nat.zero_le _) (Nat.zero_le _), trivial⟩
  · cases hr
theorem get_of {xs : List AV} {i : Int32} {v : Option (Nat × Nat)} (h : oR xs[i.toNatClampNeg]? = some v) : ∃ hj : i.toNatClampNeg < xs.length, xs[i.toNatClampNeg] = aR v := by
  have h1 := oR_eq h
  obtain ⟨hj, h2⟩ := List.getElem?_eq_some_iff.mp h1
  exact ⟨hj, h2⟩
set_option maxRecDepth 100000 in
theorem con_402 {as : List AV} {h : Hp} {r1 : Out × Hp} (hr : prim 402 as h = some r1) : CON l G 402 as h r1 := by
  simp only [prim] at hr
  split at hr
  · rename_i q i
    cases e : liG h (some q) with
    | none => rw [e] at hr; cases hr
    | some r =>
      obtain ⟨cap, xs⟩ := r
      rw [e] at hr
      dsimp only at hr
      split at hr
      · cases hr
      · rename_i h0
        obtain ⟨v, e1, e2⟩ := bind_some hr
        cases e2
        obtain ⟨x, hx, k1, k2, rfl⟩ := li_of e
        obtain ⟨hj, ej⟩ := get_of e1
        refine con_rd (y := jy_get) (cc := jc_get) (nL := 2) (ret := jr_get) rfl rfl ⟨rfl, rfl⟩ (fun hcl s φ ψ hSt R => ?_)
        obtain ⟨mc, p1, p2, p3, p4, p5, p6, p7, p8⟩ := li_pic R hx k1 k2
        dsimp only at p1 p2 p3 p4 p5 p6 p7
        rw [Nat.add_sub_cancel_left] at p1 p2 p3 p4 p5 p7
        have hc : cap ≠ 0 := by omega
        rw [if_neg hc] at p4
        obtain ⟨f, g1, g2⟩ := p5 hc
        obtain ⟨ei, hi2⟩ := ofI h0
        have ev : va_rf (f i.toNatClampNeg) = vv φ (aR v) := by rw [g2 _ hj, rowV_at hj, ej]
        have hM := c_get (l := l) (i := i) R.2.2.2.2.2.2.2.1 (j_P2 p4 g1) h0 (by rw [ei]; exact nI_lt hj (by omega)) (by rw [ei]; exact vp_in_nI (by omega) (by omega))
        rw [ev] at hM
        exact ⟨jE0, trivial, jm_le hM (by decide) (by decide), R.2.2.2.2.1 q _ hx _ (by rw [← ej]; exact List.getElem_mem hj)⟩
  · cases hr
set_option maxRecDepth 100000 in
theorem con_403 {as : List AV} {h : Hp} {r1 : Out × Hp} (hr : prim 403 as h = some r1) : CON l G 403 as h r1 := by
  simp only [prim] at hr
  split at hr
  · rename_i q i v
    cases e : liG h (some q) with
    | none => rw [e] at hr; cases hr
    | some r =>
      obtain ⟨cap, xs⟩ := r
      rw [e] at hr
      dsimp only at hr
      split at hr
      · cases hr
      · rename_i h00
        obtain ⟨w, e1, e2⟩ := bind_some hr
        cases e2
        have hob : okB h v = true := by cases z : okB h v; exact absurd (Or.inl z) h00; rfl
        have h0 : ¬ i < 0 := fun z => h00 (Or.inr z)
        obtain ⟨x, hx, k1, k2, rfl⟩ := li_of e
        obtain ⟨hj, ej⟩ := get_of e1
        refine con_jm (y := jy_set) (cc := jc_set) (nL := 4) (ret := jr_set) rfl rfl ⟨rfl, rfl⟩ (mc := 0) (ms := 0) (Nat.sub_self _) (Nat.sub_self _) (fun hcl s φ ψ hSt R => ?_)
        obtain ⟨mc, p1, p2, p3, p4, p5, p6, p7, p8⟩ := li_pic R hx k1 k2
        dsimp only at p1 p2 p3 p4 p5 p6 p7
        rw [Nat.add_sub_cancel_left] at p1 p2 p3 p4 p5 p7
        have hc : cap ≠ 0 := by omega
        rw [if_neg hc] at p4
        obtain ⟨f, g1, g2⟩ := p5 hc
        obtain ⟨ei, hi2⟩ := ofI h0
        have ev : va_rf (f i.toNatClampNeg) = vv φ (aR w) := by rw [g2 _ hj, rowV_at hj, ej]
        have hcv : clV h (aR v) := hcl _ (by simp)
        have hM := c_set (l := l) (i := i.toNatClampNeg) (v := v.map φ) R.2.2.2.2.2.2.2.1 p6 (p7 hc).1 (p7 hc).2 (j_P2 p4 g1) hj p1 p2
        rw [ev, ← ei, ← vv_rf] at hM
        refine ⟨_, [φ q, ψ q], _, ?_, fun p hp => ?_, jm_le hM (by decide) (by decide), fun v1 H1 hq hz hk => ?_⟩
        · refine ⟨fun i hi => absurd hi (Nat.not_lt_zero _), fun y hy => ?_⟩
          cases v with
          | none => cases hy
          | some q' =>
            cases hy
            exact el_any hSt R hcv (okB_E hob)
        · rcases List.mem_cons.mp hp with z | z
          · rw [z]; exact p6
          · rw [List.mem_singleton.mp z]; exact (p7 hc).1
        · obtain ⟨rfl, hP⟩ := hq
          refine ⟨some (aR w), _, rfl, rfl, fun w' hw' => ?_, hS_le, li_put (d' := ψ q) (mc' := mc) R hx (by unfold isX; dsimp only; omega) (by dsimp only; omega) p8 (by rw [if_neg hc, List.length_set]; exact hP 0 _ rfl) (fun _ => ⟨_, hP 1 _ rfl, fun j hj' => ?_⟩) (by rw [List.length_set]; exact p1) p2 p3 hz (fun p hp h1 h2 => hk p hp (fun z => ?_)) (fun _ => Or.inl ⟨by unfold isH; dsimp only; omega, rfl⟩) (fun u hu => ?_) (fun u hu => ?_)⟩
          · cases hw'
            exact clV_len hS_le (R.2.2.2.2.1 q _ hx _ (by rw [← ej]; exact List.getElem_mem hj))
          · rw [List.length_set] at hj'
            unfold va_up
            unfold rowV
            rw [List.getD_eq_getElem?_getD]
            by_cases c : j = i.toNatClampNeg
            · rw [if_pos c, c, List.getElem?_set_self hj]
              exact (vv_rf φ v).symm
            · rw [if_neg c, List.getElem?_set_ne (Ne.symm c), g2 j hj']
              unfold rowV
              rw [List.getD_eq_getElem?_getD]
          · rcases List.mem_cons.mp z with z | z
            · exact h1 z
            · exact h2 (by unfold isH; dsimp only; omega) (List.mem_singleton.mp z)
          · rcases List.mem_or_eq_of_mem_set hu with z | z
            · exact R.2.2.2.2.1 q _ hx u z
            · rw [z]; exact hcv
          · rcases List.mem_or_eq_of_mem_set hu with z | z
            · exact R.2.2.2.2.2.2.2.2 q _ hx k1 k2 u z
            · rw [z]; exact okB_E hob
  · cases hr
set_option maxRecDepth 100000 in
theorem con_404 {as : List AV} {h : Hp} {r1 : Out × Hp} (hr : prim 404 as h = some r1) : CON l G 404 as h r1 := by
  simp only [prim] at hr
  split at hr
  · rename_i q i
    cases e : liG h (some q) with
    | none => rw [e] at hr; cases hr
    | some r =>
      obtain ⟨cap, xs⟩ := r
      rw [e] at hr
      dsimp only at hr
      split at hr
      · cases hr
      · rename_i h0
        obtain ⟨w, e1, e2⟩ := bind_some hr
        cases e2
        obtain ⟨x, hx, k1, k2, rfl⟩ := li_of e
        obtain ⟨hj, ej⟩ := get_of e1
        obtain ⟨n, hn⟩ : ∃ n, xs.length = n + 1 := ⟨xs.length - 1, by omega⟩
        refine con_jm (y := jy_rem) (cc := jc_rem) (nL := 4) (ret := jr_rem) rfl rfl ⟨rfl, rfl⟩ (mc := 0) (ms := 0) (Nat.sub_self _) (Nat.sub_self _) (fun hcl s φ ψ hSt R => ?_)
        obtain ⟨mc, p1, p2, p3, p4, p5, p6, p7, p8⟩ := li_pic R hx k1 k2
        dsimp only at p1 p2 p3 p4 p5 p6 p7
        rw [Nat.add_sub_cancel_left] at p1 p2 p3 p4 p5 p7
        have hc : cap ≠ 0 := by omega
        rw [if_neg hc] at p4
        obtain ⟨f, g1, g2⟩ := p5 hc
        obtain ⟨ei, hi2⟩ := ofI h0
        have hro := row_ok hSt R hx k1 k2 g2
        dsimp only at hro
        have hH : isH (2000 + cap) := by unfold isH; omega
        have ev : va_rf (f i.toNatClampNeg) = vv φ (aR w) := by rw [g2 _ hj, rowV_at hj, ej]
        rw [hn] at p4 hro
        have hM := c_rem (l := l) (i := i.toNatClampNeg) (n := n) R.2.2.2.2.2.2.2.1 p6 (p7 hc).1 (p7 hc).2 (fun j hj => ⟨(hro.2 j hj).1, (hro.2 j hj).2 hH⟩) (j_P2 p4 g1) (by omega) (by omega) p2
        rw [ev, ← ei] at hM
        refine ⟨_, [φ q, ψ q], _, hro.1, fun p hp => ?_, jm_le hM (by decide) (by decide), fun v1 H1 hq hz hk => ?_⟩
        · rcases List.mem_cons.mp hp with z | z
          · rw [z]; exact p6
          · rw [List.mem_singleton.mp z]; exact (p7 hc).1
        · obtain ⟨rfl, hP⟩ := hq
          have hlen : (xs.eraseIdx i.toNatClampNeg).length = n := by rw [List.length_eraseIdx_of_lt hj, hn]; rfl
          refine ⟨some (aR w), _, rfl, rfl, fun w' hw' => ?_, hS_le, li_put (d' := ψ q) (mc' := mc + 1) R hx (by unfold isX; dsimp only; omega) (by dsimp only; omega) p8 (by rw [if_neg hc, hlen]; exact hP 0 _ rfl) (fun _ => ⟨_, hP 1 _ rfl, fun j hj' => ?_⟩) (by rw [hlen]; omega) p2 p3 hz (fun p hp h1 h2 => hk p hp (fun z => ?_)) (fun _ => Or.inl ⟨hH, rfl⟩) (fun u hu => ?_) (fun u hu => ?_)⟩
          · cases hw'
            exact clV_len hS_le (R.2.2.2.2.1 q _ hx _ (by rw [← ej]; exact List.getElem_mem hj))
          · rw [hlen] at hj'
            unfold va_up
            rw [if_neg (by omega)]
            unfold rowV
            rw [List.getD_eq_getElem?_getD, List.getElem?_eraseIdx]
            by_cases c : n ≤ i.toNatClampNeg
            · rw [if_pos c, if_pos (by omega), g2 j (by omega)]
              unfold rowV
              rw [List.getD_eq_getElem?_getD]
            · rw [if_neg c]
              by_cases c2 : j < i.toNatClampNeg
              · rw [if_pos c2, pk_cpy_out (Or.inl c2), g2 j (by omega)]
                unfold rowV
                rw [List.getD_eq_getElem?_getD]
              · rw [if_neg c2, pk_cpy_in (by omega) (by omega), show i.toNatClampNeg + 1 + (j - i.toNatClampNeg) = j + 1 by omega, g2 (j + 1) (by omega)]
                unfold rowV
                rw [List.getD_eq_getElem?_getD]
          · rcases List.mem_cons.mp z with z | z
            · exact h1 z
            · exact h2 hH (List.mem_singleton.mp z)
          · exact R.2.2.2.2.1 q _ hx u (List.mem_of_mem_eraseIdx hu)
          · exact R.2.2.2.2.2.2.2.2 q _ hx k1 k2 u (List.mem_of_mem_eraseIdx hu)
  · cases hr
set_option maxRecDepth 100000 in
theorem con_407 {as : List AV} {h : Hp} {r1 : Out × Hp} (hr : prim 407 as h = some r1) : CON l G 407 as h r1 := by
  simp only [prim] at hr
  split at hr
  · rename_i q
    cases e : liG h (some q) with
    | none => rw [e] at hr; cases hr
    | some r =>
      obtain ⟨cap, xs⟩ := r
      rw [e] at hr
      cases hr
      obtain ⟨x, hx, k1, k2, rfl⟩ := li_of e
      refine con_jm (y := jy_clr) (cc := jc_clr) (nL := 4) (ret := jr_clr) rfl rfl ⟨rfl, rfl⟩ (mc := 0) (ms := 0) (Nat.sub_self _) (Nat.sub_self _) (fun hcl s φ ψ hSt R => ?_)
      obtain ⟨mc, p1, p2, p3, p4, p5, p6, p7, p8⟩ := li_pic R hx k1 k2
      dsimp only at p1 p2 p3 p4 p5 p6 p7
      rw [Nat.add_sub_cancel_left] at p1 p2 p3 p4 p5 p7
      by_cases hc : cap = 0
      · have hx0 : xs.length = 0 := by omega
        rw [hx0] at p4
        refine ⟨jE0, [φ q], _, trivial, fun p hp => by rw [List.mem_singleton.mp hp]; exact p6, jm_le (c_clrE (l := l) R.2.2.2.2.2.2.2.1 p6 (j_P1 p4)) (by decide) (by decide), fun v1 H1 hq hz hk => ?_⟩
        obtain ⟨rfl, mc', hP⟩ := hq
        exact ⟨none, _, rfl, rfl, (fun _ hw => nomatch hw), hS_le, li_put (d' := ψ q) (mc' := mc') R hx (by unfold isX; dsimp only; omega) (by dsimp only; omega) p8 (hP 0 _ rfl) (fun z => absurd hc z) (Nat.zero_le _) p2 p3 hz (fun p hp h1 h2 => hk p hp (fun z => h1 (List.mem_singleton.mp z))) (fun z => absurd hc z) (fun u hu => nomatch hu) (fun u hu => nomatch hu)⟩
      · rw [if_neg hc] at p4
        obtain ⟨f, g1, g2⟩ := p5 hc
        have hH : isH (2000 + cap) := by unfold isH; omega
        refine ⟨jE0, [φ q, ψ q], _, trivial, fun p hp => ?_, jm_le (c_clr (l := l) R.2.2.2.2.2.2.2.1 (p7 hc).2 (j_P2 p4 g1) p1 p2) (by decide) (by decide), fun v1 H1 hq hz hk => ?_⟩
        · rcases List.mem_cons.mp hp with z | z
          · rw [z]; exact p6
          · rw [List.mem_singleton.mp z]; exact (p7 hc).1
        · obtain ⟨rfl, mc', f', hP⟩ := hq
          refine ⟨none, _, rfl, rfl, (fun _ hw => nomatch hw), hS_le, li_put (d' := ψ q) (mc' := mc') R hx (by unfold isX; dsimp only; omega) (by dsimp only; omega) p8 (by rw [if_neg hc]; exact hP 0 _ rfl) (fun _ => ⟨f', hP 1 _ rfl, fun j hj => absurd hj (Nat.not_lt_zero _)⟩) (Nat.zero_le _) p2 p3 hz (fun p hp h1 h2 => hk p hp (fun z => ?_)) (fun _ => Or.inl ⟨hH, rfl⟩) (fun u hu => nomatch hu) (fun u hu => nomatch hu)⟩
          rcases List.mem_cons.mp z with z | z
          · exact h1 z
          · exact h2 hH (List.mem_singleton.mp z)
  · cases hr
set_option maxRecDepth 100000 in
theorem con_400 {as : List AV} {h : Hp} {r1 : Out × Hp} (hr : prim 400 as h = some r1) : CON l G 400 as h r1 := by
  simp only [prim] at hr
  split at hr
  · rename_i q
    split at hr
    · rename_i hx
      cases hr
      refine con_jm (y := jy_lIn) (cc := jc_lIn) (nL := 1) (ret := jr_lIn) rfl rfl ⟨rfl, rfl⟩ (mc := 0) (ms := 0) (Nat.sub_self _) (Nat.sub_self _) (fun hcl s φ ψ hSt R => ?_)
      obtain ⟨z1, z2, hq0⟩ := R.obj hx (by decide)
      have hn : ¬ isX 21 := by unfold isX; omega
      have p6 : G.2.2.1 ≤ φ q := (R.2.2.1 q _ hx hn).2.1 hq0
      have hP : va_P G.1 kcl [jL0 (φ q) 0 .null 0] s.heap := j_P1 ⟨_, kcl_at (a := 21) (by decide), z2.to (fun i hi => by
        have hi : i < 3 := hi
        match i, hi with
        | 0, _ => rfl
        | 1, _ => rfl
        | 2, _ => rfl)⟩
      refine ⟨jE0, [φ q], _, trivial, fun p hp => by rw [List.mem_singleton.mp hp]; exact p6, jm_le (c_lIn (l := l) R.2.2.2.2.2.2.2.1 p6 hP) (by decide) (by decide), fun v1 H1 hq hz hk => ?_⟩
      obtain ⟨rfl, hP1⟩ := hq
      exact ⟨none, _, rfl, rfl, (fun _ hw => nomatch hw), hS_le, li_put (cap' := 0) (d' := 0) (mc' := 0) (xs' := []) R hx hn (by decide) hq0 (hP1 0 _ rfl) (fun z => absurd rfl z) (Nat.zero_le _) (by decide) (by decide) hz (fun p hp h1 h2 => hk p hp (fun z => h1 (List.mem_singleton.mp z))) (fun z => absurd rfl z) (fun u hu => nomatch hu) (fun u hu => nomatch hu)⟩
    · cases hr
  · cases hr
end JPRIM
