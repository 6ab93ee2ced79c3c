theorem Hrel.put {G : Geo} {U : State} {φ ψ : Nat × Nat → Nat} {h : Hp} {H H1 : Heap} (R : Hrel G U φ ψ h H) {q0 : Nat × Nat} {x0 x1 : OC} {d1 : Nat} (h0 : hG h (some q0) = some x0) (hq0 : q0.1 ≠ 0) (hx0 : ¬ isX x0.1) (hx1 : ¬ isX x1.1)
    (hsz : H.size ≤ H1.size) (hk : ∀ q, q < H.size → q ≠ φ q0 → (isH x0.1 → q ≠ ψ q0) → H1[q]? = H[q]?) (hd : isH x1.1 → d1 < H1.size ∧ (isH x0.1 ∧ d1 = ψ q0 ∨ H.size ≤ d1)) (hr : cellRep G U φ x1 d1 (φ q0) H1) (hc : ∀ v ∈ x1.2, clV h v) (hli : (x0.1 < 21 → x1.1 < 21) ∧ (2000 ≤ x1.1 → x1.1 < 1000000 → ∀ v ∈ x1.2, okE h v)) :
    Hrel G U φ (up2 ψ q0 d1) (hS h q0 x1) H1 := by
  obtain ⟨r1, r2, r3, r4, r5, r6, r7, r8, r9⟩ := R
  have hg := hS_get x1 (hG_lt h0)
  have hlive : ∀ q x, hG (hS h q0 x1) (some q) = some x → ∃ x', hG h (some q) = some x' ∧ (q ≠ q0 → x' = x) := by
    intro q x e
    rw [hg] at e
    by_cases c : q = q0
    · exact ⟨x0, by rw [c]; exact h0, fun z => absurd c z⟩
    · rw [if_neg c] at e
      exact ⟨x, e, fun _ => rfl⟩
  have hnx : ∀ q x, hG (hS h q0 x1) (some q) = some x → ¬ isX x.1 → ∃ x', hG h (some q) = some x' ∧ ¬ isX x'.1 := by
    intro q x e n
    obtain ⟨x', e1, e2⟩ := hlive q x e
    by_cases c : q = q0
    · subst c
      rw [h0] at e1
      cases e1
      exact ⟨_, h0, hx0⟩
    · exact ⟨x', e1, by rw [e2 c]; exact n⟩
  have hclv : ∀ v, clV h v → clV (hS h q0 x1) v := fun v hv => clV_len (fun s => Nat.le_of_eq (hS_len h q0 x1 s).symm) hv
  refine ⟨fun q x e => ?_, fun q q' x x' e e' n n' hφ => ?_, fun q x e n => ?_, fun q x e n => ?_, fun q x e v hv => ?_, r6, fun q x e z => ?_, Nat.le_trans r8 hsz, fun q x e k1 k2 v hv => ?_⟩
  · rw [hg] at e
    by_cases c : q = q0
    · subst c
      rw [if_pos rfl] at e
      cases e
      unfold up2
      rw [if_pos rfl]
      exact hr
    · rw [if_neg c] at e
      unfold up2
      rw [if_neg c]
      have ne : ¬ isX x.1 → φ q ≠ φ q0 := fun n z => c (r2 q q0 x x0 e h0 n hx0 z)
      refine cellRep_kept (r1 q x e) (r5 q x e) (fun _ _ => rfl) (fun n => ?_) (fun n => ?_) (fun p hp hb => ?_)
      · exact hk _ (r3 q x e n).1 (ne n) (fun n0 z => (r4 q0 x0 h0 n0).2.2.1 q x e n z)
      · have nx : ¬ isX x.1 := fun z => by unfold isX at z; unfold isH at n; omega
        exact hk _ (r4 q x e n).1 (fun z => (r4 q x e n).2.2.1 q0 x0 h0 hx0 z.symm) (fun n0 z => c ((r4 q x e n).2.2.2 q0 x0 h0 n0 z))
      · refine hk p hp (fun z => ?_) (fun n0 z => ?_)
        · have := (r3 q0 x0 h0 hx0).2.1 hq0
          omega
        · have := (r4 q0 x0 h0 n0).2.1
          omega
  · obtain ⟨y, e1, e2⟩ := hnx q x e n
    obtain ⟨y', e1', e2'⟩ := hnx q' x' e' n'
    exact r2 q q' y y' e1 e1' e2 e2' hφ
  · obtain ⟨y, e1, e2⟩ := hnx q x e n
    have := r3 q y e1 e2
    exact ⟨by omega, this.2⟩
  · rw [hg] at e
    have hφz : ∀ q' x', hG (hS h q0 x1) (some q') = some x' → ¬ isX x'.1 → φ q' < H.size := by
      intro q' x' e' n'
      obtain ⟨y, e1, e2⟩ := hnx q' x' e' n'
      exact (r3 q' y e1 e2).1
    have hhz : ∀ q' x', q' ≠ q0 → hG (hS h q0 x1) (some q') = some x' → hG h (some q') = some x' := by
      intro q' x' c e'
      rw [hg, if_neg c] at e'
      exact e'
    by_cases c : q = q0
    · subst c
      rw [if_pos rfl] at e
      cases e
      obtain ⟨d2, d3⟩ := hd n
      unfold up2
      rw [if_pos rfl]
      rcases d3 with ⟨n0, d3⟩ | d3
      · have q4 := r4 q x0 h0 n0
        refine ⟨d2, by rw [d3]; exact q4.2.1, fun q' x' e' n' => ?_, fun q' x' e' n' => ?_⟩
        · obtain ⟨y, e1, e2⟩ := hnx q' x' e' n'
          rw [d3]
          exact q4.2.2.1 q' y e1 e2
        · by_cases c' : q' = q
          · exact fun _ => c'.symm
          · rw [if_neg c', d3]
            exact q4.2.2.2 q' x' (hhz q' x' c' e') n'
      · refine ⟨d2, by omega, fun q' x' e' n' => ?_, fun q' x' e' n' => ?_⟩
        · have := hφz q' x' e' n'
          omega
        · by_cases c' : q' = q
          · exact fun _ => c'.symm
          · rw [if_neg c']
            have := (r4 q' x' (hhz q' x' c' e') n').1
            omega
    · rw [if_neg c] at e
      have q4 := r4 q x e n
      unfold up2
      rw [if_neg c]
      refine ⟨by omega, q4.2.1, fun q' x' e' n' => ?_, fun q' x' e' n' => ?_⟩
      · obtain ⟨y, e1, e2⟩ := hnx q' x' e' n'
        exact q4.2.2.1 q' y e1 e2
      · by_cases c' : q' = q0
        · subst c'
          rw [if_pos rfl]
          rw [hg, if_pos rfl] at e'
          cases e'
          obtain ⟨d2, d3⟩ := hd n'
          rcases d3 with ⟨n0, d3⟩ | d3
          · rw [d3]
            exact q4.2.2.2 q' x0 h0 n0
          · omega
        · rw [if_neg c']
          exact q4.2.2.2 q' x' (hhz q' x' c' e') n'
  · rw [hg] at e
    by_cases c : q = q0
    · rw [if_pos c] at e
      cases e
      exact hclv v (hc v hv)
    · rw [if_neg c] at e
      exact hclv v (r5 q x e v hv)
  · rw [hg] at e
    by_cases c : q = q0
    · subst c
      exact absurd z hq0
    · rw [if_neg c] at e
      exact r7 q x e z
  · have hv0 : okE h v := by
      rw [hg] at e
      by_cases c : q = q0
      · rw [if_pos c] at e
        cases e
        exact hli.2 k1 k2 v hv
      · rw [if_neg c] at e
        exact r9 q x e k1 k2 v hv
    intro q' y e1 e2
    rw [hg] at e2
    by_cases c : q' = q0
    · rw [if_pos c] at e2
      cases e2
      subst c
      exact hli.1 (hv0 q' x0 e1 h0)
    · rw [if_neg c] at e2
      exact hv0 q' y e1 e2
theorem Hrel.new {G : Geo} {U : State} {φ ψ : Nat × Nat → Nat} {h : Hp} {H H1 : Heap} (R : Hrel G U φ ψ h H) {site : Nat} {x1 : OC} {n : Nat} (hs : site ≠ 0) (hx1 : ¬ isX x1.1) (hh1 : ¬ isH x1.1)
    (hsz : H1.size = H.size + 1) (hk : ∀ q, q < H.size → H1[q]? = H[q]?) (hr : cellRep G U φ x1 0 H.size H1) (hc : ∀ v ∈ x1.2, clV h v) :
    Hrel G U (up2 φ (site, (h.1 site).length) H.size) ψ (hN h site x1 n) H1 := by
  obtain ⟨r1, r2, r3, r4, r5, r6, r7, r8, r9⟩ := R
  have hg := hN_get h site x1 n
  have hφ : ∀ q : Nat × Nat, q.2 < (h.1 q.1).length → up2 φ (site, (h.1 site).length) H.size q = φ q := by
    intro q hq
    unfold up2
    rw [if_neg]
    intro z
    subst z
    exact Nat.lt_irrefl _ hq
  have hclv : ∀ v, clV h v → clV (hN h site x1 n) v := fun v hv => clV_len (fun s => by rw [hN_len]; omega) hv
  have hold : ∀ q x, hG (hN h site x1 n) (some q) = some x → q ≠ (site, (h.1 site).length) → hG h (some q) = some x := fun q x e c => by
    rw [hg, if_neg c] at e
    exact e
  have hnew : ∀ x, hG (hN h site x1 n) (some (site, (h.1 site).length)) = some x → x = x1 := fun x e => by
    rw [hg, if_pos rfl] at e
    exact (Option.some.inj e).symm
  refine ⟨fun q x e => ?_, fun q q' x x' e e' n1 n2 hz => ?_, fun q x e n1 => ?_, fun q x e n1 => ?_, fun q x e v hv => ?_, fun k => ?_, fun q x e z => ?_, by omega, fun q x e k1 k2 v hv => ?_⟩
  · by_cases c : q = (site, (h.1 site).length)
    · subst c
      rw [hnew x e]
      have hz : up2 φ (site, (h.1 site).length) H.size (site, (h.1 site).length) = H.size := by unfold up2; rw [if_pos rfl]
      rw [hz]
      have hd : ∀ d, cellRep G U (up2 φ (site, (h.1 site).length) H.size) x1 d H.size H1 := by
        intro d
        have := cellRep_kept (H1 := H1) hr hc hφ (fun _ => rfl) (fun z => absurd z hh1) (fun _ _ _ => rfl)
        unfold cellRep at this ⊢
        unfold isH at hh1
        split
        · rename_i c; rw [if_pos c] at this; exact this
        · rename_i c; rw [if_neg c] at this
          split
          · trivial
          · rename_i c; rw [if_neg c] at this
            split
            · rename_i c; rw [if_pos c] at this; exact this
            · rename_i c; rw [if_neg c] at this
              split
              · rename_i c; rw [if_pos c] at this; exact this
              · rename_i c; rw [if_neg c] at this
                split
                · rename_i c; rw [if_pos c] at this
                  have hk0 : x1.1 - 2000 = 0 := by omega
                  rw [hk0] at this ⊢
                  obtain ⟨mc, h1, h2, h3, h4⟩ := this
                  exact ⟨mc, h1, h2, h3, fun z => absurd rfl z⟩
                · omega
      exact hd _
    · have e1 := hold q x e c
      rw [hφ q (hG_lt e1)]
      exact cellRep_kept (r1 q x e1) (r5 q x e1) hφ (fun nx => hk _ (r3 q x e1 nx).1) (fun nh => hk _ (r4 q x e1 nh).1) (fun p hp _ => hk p hp)
  · by_cases c : q = (site, (h.1 site).length)
    · by_cases c' : q' = (site, (h.1 site).length)
      · rw [c, c']
      · have e1 := hold q' x' e' c'
        have := (r3 q' x' e1 n2).1
        rw [hφ q' (hG_lt e1), c] at hz
        unfold up2 at hz
        rw [if_pos rfl] at hz
        omega
    · have e1 := hold q x e c
      rw [hφ q (hG_lt e1)] at hz
      by_cases c' : q' = (site, (h.1 site).length)
      · have := (r3 q x e1 n1).1
        rw [c'] at hz
        unfold up2 at hz
        rw [if_pos rfl] at hz
        omega
      · have e2 := hold q' x' e' c'
        rw [hφ q' (hG_lt e2)] at hz
        exact r2 q q' x x' e1 e2 n1 n2 hz
  · by_cases c : q = (site, (h.1 site).length)
    · subst c
      have hz : up2 φ (site, (h.1 site).length) H.size (site, (h.1 site).length) = H.size := by unfold up2; rw [if_pos rfl]
      rw [hz]
      exact ⟨by omega, fun _ => r8, fun z => absurd z hs⟩
    · have e1 := hold q x e c
      rw [hφ q (hG_lt e1)]
      have := r3 q x e1 n1
      exact ⟨by omega, this.2⟩
  · by_cases c : q = (site, (h.1 site).length)
    · subst c
      rw [hnew x e] at n1
      exact absurd n1 hh1
    · have e1 := hold q x e c
      have q4 := r4 q x e1 n1
      refine ⟨by omega, q4.2.1, fun q' x' e' n' => ?_, fun q' x' e' n' => ?_⟩
      · by_cases c' : q' = (site, (h.1 site).length)
        · rw [c']
          unfold up2
          rw [if_pos rfl]
          omega
        · have e2 := hold q' x' e' c'
          rw [hφ q' (hG_lt e2)]
          exact q4.2.2.1 q' x' e2 n'
      · by_cases c' : q' = (site, (h.1 site).length)
        · subst c'
          rw [hnew x' e'] at n'
          exact absurd n' hh1
        · exact q4.2.2.2 q' x' (hold q' x' e' c') n'
  · by_cases c : q = (site, (h.1 site).length)
    · subst c
      rw [hnew x e] at hv
      exact hclv v (hc v hv)
    · exact hclv v (r5 q x (hold q x e c) v hv)
  · unfold up2
    rw [if_neg (fun z => hs (congrArg Prod.fst z).symm)]
    exact r6 k
  · by_cases c : q = (site, (h.1 site).length)
    · subst c
      exact absurd z hs
    · exact r7 q x (hold q x e c) z
  · by_cases c : q = (site, (h.1 site).length)
    · subst c
      have ex := hnew x e
      subst ex
      have e0 : x.1 = 2000 := by unfold isH at hh1; omega
      unfold cellRep at hr
      rw [if_neg (by omega), if_neg (by omega), if_neg (by omega), if_neg (by omega), if_pos (by omega)] at hr
      obtain ⟨mc, h1, -⟩ := hr
      rw [e0] at h1
      have := List.length_pos_of_mem hv
      omega
    · intro q' y e1 e2
      have hcl := r5 q x (hold q x e c) v hv
      rw [e1] at hcl
      have c' : q' ≠ (site, (h.1 site).length) := fun z => by
        rw [z] at hcl
        exact Nat.lt_irrefl _ hcl
      exact r9 q x (hold q x e c) k1 k2 v hv q' y e1 (hold q' y e2 c')
theorem hX_len (h : Hp) (e s : Nat) : ((hX h e).1 s).length = (h.1 s).length + (if s = 300 then 1 else 0) := by
  have := hN_len h 300 (e, []) 0 s
  exact this
theorem Hrel.exc {G : Geo} {U : State} {φ ψ : Nat × Nat → Nat} {h : Hp} {H : Heap} (R : Hrel G U φ ψ h H) {e : Nat} (he : isX e) (a : Nat) : Hrel G U (up2 φ (300, (h.1 300).length) a) ψ (hX h e) H := by
  obtain ⟨r1, r2, r3, r4, r5, r6, r7, r8, r9⟩ := R
  have hg : ∀ q, hG (hX h e) (some q) = if q = (300, (h.1 300).length) then some (e, []) else hG h (some q) := fun q => hN_get h 300 (e, []) 0 q
  have hφ : ∀ q : Nat × Nat, q.2 < (h.1 q.1).length → up2 φ (300, (h.1 300).length) a q = φ q := by
    intro q hq
    unfold up2
    rw [if_neg]
    intro z
    subst z
    exact Nat.lt_irrefl _ hq
  have hclv : ∀ v, clV h v → clV (hX h e) v := fun v hv => clV_len (fun s => by rw [hX_len]; omega) hv
  have hold : ∀ q x, hG (hX h e) (some q) = some x → q ≠ (300, (h.1 300).length) → hG h (some q) = some x := fun q x e c => by
    rw [hg, if_neg c] at e
    exact e
  have hnew : ∀ q x, hG (hX h e) (some q) = some x → ¬ isX x.1 → q ≠ (300, (h.1 300).length) := fun q x e0 n c => by
    rw [hg, if_pos c] at e0
    cases e0
    exact n he
  have hH : ∀ k, isH k → ¬ isX k := fun k a b => by unfold isH at a; unfold isX at b; omega
  refine ⟨fun q x e0 => ?_, fun q q' x x' e0 e' n1 n2 hz => ?_, fun q x e0 n1 => ?_, fun q x e0 n1 => ?_, fun q x e0 v hv => ?_, fun k => ?_, fun q x e0 z => ?_, r8, fun q x e0 k1 k2 v hv => ?_⟩
  · by_cases c : q = (300, (h.1 300).length)
    · rw [hg, if_pos c] at e0
      cases e0
      unfold cellRep isX at *
      dsimp only
      rw [if_neg (by omega), if_pos (by omega)]
      trivial
    · have e1 := hold q x e0 c
      rw [hφ q (hG_lt e1)]
      exact cellRep_kept (r1 q x e1) (r5 q x e1) hφ (fun _ => rfl) (fun _ => rfl) (fun _ _ _ => rfl)
  · have e1 := hold q x e0 (hnew q x e0 n1)
    have e2 := hold q' x' e' (hnew q' x' e' n2)
    rw [hφ q (hG_lt e1), hφ q' (hG_lt e2)] at hz
    exact r2 q q' x x' e1 e2 n1 n2 hz
  · have e1 := hold q x e0 (hnew q x e0 n1)
    rw [hφ q (hG_lt e1)]
    exact r3 q x e1 n1
  · have e1 := hold q x e0 (hnew q x e0 (hH _ n1))
    have q4 := r4 q x e1 n1
    refine ⟨q4.1, q4.2.1, fun q' x' e' n' => ?_, fun q' x' e' n' => ?_⟩
    · have e2 := hold q' x' e' (hnew q' x' e' n')
      rw [hφ q' (hG_lt e2)]
      exact q4.2.2.1 q' x' e2 n'
    · exact q4.2.2.2 q' x' (hold q' x' e' (hnew q' x' e' (hH _ n'))) n'
  · by_cases c : q = (300, (h.1 300).length)
    · rw [hg, if_pos c] at e0
      cases e0
      cases hv
    · exact hclv v (r5 q x (hold q x e0 c) v hv)
  · unfold up2
    rw [if_neg (fun z => by cases congrArg Prod.fst z)]
    exact r6 k
  · by_cases c : q = (300, (h.1 300).length)
    · subst c
      cases z
    · exact r7 q x (hold q x e0 c) z
  · by_cases c : q = (300, (h.1 300).length)
    · rw [hg, if_pos c] at e0
      cases e0
      cases hv
    · intro q' y e1 e2
      have hcl := r5 q x (hold q x e0 c) v hv
      rw [e1] at hcl
      have c' : q' ≠ (300, (h.1 300).length) := fun z => by
        rw [z] at hcl
        exact Nat.lt_irrefl _ hcl
      exact r9 q x (hold q x e0 c) k1 k2 v hv q' y e1 (hold q' y e2 c')
