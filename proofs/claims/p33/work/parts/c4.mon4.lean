/-! ===== money and holds: a RECORD, money that goes back ===== -/
theorem t64 (x : Int32) : x.toInt64.toInt = x.toInt := Int32.toInt_toInt64 x
theorem acct_lt {a b : TS} (hR : R0 a b) {cd t : Nat} (hcd : cd < tZ a 28 0) (ht : t < 8) (h : tI b 86 0 (10 * cd + 9) = Int32.ofNat t) : t < tZ a 26 0 := by
  obtain ⟨t', t1, t2, t3⟩ := card_acct hR hcd
  rw [h] at t2
  have := o_inj (by omega) (by omega) t2
  omega
theorem MonI_rec {a a' b b' : TS} {D n cd c sh : Nat} {put : Nat → Int64} {m st by' : Int32} (hR : R0 a b) (hb : 0 ≤ m.toInt ∧ m.toInt ≤ 100000) (h : MonI a b D put) (hf : FrM a a' b b') (hn : n < 1000) (hcd : cd < tZ a 28 0) (hsh : sh < tZ a 27 0) (hP : RecP b b' n cd c sh m st by') : MonI a' b' D put := by
  have hB := (r_B hR).1
  have hC := (r_C hR).1
  obtain ⟨hs, h29, h97, h91, h45⟩ := id hf
  rcases hP with ⟨-, hN⟩ | ⟨-, -, vI, vA, v43, v44, v46, v12, -⟩ | ⟨h8, -, t, t8, tc, vI, vA, -, v43, v44, v46, v12, -⟩
  · exact MonI_NoCh hR h hf hN
  · refine MonI_c hR h hs (fun k f hk hff => ?_) (fun k f hk => vA k 64 f hk (by simp)) h97 v12 h91 h45 (fun u hu => v43 u (by omega)) (fun u hu => v44 u (by omega)) v46
    rw [vI k f hk, if_neg (fun q => by omega)]
  · have tA := acct_lt hR hcd t8 tc
    have e12 : hI b' n 12 = 0 := by rw [vI n 12 hn]; simp
    have e8 : hI b' n 8 = 1 := by rw [vI n 8 hn]; simp
    have e16 : hI b' n 16 = m := by rw [vI n 16 hn]; simp
    have e15 : hI b' n 15 = tI b 94 0 11 := by rw [vI n 15 hn]; simp
    have a2 : hA b' n 64 2 = m := by rw [vA n 2 hn]; simp
    have a0 : hA b' n 64 0 = Int32.ofNat cd := by rw [vA n 0 hn]; simp
    have o15 : tI b 94 0 11 = tI b 97 0 6 := by
      have hH := hR.2.2.2.2.2.2.2.2.2.2.2.2.1
      exact hH.2.1.2
    have e8' : hI b' n 8 ≠ 0 := by rw [e8]; decide
    have epm : pmI b' n = m.toInt := by unfold pmI; rw [if_pos e8', a2]
    have opm : pmI b n = 0 := by unfold pmI; rw [if_neg (fun q => q h8)]
    have o16 := ((h.2.1 n hn).1 h8).2
    have olm : lmI b n = 0 := by unfold lmI; rw [o16]; rfl
    have elm : lmI b' n = m.toInt := by unfold lmI; rw [e16]
    refine MonI_p (p := n) (t := t) (sh := sh) (dd := m.toInt64) (dI := m.toInt) hR h hs h29 hn tA hsh (fun k f hk hne => ?_) (fun k f hk hne => ?_) h97 h91 h45 (fun u hu => v43 u (by omega)) v46 (fun q => absurd e12 q) ?_ (Or.inr ⟨v12, h8, e8'⟩) (fun u hu => ?_) (fun u hu => ?_) (t64 m) (by omega) (by rw [epm, opm]; unfold psI; split <;> omega) (by rw [epm, opm, elm, olm]; unfold psI; split <;> omega)
    · rw [vI k f hk]; simp [hne]
    · rw [vA k f hk]; simp [hne]
    · refine ⟨fun q => absurd q e8', fun _ => ⟨⟨D, by rw [e15, o15]; exact h.2.2.1.1, Nat.le_refl _⟩, ?_⟩⟩
      rw [e16, a2]
      exact Int.le_refl _
    · rw [v44 u (by omega), ctH_old e12]
      unfold ctH
      by_cases q : hI b n 12 = 0
      · rw [if_neg (fun w => w.1 q), if_pos q]; simp
      · rw [if_neg q]
        by_cases q2 : hI b n 13 = Int32.ofNat u
        · rw [if_pos ⟨q, q2⟩, if_pos q2]; grind
        · rw [if_neg (fun w => q2 w.2), if_neg q2]; simp
    · have el : lac b' n = Int32.ofNat t := by
        unfold lac
        rw [a0, o_ix (by omega), hs.2.2 cd hcd, tc]
      unfold ctL
      rw [el, e16, o16]
      by_cases e : u = t
      · rw [if_pos (by rw [e]), if_pos e]; simp
      · rw [if_neg (fun w => e (o_inj (by omega) (by omega) w.symm)), if_neg e]; simp
/-- some of what was posted goes back -/
theorem MonI_gb {a a' b b' : TS} {D p k t sh : Nat} {put : Nat → Int64} {g : Int32} (hR : R0 a b) (h : MonI a b D put) (hf : FrM a a' b b') (hp : p < 1000) (h8 : hI b p 8 ≠ 0) (hk : k < 8) (ht : t < 8) (a0 : hA b p 64 0 = Int32.ofNat k) (tc : tI b 86 0 (10 * k + 9) = Int32.ofNat t) (hsh : sh < tZ a 27 0)
    (hg : 0 ≤ g.toInt ∧ g.toInt ≤ (hI b p 16).toInt) (e16 : (hI b' p 16).toInt = (hI b p 16).toInt - g.toInt)
    (vI : ∀ n f, n < 1000 → ¬ (n = p ∧ (f = 16 ∨ f = 11)) → hI b' n f = hI b n f) (vA : ∀ n f, n < 1000 → hA b' n 64 f = hA b n 64 f)
    (v43 : ∀ u, tL b' 43 0 u = if u = t then tL b 43 0 u + g.toInt64 else tL b 43 0 u) (v46 : ∀ u, tL b' 46 0 u = if u = sh then tL b 46 0 u - g.toInt64 else tL b 46 0 u) (v44 : ∀ u, tL b' 44 0 u = tL b 44 0 u) (v12 : tI b' 94 0 12 = tI b 94 0 12) : MonI a' b' D put := by
  have hB := (r_B hR).1
  obtain ⟨hs, h29, h97, h91, h45⟩ := id hf
  obtain ⟨k', k1, k2, k3⟩ := pos_card hR hp h8
  have kk : k = k' := o_inj (by omega) (by omega) (a0.symm.trans k2)
  subst kk
  have tA := acct_lt hR k1 ht tc
  have hb := pm_at hR hp
  have epm : pmI b' p = pmI b p := by unfold pmI; rw [vI p 8 hp (by omega), vA p 2 hp]
  have hB2 := h.2.1 p hp
  have opm : pmI b p = (hA b p 64 2).toInt := if_pos h8
  have hle := (hB2.2 h8).2
  have elm : lmI b' p - lmI b p = -g.toInt := by unfold lmI; omega
  have edd : (-(g.toInt64)).toInt = -g.toInt := by
    have e : -(g.toInt64) = 0 - g.toInt64 := by simp
    rw [e, Int64.toInt_sub, t64]
    have : (0 : Int64).toInt = 0 := rfl
    rw [this, Int.zero_sub]
    exact Int.bmod_eq_of_le (by omega) (by omega)
  have e8 := vI p 8 hp (by omega)
  refine MonI_p (p := p) (t := t) (sh := sh) (dd := -(g.toInt64)) (dI := -g.toInt) hR h hs h29 hp tA hsh (fun n f hn hne => vI n f hn (fun q => hne q.1)) (fun n f hn _ => vA n f hn) h97 h91 h45 (fun u hu => ?_) (fun u => ?_) (fun h12 => ?_) ?_ (Or.inl ⟨v12, by rw [e8]⟩) (fun u hu => ?_) (fun u hu => ?_) edd (by omega) (by rw [epm]; unfold psI; split <;> omega) (by rw [epm, elm]; unfold psI; split <;> omega)
  · rw [v43]; split <;> grind
  · rw [v46]; split <;> grind
  · rw [vI p 12 hp (by omega)] at h12
    exact absurd (h.1 p hp h12).1 h8
  · refine ⟨fun q => absurd (e8.symm.trans q) h8, fun _ => ⟨?_, ?_⟩⟩
    · rw [vI p 15 hp (by omega)]
      exact (hB2.2 h8).1
    · rw [vA p 2 hp]; omega
  · have : ctH b' u p = ctH b u p := by unfold ctH; rw [vI p 12 hp (by omega), vI p 13 hp (by omega)]
    rw [this, v44]
    grind
  · have el : lac b' p = lac b p := lac_c hR hs hp h8 (vA p 0 hp)
    have el2 : lac b p = Int32.ofNat t := by unfold lac; rw [a0, o_ix (by omega), tc]
    have e16' : (hI b' p 16).toInt64 = (hI b p 16).toInt64 + -(g.toInt64) := by
      apply Int64.toInt_inj.mp
      rw [i64_add edd (by rw [t64]; omega) (by rw [t64]; omega), t64, t64, e16]
      omega
    unfold ctL
    rw [el, el2]
    by_cases e : u = t
    · rw [if_pos (by rw [e]), if_pos (by rw [e]), if_pos e, e16']
    · rw [if_neg (fun w => e (o_inj (by omega) (by omega) w.symm)), if_neg (fun w => e (o_inj (by omega) (by omega) w.symm)), if_neg e]; rfl
theorem MonI_bm {a a' b b' : TS} {D p sh n : Nat} {put : Nat → Int64} {m : Int32} (hR : R0 a b) (h : MonI a b D put) (hf : FrM a a' b b') (hp : p < 1000) (hsh : sh < tZ a 27 0) (hm : ¬ m < 0) (hP : BmP b b' p sh n m) (v44 : ∀ u, tL b' 44 0 u = tL b 44 0 u) (v12 : tI b' 94 0 12 = tI b 94 0 12) : MonI a' b' D put := by
  obtain ⟨t, w, vI, vA, v43, v46, -⟩ := hP
  have vA' : ∀ n f, n < 1000 → hA b' n 64 f = hA b n 64 f := fun n f hn => vA n 64 f hn (by simp)
  by_cases q : BmA b p sh n m = true
  · obtain ⟨k, k1, k2, k3, k4⟩ := w q
    obtain ⟨-, q8, -, q16⟩ := BmA_i.mp q
    have hnn := left_nn hR hp
    rw [Int32.lt_iff_toInt_lt] at hm q16
    have hm : ¬ m.toInt < 0 := hm
    have hb := pm_at hR hp
    have hle := ((h.2.1 p hp).2 q8).2
    have opm : pmI b p = (hA b p 64 2).toInt := if_pos q8
    refine MonI_gb (g := m) hR h hf hp q8 k3 k4 k1 k2 hsh ⟨by omega, by omega⟩ ?_ (fun n' f hn' hne => ?_) vA' (fun u => ?_) (fun u => ?_) v44 v12
    · rw [vI p 16 hp, if_pos ⟨q, rfl, rfl⟩, Int32.toInt_sub]
      exact Int.bmod_eq_of_le (by omega) (by omega)
    · rw [vI n' f hn', if_neg (fun e => hne ⟨e.2.1, Or.inl e.2.2⟩)]
    · rw [v43]; simp [q]
    · rw [v46]; simp [q]
  · obtain ⟨hs, -, h97, h91, h45⟩ := hf
    exact MonI_c hR h hs (fun k f hk _ => by rw [vI k f hk, if_neg (fun e => q e.1)]) vA' h97 v12 h91 h45 (fun u _ => by rw [v43, if_neg (fun e => q e.1)]) (fun u _ => v44 u) (fun u => by rw [v46, if_neg (fun e => q e.1)])
theorem MonI_dsp {a a' b b' : TS} {D p : Nat} {put : Nat → Int64} (hR : R0 a b) (h : MonI a b D put) (hf : FrM a a' b b') (hp : p < 1000) (h8 : hI b p 8 ≠ 0) (hP : DspP b b' p) (v44 : ∀ u, tL b' 44 0 u = tL b 44 0 u) (v12 : tI b' 94 0 12 = tI b 94 0 12) : MonI a' b' D put := by
  obtain ⟨k, t, s, k8, t8, s4, a0, tc, a14, vI, vA, v43, v46⟩ := hP
  obtain ⟨r, r1, -, -, -, r5, -⟩ := (r_Z hR).2 p hp h8
  obtain ⟨-, -, -, ⟨s', s1, -, s3⟩, -⟩ := (r_P' hR).2.2.2.2.1 r r1
  have hS := (r_S hR).1
  have ss : s = s' := o_inj (by omega) (by omega) (a14.symm.trans (r5.trans s3))
  subst ss
  have hnn := left_nn hR hp
  refine MonI_gb (g := hI b p 16) hR h hf hp h8 k8 t8 a0 tc s1 ⟨hnn, Int.le_refl _⟩ ?_ (fun n' f hn' hne => ?_) (fun n f hn => vA n 64 f hn (by simp)) v43 v46 v44 v12
  · rw [vI p 16 hp, if_pos ⟨rfl, rfl⟩, Int.sub_self]; rfl
  · rw [vI n' f hn', if_neg (fun e => hne ⟨e.1, Or.inl e.2⟩), if_neg (fun e => hne ⟨e.1, Or.inr e.2⟩)]
