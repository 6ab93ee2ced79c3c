/-! ===== money and holds: what a heard message does ===== -/
/-- what else of them stays -/
def FrM (a a' b b' : TS) : Prop := StaP a a' b b' ∧ tZ a' 29 0 = tZ a 29 0 ∧ tI b' 97 0 6 = tI b 97 0 6 ∧ (tL b' 91 0 8 = tL b 91 0 8 ∧ tL b' 91 0 7 = tL b 91 0 7) ∧ ∀ s, tL b' 45 0 s = tL b 45 0 s
theorem pay_ts {a b : TS} (hR : R0 a b) {p : Nat} (hp : p < tZ a 29 0) : ∃ t s, t < tZ a 26 0 ∧ s < tZ a 27 0 ∧ pac b p = Int32.ofNat t ∧ tI b 87 0 (10 * p + 2) = Int32.ofNat s := by
  obtain ⟨k, k1, k2, k3⟩ := pay_card hR hp
  obtain ⟨t, t1, t2, t3⟩ := card_acct hR k1
  obtain ⟨-, -, -, ⟨s, s1, -, s3⟩, -⟩ := (r_P' hR).2.2.2.2.1 p hp
  exact ⟨t, s, t1, s1, by unfold pac; rw [k2, o_ix (by omega)]; exact t2, s3⟩
theorem MonI_p0 {a a' b b' : TS} {D p : Nat} {put : Nat → Int64} (hR : R0 a b) (h : MonI a b D put) (hf : FrM a a' b b') (hp : p < tZ a 29 0)
    (hk : ∀ n f, n < 1000 → n ≠ p → hI b' n f = hI b n f) (hk64 : ∀ n f, n < 1000 → hA b' n 64 f = hA b n 64 f)
    (h43 : ∀ u, u < tZ a 26 0 → tL b' 43 0 u = tL b 43 0 u) (h46 : ∀ u, tL b' 46 0 u = tL b 46 0 u)
    (A : MaA a' b' p) (e8 : hI b' p 8 = hI b p 8) (e15 : hI b' p 15 = hI b p 15) (e16 : hI b' p 16 = hI b p 16) (C : tI b' 94 0 12 = tI b 94 0 12)
    (Hd : ∀ u, u < tZ a 26 0 → tL b' 44 0 u = tL b 44 0 u + (ctH b' u p - ctH b u p)) : MonI a' b' D put := by
  obtain ⟨hs, h29, h97, h91, h45⟩ := hf
  have hP := (r_P' hR).1
  obtain ⟨t, s, t1, s1, -, -⟩ := pay_ts hR hp
  have p1 : p < 1000 := by omega
  have epm : pmI b' p = pmI b p := by unfold pmI; rw [e8, hk64 p 2 p1]
  have elm : lmI b' p = lmI b p := by unfold lmI; rw [e16]
  refine MonI_p (p := p) (t := t) (sh := s) (dd := 0) (dI := 0) hR h hs h29 p1 t1 s1 hk (fun n f hn _ => hk64 n f hn) h97 h91 h45 (fun u hu => ?_) (fun u => ?_) A ?_ (Or.inl ⟨C, by rw [e8]⟩) Hd (fun u hu => ?_) rfl (by omega) (by rw [epm]; unfold psI; omega) (by rw [epm, elm]; unfold psI; omega)
  · rw [h43 u hu]; split <;> simp
  · rw [h46]; split <;> simp
  · unfold MaB
    rw [e8, e15, e16, hk64 p 2 p1]
    exact h.2.1 p p1
  · have : ctL b' u p = ctL b u p := by
      unfold ctL
      rw [e16]
      by_cases q8 : hI b p 8 ≠ 0
      · rw [lac_c hR hs p1 q8 (hk64 p 0 p1)]
      · rw [((h.2.1 p p1).1 (Decidable.not_not.mp q8)).2]
        simp
    rw [this]
    split <;> simp
theorem pac_cd {b : TS} {p cd : Nat} (h : tI b 87 0 (10 * p + 1) = Int32.ofNat cd) (h8 : cd < 8) : pac b p = tI b 86 0 (10 * cd + 9) := by
  unfold pac
  rw [h, o_ix (by omega)]
theorem MonI_NoCh {a a' b b' : TS} {D : Nat} {put : Nat → Int64} (hR : R0 a b) (h : MonI a b D put) (hf : FrM a a' b b') (hn : NoCh b b') : MonI a' b' D put := by
  obtain ⟨hs, h29, h97, h91, h45⟩ := hf
  obtain ⟨n1, n2, n3, n4, n5, n6, -⟩ := hn
  have hB := (r_B hR).1
  exact MonI_c hR h hs (fun n f hn _ => n1 n f hn) (fun n f hn => n2 n 64 f hn (by simp)) h97 n6 h91 h45 (fun u hu => n3 u (by omega)) (fun u hu => n4 u (by omega)) n5
theorem ctH_new {b' : TS} {u p t : Nat} {m : Int32} (h12 : hI b' p 12 = m) (h13 : hI b' p 13 = Int32.ofNat t) (ht : t < 8) (hu : u < 8) : ctH b' u p = if u = t then m.toInt64 else 0 := by
  unfold ctH
  rw [h12, h13]
  by_cases q : m = 0
  · rw [if_pos q, q]
    split <;> rfl
  · rw [if_neg q]
    by_cases e : u = t
    · rw [if_pos (by rw [e]), if_pos e]
    · rw [if_neg (fun w => e (o_inj (by omega) (by omega) w.symm)), if_neg e]
theorem ctH_old {b : TS} {u p : Nat} (h12 : hI b p 12 = 0) : ctH b u p = 0 := if_pos h12
/-- a hold is made or not, else nothing of it -/
theorem MonI_hold {a a' b b' : TS} {D p cd t : Nat} {put : Nat → Int64} {m : Int32} {Q : Prop} [Decidable Q] (hR : R0 a b) (h : MonI a b D put) (hf : FrM a a' b b') (hp : p < tZ a 29 0) (ht : t < 8) (hcd : cd < 8) (c1 : tI b 87 0 (10 * p + 1) = Int32.ofNat cd) (c2 : tI b 86 0 (10 * cd + 9) = Int32.ofNat t)
    (hk : ∀ n f, n < 1000 → n ≠ p → hI b' n f = hI b n f) (hk64 : ∀ n f, n < 1000 → hA b' n 64 f = hA b n 64 f) (hM : MonS b b') (e8 : hI b' p 8 = hI b p 8) (e9 : hI b' p 9 = hI b p 9) (e15 : hI b' p 15 = hI b p 15) (e16 : hI b' p 16 = hI b p 16)
    (q0 : Q → hI b p 12 = 0 ∧ hI b p 8 = 0 ∧ hI b p 9 = 0) (e12 : hI b' p 12 = if Q then m else hI b p 12) (e13 : hI b' p 13 = if Q then Int32.ofNat t else hI b p 13)
    (h44 : ∀ u, u < 8 → tL b' 44 0 u = if Q ∧ u = t then tL b 44 0 u + m.toInt64 else tL b 44 0 u) : MonI a' b' D put := by
  have hB := (r_B hR).1
  have hP := (r_P' hR).1
  have p1 : p < 1000 := by omega
  obtain ⟨m1, m2, m3, -⟩ := hM
  have hpc : pac b' p = Int32.ofNat t := by rw [pac_c hR hf.1 hp, pac_cd c1 hcd, c2]
  refine MonI_p0 hR h hf hp hk hk64 (fun u hu => m1 u (by omega)) m2 (fun h12 => ?_) e8 e15 e16 m3 (fun u hu => ?_)
  · rw [e8, e9, e13, hf.2.1, hpc]
    by_cases q : Q
    · obtain ⟨-, w2, w3⟩ := q0 q
      exact ⟨w2, w3, hp, if_pos q⟩
    · rw [e12, if_neg q] at h12
      obtain ⟨w1, w2, w3, w4⟩ := h.1 p p1 h12
      rw [if_neg q]
      rw [pac_cd c1 hcd, c2] at w4
      exact ⟨w1, w2, w3, w4⟩
  · rw [h44 u (by omega)]
    by_cases q : Q
    · rw [ctH_new (e12.trans (if_pos q)) (e13.trans (if_pos q)) ht (by omega), ctH_old (q0 q).1]
      by_cases e : u = t
      · rw [if_pos ⟨q, e⟩, if_pos e]; simp
      · rw [if_neg (fun w => e w.2), if_neg e]; simp
    · have : ctH b' u p = ctH b u p := by
        unfold ctH
        rw [e12, e13, if_neg q, if_neg q]
      rw [this, if_neg (fun w => q w.1)]
      grind
theorem MonI_ask {a a' b b' : TS} {D p cd c : Nat} {put : Nat → Int64} {m : Int32} (hR : R0 a b) (h : MonI a b D put) (hf : FrM a a' b b') (hp : p < tZ a 29 0) (hcd : cd < 8) (c1 : tI b 87 0 (10 * p + 1) = Int32.ofNat cd) (hA' : AskP b b' p cd c m) : MonI a' b' D put := by
  have hP := (r_P' hR).1
  have p1 : p < 1000 := by omega
  rcases hA' with ⟨-, hn⟩ | ⟨-, t, rs, st, told, t8, c2, r0, vI, -, vA, v44, hM⟩
  · exact MonI_NoCh hR h hf hn
  · refine MonI_hold (Q := rs = 0 ∧ hI b p 12 = 0) hR h hf hp t8 hcd c1 c2 (fun n f hn hne => ?_) (fun n f hn => vA n 64 f hn (by simp)) hM ?_ ?_ ?_ ?_ (fun q => ⟨q.2, (r0 q.1).2, (r0 q.1).1⟩) ?_ ?_ v44
    all_goals rw [vI _ _ (by omega)]
    · simp [hne]
    all_goals simp
theorem MonI_note {a a' b b' : TS} {D p cd c : Nat} {put : Nat → Int64} {m : Int32} (hR : R0 a b) (h : MonI a b D put) (hf : FrM a a' b b') (hp : p < tZ a 29 0) (hcd : cd < 8) (c1 : tI b 87 0 (10 * p + 1) = Int32.ofNat cd) (hN : NoteP b b' p cd c m) : MonI a' b' D put := by
  have hP := (r_P' hR).1
  have p1 : p < 1000 := by omega
  rcases hN with ⟨-, -, -, -, -, -, -, -, hn⟩ | ⟨t, t8, c2, vI, -, vA, v44, hM⟩
  · exact MonI_NoCh hR h hf hn
  · refine MonI_hold (Q := hlB b p = true) hR h hf hp t8 hcd c1 c2 (fun n f hn hne => ?_) (fun n f hn => vA n 64 f hn (by simp)) hM ?_ ?_ ?_ ?_ (fun q => ⟨(hlB_i.mp q).2.2, (hlB_i.mp q).2.1, (hlB_i.mp q).1⟩) ?_ ?_ v44
    all_goals rw [vI _ _ (by omega)]
    · simp [hne]
    all_goals simp
theorem MonI_tb {a a' b b' : TS} {D p : Nat} {put : Nat → Int64} (hR : R0 a b) (h : MonI a b D put) (hf : FrM a a' b b') (hp : p < tZ a 29 0) (hT : TbP b b' p) (hM : MonS b b') : MonI a' b' D put := by
  have hB := (r_B hR).1
  have hP := (r_P' hR).1
  have p1 : p < 1000 := by omega
  obtain ⟨vI, vA, v44⟩ := hT
  obtain ⟨m1, m2, m3, -⟩ := hM
  have e12 : hI b' p 12 = 0 := by rw [vI p 12 p1, if_pos ⟨rfl, rfl⟩]
  refine MonI_p0 hR h hf hp (fun n f hn hne => ?_) (fun n f hn => vA n 64 f hn (by simp)) (fun u hu => m1 u (by omega)) m2 (fun h12 => absurd e12 h12) ?_ ?_ ?_ m3 (fun u hu => ?_)
  · rw [vI n f hn, if_neg (fun q => hne q.1), if_neg (fun q => hne q.1)]
  · rw [vI p 8 p1]; simp
  · rw [vI p 15 p1]; simp
  · rw [vI p 16 p1]; simp
  · rw [v44 u (by omega), ctH_old e12]
    unfold ctH
    by_cases q : hI b p 12 = 0
    · rw [if_neg (fun w => w.1 q), if_pos q]; simp
    · rw [if_neg q]
      by_cases q2 : hI b p 13 = Int32.ofNat u
      · rw [if_pos ⟨q, q2⟩, if_pos q2]; grind
      · rw [if_neg (fun w => q2 w.2), if_neg q2]; simp
