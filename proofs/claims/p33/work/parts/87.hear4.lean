/-! ===== what comes up is heard alike, all sorts ===== -/
theorem Hrd_3 {a a' b b' : TS} {sh r n : Nat} {v : Int32} (h : Hrd (sI a 10 r 3 v) a' b b' sh n) : Hrd a a' b b' sh n := by
  obtain ⟨h1, h2, h3, h4, h5, h6, h7, h8, h9, h10, h11, h12, h13, h14, h15⟩ := h
  refine ⟨h1, h2, h3, h4, h5, fun c' hc' hne => ?_, h7, h8, ?_, h10, h11, ?_, h13, h14, h15⟩
  · obtain ⟨u1, u2, u3, u4⟩ := h6 c' hc' hne
    exact ⟨u1.trans (vA_3 ..), u2, u3, u4⟩
  · exact chF_t (chF_I (by decide) (chF_r _ _ _)) h9
  · exact ((Wr.rf a).cI _ _ _ _).t h12
theorem NoCh_c {D : List Nat} {F : List (Nat × Nat)} {b b' : TS} (h : chF D F b b') (hd : dpk D F [43, 44, 46, 53, 61, 62, 63, 64] [(94, 12), (94, 13)] = true) : NoCh b b' :=
  ⟨fun n f _ => hI_c h hd (by simp) (by simp) n f, fun n t f _ ht => hA_c h hd (by simp) (by rcases ht with q | q | q <;> subst q <;> simp) n f, fun u _ => dLS h hd (s := 43) (by simp) 0 u, fun u _ => dLS h hd (s := 44) (by simp) 0 u, fun u => dLS h hd (s := 46) (by simp) 0 u, dI h hd (s := 94) (k := 12) (by simp) 0, dI h hd (s := 94) (k := 13) (by simp) 0⟩
theorem MonS_c {D : List Nat} {F : List (Nat × Nat)} {b b' : TS} (h : chF D F b b') (hd : dpk D F [43, 46] [(94, 12), (94, 13)] = true) : MonS b b' :=
  ⟨fun u _ => dLS h hd (s := 43) (by simp) 0 u, fun u => dLS h hd (s := 46) (by simp) 0 u, dI h hd (s := 94) (k := 12) (by simp) 0, dI h hd (s := 94) (k := 13) (by simp) 0⟩
/-- what a message does that comes up -/
def HrE (a b a' b' : TS) (sh : Nat) (g : Nat → Int32) : Prop := ∃ b1, chF Dsv [] b1 b' ∧
  ((tI b 95 0 5 = 0 ∧ g 0 ≠ 1 ∧ NoCh b b1 ∧ NtS a a' ∧ DnN b b' sh) ∨
   (tI b 95 0 5 = 0 ∧ g 0 = 1 ∧ NoCh b b1 ∧ ∃ p h, p < tZ a 29 0 ∧ g 1 = Int32.ofNat p ∧ SwQ a a' p (h 8) ∧ (∃ cd, g 2 = Int32.ofNat cd ∧ cd < 8 ∧ SwC a b a' b' p cd (g 5) (h 8)) ∧ (h 0 = 5 ∧ h 1 = Int32.ofNat p ∧ h 7 = 2 ∧ (h 8 = 1 ∨ h 8 = 2) ∧ h 14 = 0) ∧ DnP b a' b' sh h) ∨
   (tI b 95 0 5 ≠ 0 ∧ NtS a a' ∧
    ((g 0 = 1 ∧ ∃ p cd c h, p < tZ a 29 0 ∧ cd < tZ a 28 0 ∧ c < 201 ∧ (g 1 = Int32.ofNat p ∧ g 2 = Int32.ofNat cd ∧ g 4 = Int32.ofNat c) ∧ AskP b b1 p cd c (g 5) ∧ (h 0 = 5 ∧ h 1 = Int32.ofNat p ∧ h 7 = 1 ∧ h 8 = hI b1 p 0 ∧ h 14 = 0) ∧ DnP b a' b' sh h) ∨
     (DnP b a' b' sh g ∧
      ((g 0 = 2 ∧ ∃ p, p < tZ a 29 0 ∧ g 1 = Int32.ofNat p ∧ TbP b b1 p ∧ MonS b b1) ∨
       (g 0 = 3 ∧ ∃ n cd c, n < 1000 ∧ cd < tZ a 28 0 ∧ c < 201 ∧ (g 1 = Int32.ofNat n ∧ g 2 = Int32.ofNat cd ∧ g 4 = Int32.ofNat c) ∧ RecP b b1 n cd c sh (g 5) (g 6) (g 7)) ∨
       (g 0 = 4 ∧ ∃ p n, p < tZ a 29 0 ∧ n < 100 ∧ g 1 = Int32.ofNat p ∧ g 11 = Int32.ofNat n ∧ BmP b b1 p sh n (g 5) ∧ (∀ u, tL b1 44 0 u = tL b 44 0 u) ∧ tI b1 94 0 12 = tI b 94 0 12 ∧ tI b1 94 0 13 = tI b 94 0 13))))))
theorem ntP_3 (a : TS) (r k : Nat) (v : Int32) : ntP (sI a 10 r 3 v) k = ntP a k := by
  unfold ntP
  rw [tR_sI]
  split
  · rw [tI_sI, if_neg (fun q => absurd q.2.2 (by decide))]
  · rfl
theorem HrE_3 {a a' b b' : TS} {sh r : Nat} {g : Nat → Int32} {v : Int32} (h : HrE (sI a 10 r 3 v) b a' b' sh g) : HrE a b a' b' sh g := by
  have hNS : NtS (sI a 10 r 3 v) a' → NtS a a' := fun q => ⟨q.1, fun k hk => (q.2 k hk).trans (ntP_3 ..)⟩
  have hSQ : ∀ p w, SwQ (sI a 10 r 3 v) a' p w → SwQ a a' p w := fun p w q => ⟨fun k hk => ⟨(q.1 k hk).1, (q.1 k hk).2.trans (ntP_3 ..)⟩, q.2.1, fun k hk => (q.2.2 k hk).imp id (fun ⟨k0, z1, z2⟩ => ⟨k0, z1, z2.trans (ntP_3 ..)⟩)⟩
  have hSC : ∀ p cd m w, SwC (sI a 10 r 3 v) b a' b' p cd m w → SwC a b a' b' p cd m w := fun p cd m w q => ⟨fun e => (q.1 e).imp (fun ⟨k, k1, k2⟩ => ⟨k, k1, (ntP_3 ..).symm.trans k2⟩) id, q.2⟩
  obtain ⟨b1, c, h⟩ := h
  refine ⟨b1, c, ?_⟩
  rcases h with ⟨h1, h2, h3, h4, h5⟩ | ⟨h1, h2, h3, p, h, h4, h5, h6, ⟨cd', hc1, hc2, hc3⟩, h7, h8⟩ | ⟨h1, h2, ⟨h3, p, cd, c, h, h4, h5, h6, h7, h8, h9, h10⟩ | ⟨h3, h4⟩⟩
  · exact Or.inl ⟨h1, h2, h3, hNS h4, h5⟩
  · exact Or.inr (Or.inl ⟨h1, h2, h3, p, h, h4, h5, hSQ _ _ h6, ⟨cd', hc1, hc2, hSC _ _ _ _ hc3⟩, h7, h8⟩)
  · exact Or.inr (Or.inr ⟨h1, hNS h2, Or.inl ⟨h3, p, cd, c, h, h4, h5, h6, h7, h8, h9, h10⟩⟩)
  · exact Or.inr (Or.inr ⟨h1, hNS h2, Or.inr ⟨h3, h4⟩⟩)
set_option maxHeartbeats 4000000 in
theorem sim_hear {a b : TS} {sh r : Nat} {q : Nat × Nat} (hR : R0 a b) (hN : Nt a b) (hL : Ln0 a b) (hD : LnD a b sh) (hsh : sh < tZ a 27 0) (hr : r < tN a 10) (hq : isQ q.1) (hqi : q.2 < tN b q.1) (hm : upM a b sh (mv a 10 r) (qv b (some q))) (hz : tZ a 9 (2 * sh + 1) < 29998) (hl : (vQ b (2 * sh + 1)).length < 90000) :
    ∃ a' b', (∀ z K, bodyA sh r (enc 1 (sI a 10 r 3 (Int32.ofNat sh)) z) K = K (enc 1 a' z)) ∧ (∀ z, Ex 206 [aR (some (95, 0)), aI (Int32.ofNat sh), aR (some q)] (enc 2 b z) = some (.inl none, enc 2 b' z)) ∧ Hrd a a' b b' sh (if mv a 10 r 0 = 1 then 1 else 0) ∧ HrE a b a' b' sh (mv a 10 r) := by
  suffices H : ∃ a' b', (∀ z K, bodyA sh r (enc 1 (sI a 10 r 3 (Int32.ofNat sh)) z) K = K (enc 1 a' z)) ∧ (∀ z, Ex 206 [aR (some (95, 0)), aI (Int32.ofNat sh), aR (some q)] (enc 2 b z) = some (.inl none, enc 2 b' z)) ∧ Hrd (sI a 10 r 3 (Int32.ofNat sh)) a' b b' sh (if mv (sI a 10 r 3 (Int32.ofNat sh)) 10 r 0 = 1 then 1 else 0) ∧ HrE (sI a 10 r 3 (Int32.ofNat sh)) b a' b' sh (mv (sI a 10 r 3 (Int32.ofNat sh)) 10 r) by
    obtain ⟨a', b', h1, h2, h3, h4⟩ := H
    rw [mv_3] at h3 h4
    exact ⟨a', b', h1, h2, Hrd_3 h3, HrE_3 h4⟩
  obtain ⟨hRA, hNA, hLA, hPA⟩ := hear_3 (r := r) (v := Int32.ofNat sh) hR hN hL
  have hDA : LnD (sI a 10 r 3 (Int32.ofNat sh)) b sh := LnD_c hD hPA (vA_3 ..) rfl
  have hmA : upM (sI a 10 r 3 (Int32.ofNat sh)) b sh (mv (sI a 10 r 3 (Int32.ofNat sh)) 10 r) (qv b (some q)) := by rw [mv_3]; exact upM_c hm hPA
  have f3 : tI (sI a 10 r 3 (Int32.ofNat sh)) 10 r 3 = Int32.ofNat sh := by rw [tI_sI, if_pos ⟨rfl, rfl, rfl⟩]
  have hrA : r < tN (sI a 10 r 3 (Int32.ofNat sh)) 10 := hr
  have hshA : sh < tZ (sI a 10 r 3 (Int32.ofNat sh)) 27 0 := hsh
  have hzA : tZ (sI a 10 r 3 (Int32.ofNat sh)) 9 (2 * sh + 1) < 29998 := hz
  clear hm hPA hD hL hN hR hr hsh hz
  generalize sI a 10 r 3 (Int32.ofNat sh) = A at *
  have i10 : isM 10 := ⟨by decide +kernel, by decide +kernel⟩
  have iQ79 : isQ 79 := ⟨by decide +kernel, by decide +kernel⟩
  have iQ80 : isQ 80 := ⟨by decide +kernel, by decide +kernel⟩
  have iQ81 : isQ 81 := ⟨by decide +kernel, by decide +kernel⟩
  have hfc := r_FC hRA
  have hfr := r_FR hRA
  obtain ⟨S1, S2, ⟨S3, S4, S5, S6, S7, S8⟩, S9, S10⟩ := r_S hRA
  obtain ⟨T1, T2, T3, T4, T5, T6, T7, T8, T9, T10, T11⟩ := S10 sh hshA
  have h36 : sh < tN A 36 := by omega
  have hNA0 := hNA
  obtain ⟨-, -, -, -, -, -, hop, hopb⟩ := hNA0
  obtain ⟨qs, qi⟩ := q
  obtain ⟨u1, u2, u3, u4, u5⟩ := hmA
  rw [mv_at (Or.inr rfl)] at u1 u2
  rw [qv_at (by decide)] at u2 u3 u4
  rw [mv_at (Or.inl ⟨by decide, by decide⟩)] at u3 u4
  have hqi' : qi < tN b qs := hqi
  have v2 : tI b qs qi 13 = tI A 10 r 14 := u2
  have v3 : tI b qs qi 7 = tI A 10 r 11 := u3
  have v4 : tI b qs qi 1 = tI A 10 r 1 := u4
  have goB : ∀ z, Ex 206 [aR (some (95, 0)), aI (Int32.ofNat sh), aR (some (qs, qi))] (enc 2 b z) = _ := fun z => (X_in (by decide +kernel) (frN_95 hfr) rfl).trans (lf_206_0 ..)
  -- a DONE goes down
  have done : ∀ (a1 b1 : TS) (so : Int32), (so = 1 ∨ so = 2 ∨ so = 3) → tI b qs qi 0 = so → tI A 10 r 0 = 1 + so → R0 a1 b1 → Nt a1 b1 → PS A a1 b b1 → ∀ {D D' : List Nat} {F F' : List (Nat × Nat)}, chF D F A a1 → chF D' F' b b1 → dpk D F [8, 9, 10, 21, 22, 27] [] = true → 25 ∉ D → dpk D' F' [48, 49, 50, 51, 52, 65, 74, 75] [(95, 1), (95, 2)] = true → groQ b b1 → Wr A a1 → Wr b b1 → ((∀ s ∈ D, s ∈ DhA) ∧ (∀ q ∈ F, q ∈ FhA ∨ q.1 ∈ DhA)) → ((∀ s ∈ D', s ∈ DhB) ∧ (∀ q ∈ F', q ∈ FhB ∨ q.1 ∈ DhB)) → dpk D F [5, 6, 16, 17] [] = true → dpk D' F' [79, 80, 81] [] = true →
      ∃ a' b', (∀ z, Ex 37 [aR (some (22, sh)), aR (some (10, r))] (enc 1 a1 z) = some (.inl none, enc 1 a' z)) ∧ (∀ z, Ex 194 [aR (some (95, 0)), aI (Int32.ofNat sh), aR (some (80, tN b1 80))] (enc 2 (mlD b1 (tI A 10 r 1) so (tI A 10 r 11) (tI A 10 r 14)) z) = some (.inl none, enc 2 b' z)) ∧ Hrd A a' b b' sh (if mv A 10 r 0 = 1 then 1 else 0) ∧ DnP b a' b' sh (mv A 10 r) ∧ chF [8, 9, 10, 21, 22] [] a1 a' ∧ chF Dsv [] b1 b' := by
    intro a1 b1 so hso q0 g0 hR1 hN1 hP1 D D' F F' ca cb hd hd25 hd' hq1 wa wb hA hB hd5 hd79
    obtain ⟨e1, e2, e3, e4, k0, k1, k8, k7, k13⟩ := mlD_eq b1 (tI A 10 r 1) so (tI A 10 r 11) (tI A 10 r 14)
    obtain ⟨hR2, hN2⟩ := ml_R0 (Or.inr rfl) hR1 hN1 e1 e2 e3
    have cb2 : chF (80 :: D') F' b (mlD b1 (tI A 10 r 1) so (tI A 10 r 11) (tI A 10 r 14)) := chF_t (chF_m cb (by intro s hs; exact List.mem_cons_of_mem _ hs) (fun q h => Or.inl h)) (chF_m e1 (by simp) (by simp))
    have hd2 : dpk (80 :: D') F' [48, 49, 50, 51, 52, 65, 74, 75] [(95, 1), (95, 2)] = true := by
      unfold dpk at *
      rw [Bool.and_eq_true] at *
      obtain ⟨h1, h2⟩ := hd'
      refine ⟨?_, ?_⟩
      · rw [List.all_eq_true] at *
        intro s hs
        have := h1 s hs
        rw [Bool.and_eq_true] at *
        refine ⟨?_, this.2⟩
        rw [Bool.not_eq_true'] at *
        rw [List.contains_cons, this.1, Bool.or_false]
        simp only [List.mem_cons, List.not_mem_nil, or_false] at hs
        rcases hs with e | e | e | e | e | e | e | e <;> rw [e] <;> rfl
      · rw [List.all_eq_true] at *
        intro s hs
        have := h2 s hs
        rw [Bool.and_eq_true] at *
        refine ⟨?_, this.2⟩
        rw [Bool.not_eq_true'] at *
        rw [List.contains_cons, this.1, Bool.or_false]
        simp only [List.mem_cons, List.not_mem_nil, or_false] at hs
        rcases hs with e | e <;> rw [e] <;> rfl
    have t10 : ∀ k, tI a1 10 r k = tI A 10 r k := dIS ca hd (s := 10) (by simp) r
    have hm1 : dnM a1 (mlD b1 (tI A 10 r 1) so (tI A 10 r 11) (tI A 10 r 14)) sh (mv a1 10 r) (qv (mlD b1 (tI A 10 r 1) so (tI A 10 r 11) (tI A 10 r 14)) (some (80, tN b1 80))) := by
      refine ⟨by rw [mv_at (Or.inr rfl), t10]; exact u1, ?_, ?_, ?_, Or.inr ⟨?_, ?_⟩⟩
      · rw [qv_at (by decide), mv_at (Or.inr rfl), t10]; exact k13
      · rw [qv_at (by decide), mv_at (Or.inl ⟨by decide, by decide⟩), t10]; exact k7
      · rw [qv_at (by decide), mv_at (Or.inl ⟨by decide, by decide⟩), t10]; exact k1
      · rw [qv_at (by decide), mv_at (Or.inl ⟨by decide, by decide⟩), t10, show tI (mlD b1 (tI A 10 r 1) so (tI A 10 r 11) (tI A 10 r 14)) ((80 : Nat), tN b1 80).1 ((80 : Nat), tN b1 80).2 8 = so from k8, g0]
        rcases hso with e | e | e
        · subst e; exact Or.inl ⟨by decide, rfl⟩
        · subst e; exact Or.inr (Or.inl ⟨by decide, rfl⟩)
        · subst e; exact Or.inr (Or.inr ⟨by decide, rfl⟩)
      · rw [qv_at (by decide)]; exact k0
    obtain ⟨a', b', w1, w2, w3, w4, w5, w6⟩ := hear_put hR2 hN2 hLA hDA hshA (PS_t hP1 (PS_c (chF_r [] [] a1) e1 (by decide) (by decide))) ca cb2 hd hd25 hd2 (groQ_t hq1 e3) wa (wb.t e2) hA ⟨fun s hs => by
      rcases List.mem_cons.mp hs with e | e
      · rw [e]; decide
      · exact hB.1 s e, hB.2⟩ hzA hl i10 (Nat.lt_of_lt_of_le hrA (wa.N 10)) iQ80 e4 hm1 (tn_c ca hd5 _) (by rw [mlD_M, Mt_c cb hd79]; exact Nat.le_refl _)
    rw [mv_cg t10] at w4
    exact ⟨a', b', w1, w2, w3, w4, w5, chF_t (chF_m e1 (by decide) (by simp)) w6⟩
  by_cases ho : tI b 95 0 5 = 0
  · have ho' : tI A 31 0 2 = 0 := hop.trans ho
    rcases u5 with ⟨g0, q0, g14, g11, p, cd, c, i1, i2, i3, ⟨j1, j2, j3⟩, ⟨k1, k2, k3, k4, k5⟩, ⟨l1, l2, l3, l4⟩⟩ | rest
    · -- an ASK, the switch
      rw [mv_at (Or.inl ⟨by decide, by decide⟩)] at g0 k1 k2 k3 k4 k5
      rw [qv_at (by decide)] at q0 l1 l2 l3 l4
      rw [mv_at (Or.inl ⟨by decide, by decide⟩)] at l1 l2 l3 l4
      obtain ⟨a1, b1, x, y, ⟨m0, m1, m2, m3, m4, m5, m6, m7, m8, m9, m10, m11, m12, m13, m14, m15⟩, hR1, hN1, ca, cb, hq1, g17, wa, wb, ⟨c16, c17, c81⟩, hSw, hSc⟩ := sim_sw (m := tI b 87 0 (10 * p + 3)) (st := pst b p 2) (q := (qs, qi)) hRA hNA i1 hrA k1 k2 f3 k3 k4 k5 u1 i2 i3 hshA hq hqi (v4.trans k1) (l1.trans k2) (l2.trans k3) (l3.trans k4) (l4.trans k5) j1 j2 rfl j3 rfl ho
      have hP1 : PS A a1 b b1 := PS_c ca cb (by decide) (by decide)
      have hm1 : dnM a1 b1 sh (mv a1 16 (tN A 16)) (qv b1 (some (81, tN b 81))) := by
        refine ⟨by rw [mv_at (Or.inr rfl), m5]; rfl, by rw [qv_at (by decide), mv_at (Or.inr rfl), m5]; exact m10, by rw [qv_at (by decide), mv_at (Or.inl ⟨by decide, by decide⟩), m4]; exact m9, by rw [qv_at (by decide), mv_at (Or.inl ⟨by decide, by decide⟩), m3]; exact m8, Or.inl ⟨by rw [mv_at (Or.inl ⟨by decide, by decide⟩)]; exact m2, by rw [qv_at (by decide)]; exact m7, by rw [mv_at (Or.inl ⟨by decide, by decide⟩)]; exact m4, by rw [mv_at (Or.inl ⟨by decide, by decide⟩)]; exact m6, by rw [qv_at (by decide), mv_at (Or.inl ⟨by decide, by decide⟩)]; exact m11, by rw [qv_at (by decide), mv_at (Or.inl ⟨by decide, by decide⟩)]; exact m12, by rw [qv_at (by decide), mv_at (Or.inl ⟨by decide, by decide⟩)]; exact m13, by rw [qv_at (by decide), mv_at (Or.inl ⟨by decide, by decide⟩)]; exact m14, by rw [qv_at (by decide), mv_at (Or.inl ⟨by decide, by decide⟩)]; exact m15, p, Nat.lt_of_lt_of_le i1 hP1.1.1, by rw [mv_at (Or.inl ⟨by decide, by decide⟩)]; exact m3, by rw [(hP1.1.2.2.2 p i1).2.1]; exact j2⟩⟩
      obtain ⟨a', b', xx, yy, hH, hDn, hca, hcb⟩ := hear_put hR1 hN1 hLA hDA hshA hP1 ca cb (by decide) (by decide) (by decide) hq1 wa wb ⟨by decide, by simp⟩ ⟨by decide, by decide⟩ hzA hl ⟨by decide +kernel, by decide +kernel⟩ m0 iQ81 m1 hm1 (n := if mv A 10 r 0 = 1 then 1 else 0) (fun s hs => by
        rw [if_pos (by rw [mv_at (Or.inl ⟨by decide, by decide⟩)]; exact g0)]
        have z5 : tN a1 5 = tN A 5 := dN ca (S := [5, 6]) (P := []) (s := 5) (by decide) (by simp)
        have z6 : tN a1 6 = tN A 6 := dN ca (S := [5, 6]) (P := []) (s := 6) (by decide) (by simp)
        simp only [List.mem_cons, List.not_mem_nil, or_false] at hs
        rcases hs with e | e | e | e <;> subst e <;> omega) (by
        unfold Mt
        rw [dN cb (S := [79, 80]) (P := []) (s := 79) (by decide) (by simp), dN cb (S := [79, 80]) (P := []) (s := 80) (by decide) (by simp), c81]
        omega)
      have hE : HrE A b a' b' sh (mv A 10 r) := ⟨b1, hcb, Or.inr (Or.inl ⟨ho, by rw [mv_at (Or.inl ⟨by decide, by decide⟩)]; exact g0, NoCh_c cb (by decide), p, mv a1 16 (tN A 16), i1, by rw [mv_at (Or.inl ⟨by decide, by decide⟩)]; exact k1, SwQ_of hSw (mv_at (Or.inl ⟨by decide, by decide⟩)) (NtS_of hN1 hca (by decide) (gro_c hca (by decide))), ⟨cd, by rw [mv_at (Or.inl ⟨by decide, by decide⟩)]; exact k2, Nat.lt_of_lt_of_le i2 (r_C hRA).1, by rw [mv_at (f := 5) (Or.inl ⟨by decide, by decide⟩), k4]; exact SwC_of hSc (mv_at (Or.inl ⟨by decide, by decide⟩)) (NtS_of hN1 hca (by decide) (gro_c hca (by decide))) (fun k => dIS hcb (S := [73]) (P := []) (s := 73) (by decide) (by simp) 0 k) (dIS hcb (S := [95]) (P := []) (s := 95) (by decide) (by simp) 0 3)⟩, ⟨by rw [mv_at (Or.inl ⟨by decide, by decide⟩)]; exact m2, by rw [mv_at (Or.inl ⟨by decide, by decide⟩)]; exact m3, by rw [mv_at (Or.inl ⟨by decide, by decide⟩)]; exact hSw.2.2.2, by rw [mv_at (Or.inl ⟨by decide, by decide⟩)]; exact (m12.imp (fun q => q.1) (fun q => q.1)), by rw [mv_at (Or.inr rfl)]; exact m5⟩, hDn⟩)⟩
      refine ⟨a', b', fun z K => ?_, fun z => ?_, hH, hE⟩
      · unfold bodyA
        have h31 := fcN_31 hfc
        simp (config := {decide := true}) only [gfI_enc, gfL_enc, gfR_enc, pfI_enc, pfL_enc, pfR_enc, Option.bind_some, cI_v, cL_v, cF_v, cD_v, cR_v, cV_v, cI_x, cL_x, cR_x, cV_x, gz_0, gz_1, acc_enc, tI_sI, tL_sI, tR_sI, tN_sI, tZ_sI, tC_sI, tc_sI, tz_sI, tI_sL, tL_sL, tR_sL, tN_sL, tZ_sL, tC_sL, tc_sL, tz_sL, tI_sR, tL_sR, tR_sR, tN_sR, tZ_sR, tC_sR, tc_sR, tz_sR, tI_sZ, tL_sZ, tR_sZ, tN_sZ, tZ_sZ, tC_sZ, tc_sZ, tz_sZ, tI_sC, tL_sC, tR_sC, tN_sC, tZ_sC, tC_sC, tc_sC, tz_sC, tI_aC, tL_aC, tR_aC, tN_aC, tZ_aC, tC_aC, tc_aC, tz_aC, tI_rmL, tL_rmL, tR_rmL, tN_rmL, tZ_rmL, tC_rmL, tc_rmL, tz_rmL, tI_mk, tL_mk, tR_mk, tN_mk, tZ_mk, tC_mk, tc_mk, tz_mk, tI_pushL, tL_pushL, tR_pushL, tN_pushL, tZ_pushL, tC_pushL, tc_pushL, tz_pushL, tI_pushB, tL_pushB, tR_pushB, tN_pushB, tZ_pushB, tC_pushB, tc_pushB, tz_pushB, tI_cpL, tL_cpL, tR_cpL, tN_cpL, tZ_cpL, tC_cpL, tc_cpL, tz_cpL, eq_self, true_and, and_true, false_and, and_false, if_true, if_false, reduceIte, ite_true, ite_false, not_true_eq_false, not_false_eq_true, gm i10 hrA, g0, h36, T7, fcN_96 hfc, fcR_96_7 hfc, h31, ho', x, xx]
      · rw [goB]
        simp (config := {decide := true}) only [gfI_enc, gfL_enc, gfR_enc, pfI_enc, pfL_enc, pfR_enc, Option.bind_some, cI_v, cL_v, cF_v, cD_v, cR_v, cV_v, cI_x, cL_x, cR_x, cV_x, gz_0, gz_1, acc_enc, tI_sI, tL_sI, tR_sI, tN_sI, tZ_sI, tC_sI, tc_sI, tz_sI, tI_sL, tL_sL, tR_sL, tN_sL, tZ_sL, tC_sL, tc_sL, tz_sL, tI_sR, tL_sR, tR_sR, tN_sR, tZ_sR, tC_sR, tc_sR, tz_sR, tI_sZ, tL_sZ, tR_sZ, tN_sZ, tZ_sZ, tC_sZ, tc_sZ, tz_sZ, tI_sC, tL_sC, tR_sC, tN_sC, tZ_sC, tC_sC, tc_sC, tz_sC, tI_aC, tL_aC, tR_aC, tN_aC, tZ_aC, tC_aC, tc_aC, tz_aC, tI_rmL, tL_rmL, tR_rmL, tN_rmL, tZ_rmL, tC_rmL, tc_rmL, tz_rmL, tI_mk, tL_mk, tR_mk, tN_mk, tZ_mk, tC_mk, tc_mk, tz_mk, tI_pushL, tL_pushL, tR_pushL, tN_pushL, tZ_pushL, tC_pushL, tc_pushL, tz_pushL, tI_pushB, tL_pushB, tR_pushB, tN_pushB, tZ_pushB, tC_pushB, tc_pushB, tz_pushB, tI_cpL, tL_cpL, tR_cpL, tN_cpL, tZ_cpL, tC_cpL, tc_cpL, tz_cpL, eq_self, true_and, and_true, false_and, and_false, if_true, if_false, reduceIte, ite_true, ite_false, not_true_eq_false, not_false_eq_true, frN_95 hfr, ho, gq hq hqi', q0, y, yy]
    · -- not an ASK: nothing
      have g0 : ¬ tI A 10 r 0 = 1 := fun e => by
        rcases rest with ⟨g, -⟩ | ⟨g, -⟩ | ⟨g, -⟩ <;> rw [mv_at (Or.inl ⟨by decide, by decide⟩), e] at g <;> exact absurd g (by decide)
      have q0 : ¬ tI b qs qi 0 = 0 := fun e => by
        rcases rest with ⟨-, g, -⟩ | ⟨-, g, -⟩ | ⟨-, g, -⟩ <;> rw [qv_at (by decide), show tI b (qs, qi).1 (qs, qi).2 0 = 0 from e] at g <;> exact absurd g (by decide)
      refine ⟨A, b, fun z K => ?_, fun z => ?_, ?_, ⟨b, chF_r _ _ _, Or.inl ⟨ho, by rw [mv_at (Or.inl ⟨by decide, by decide⟩)]; exact g0, NoCh_c (chF_r [] [] b) (by decide), ⟨rfl, fun _ _ => rfl⟩, rfl, fun _ => rfl⟩⟩⟩
      rotate_left 2
      · exact hear_none hRA hNA hLA hDA hshA (PS_r A b) hLA (fun _ _ => ⟨rfl, rfl, rfl, rfl⟩) (chF_r _ _ _) (chF_r _ _ _) (fun s _ => gro_r b s) (Wr.rf _) (Wr.rf _) (fun s _ => Nat.le_add_right _ _) (Nat.le_succ _)
      · unfold bodyA
        have h31 := fcN_31 hfc
        simp (config := {decide := true}) only [gfI_enc, gfL_enc, gfR_enc, pfI_enc, pfL_enc, pfR_enc, Option.bind_some, cI_v, cL_v, cF_v, cD_v, cR_v, cV_v, cI_x, cL_x, cR_x, cV_x, gz_0, gz_1, acc_enc, tI_sI, tL_sI, tR_sI, tN_sI, tZ_sI, tC_sI, tc_sI, tz_sI, tI_sL, tL_sL, tR_sL, tN_sL, tZ_sL, tC_sL, tc_sL, tz_sL, tI_sR, tL_sR, tR_sR, tN_sR, tZ_sR, tC_sR, tc_sR, tz_sR, tI_sZ, tL_sZ, tR_sZ, tN_sZ, tZ_sZ, tC_sZ, tc_sZ, tz_sZ, tI_sC, tL_sC, tR_sC, tN_sC, tZ_sC, tC_sC, tc_sC, tz_sC, tI_aC, tL_aC, tR_aC, tN_aC, tZ_aC, tC_aC, tc_aC, tz_aC, tI_rmL, tL_rmL, tR_rmL, tN_rmL, tZ_rmL, tC_rmL, tc_rmL, tz_rmL, tI_mk, tL_mk, tR_mk, tN_mk, tZ_mk, tC_mk, tc_mk, tz_mk, tI_pushL, tL_pushL, tR_pushL, tN_pushL, tZ_pushL, tC_pushL, tc_pushL, tz_pushL, tI_pushB, tL_pushB, tR_pushB, tN_pushB, tZ_pushB, tC_pushB, tc_pushB, tz_pushB, tI_cpL, tL_cpL, tR_cpL, tN_cpL, tZ_cpL, tC_cpL, tc_cpL, tz_cpL, eq_self, true_and, and_true, false_and, and_false, if_true, if_false, reduceIte, ite_true, ite_false, not_true_eq_false, not_false_eq_true, gm i10 hrA, g0, fcN_96 hfc, fcR_96_7 hfc, h31, ho']
      · rw [goB]
        simp (config := {decide := true}) only [gfI_enc, gfL_enc, gfR_enc, pfI_enc, pfL_enc, pfR_enc, Option.bind_some, cI_v, cL_v, cF_v, cD_v, cR_v, cV_v, cI_x, cL_x, cR_x, cV_x, gz_0, gz_1, acc_enc, tI_sI, tL_sI, tR_sI, tN_sI, tZ_sI, tC_sI, tc_sI, tz_sI, tI_sL, tL_sL, tR_sL, tN_sL, tZ_sL, tC_sL, tc_sL, tz_sL, tI_sR, tL_sR, tR_sR, tN_sR, tZ_sR, tC_sR, tc_sR, tz_sR, tI_sZ, tL_sZ, tR_sZ, tN_sZ, tZ_sZ, tC_sZ, tc_sZ, tz_sZ, tI_sC, tL_sC, tR_sC, tN_sC, tZ_sC, tC_sC, tc_sC, tz_sC, tI_aC, tL_aC, tR_aC, tN_aC, tZ_aC, tC_aC, tc_aC, tz_aC, tI_rmL, tL_rmL, tR_rmL, tN_rmL, tZ_rmL, tC_rmL, tc_rmL, tz_rmL, tI_mk, tL_mk, tR_mk, tN_mk, tZ_mk, tC_mk, tc_mk, tz_mk, tI_pushL, tL_pushL, tR_pushL, tN_pushL, tZ_pushL, tC_pushL, tc_pushL, tz_pushL, tI_pushB, tL_pushB, tR_pushB, tN_pushB, tZ_pushB, tC_pushB, tc_pushB, tz_pushB, tI_cpL, tL_cpL, tR_cpL, tN_cpL, tZ_cpL, tC_cpL, tc_cpL, tz_cpL, eq_self, true_and, and_true, false_and, and_false, if_true, if_false, reduceIte, ite_true, ite_false, not_true_eq_false, not_false_eq_true, frN_95 hfr, ho, gq hq hqi', q0]
  · have ho' : ¬ tI A 31 0 2 = 0 := fun e => ho (hop.symm.trans e)
    have h31 := fcN_31 hfc
    rcases u5 with ⟨g0, q0, g14, g11, p, cd, c, i1, i2, i3, ⟨j1, j2, j3⟩, ⟨k1, k2, k3, k4, k5⟩, ⟨l1, l2, l3, l4⟩⟩ | ⟨g0, q0, g14, g11, p, i1, k1, j2⟩ | ⟨g0, q0, g11, n, p, cd, c, i0, i1, i2, i3, ⟨j1, j3⟩, ⟨k1, k2, k3, k4⟩, ⟨l1, l2, l3, l4, l5⟩, o1, o2, o3, o4, o5⟩ | ⟨g0, q0, g14, q4, hm0, ⟨n, n1, n2⟩, p, i1, k1, j2⟩
    · -- an ASK, the issuer
      rw [mv_at (Or.inl ⟨by decide, by decide⟩)] at g0 k1 k2 k3 k4 k5
      rw [qv_at (by decide)] at q0 l1 l2 l3 l4
      rw [mv_at (Or.inl ⟨by decide, by decide⟩)] at l1 l2 l3 l4
      have hmpos : 0 < tI b 87 0 (10 * p + 3) := ((r_P hRA).2.2.2.2.1 p i1).2.2.2.2.1.2.1
      obtain ⟨a1, b1, i, x, y, ⟨m0, m1, m2, m3, m4, m5, m6, m7, m8, m9⟩, hR1, ca, cb, wa, wb, ⟨c5, c6⟩, hAsk, h8⟩ := sim_ask (m := tI b 87 0 (10 * p + 3)) (st := pst b p 2) hRA i1 hrA k1 k2 f3 k3 k4 k5 u1 i2 i3 j1 j2 rfl j3 rfl hmpos
      have hq1 : groQ b b1 := groQ_c cb (by decide +kernel)
      have hN1 : Nt a1 b1 := Nt_c hNA ca cb (by decide) (by decide) (PM_c ca cb (by decide) (by decide)) (gro_c ca (by decide)) hq1
      have hfr1 := r_FR hR1
      obtain ⟨e1, e2, e3, e4, w0, w1, w12, w11, w9, w5, w10, w7, w13⟩ := mlA_eq b1 (Int32.ofNat p) (tI b1 94 0 14) (tI b1 94 0 15) (tI b1 94 0 16) (tI b1 94 0 17)
      obtain ⟨hR2, hN2⟩ := ml_R0 (Or.inl rfl) hR1 hN1 e1 e2 e3
      have hbit : bitOk (tI b1 94 0 14) = true := by rcases m5 with ⟨-, e⟩ | ⟨-, e⟩ <;> rw [e] <;> rfl
      have hq1i : qi < tN b1 qs := Nat.lt_of_lt_of_le hqi' (hq1 qs hq).1
      have tail := fun z => y206_ans (b := b1) (z := z) (p := p) (sh := sh) (qs := qs) (qi := qi) hfr1 hq hq1i (((hq1 qs hq).2 qi hqi' 1).trans (v4.trans k1)) hbit
      have cb2 : chF [44, 53, 54, 55, 56, 57, 61, 62, 63, 64, 79] [(94, 6), (94, 14), (94, 15), (94, 16), (94, 17)] b (mlA b1 (Int32.ofNat p) (tI b1 94 0 14) (tI b1 94 0 15) (tI b1 94 0 16) (tI b1 94 0 17)) := chF_t (chF_m cb (by decide) (by decide)) (chF_m e1 (by decide) (by simp))
      have hP1 : PS A a1 b (mlA b1 (Int32.ofNat p) (tI b1 94 0 14) (tI b1 94 0 15) (tI b1 94 0 16) (tI b1 94 0 17)) := PS_c ca cb2 (by decide) (by decide)
      have hm1 : dnM a1 (mlA b1 (Int32.ofNat p) (tI b1 94 0 14) (tI b1 94 0 15) (tI b1 94 0 16) (tI b1 94 0 17)) sh (mv a1 5 i) (qv (mlA b1 (Int32.ofNat p) (tI b1 94 0 14) (tI b1 94 0 15) (tI b1 94 0 16) (tI b1 94 0 17)) (some (79, tN b1 79))) := by
        refine ⟨by rw [mv_at (Or.inr rfl), m9]; rfl, by rw [qv_at (by decide), mv_at (Or.inr rfl), m9]; exact w13, by rw [qv_at (by decide), mv_at (Or.inl ⟨by decide, by decide⟩), m8]; exact w7, by rw [qv_at (by decide), mv_at (Or.inl ⟨by decide, by decide⟩), m2]; exact w1, Or.inl ⟨by rw [mv_at (Or.inl ⟨by decide, by decide⟩)]; exact m1, by rw [qv_at (by decide)]; exact w0, by rw [mv_at (Or.inl ⟨by decide, by decide⟩)]; exact m8, by rw [mv_at (Or.inl ⟨by decide, by decide⟩)]; exact Or.inl m4, by rw [qv_at (by decide), mv_at (Or.inl ⟨by decide, by decide⟩), m4, if_pos rfl]; exact w12, ?_, by rw [qv_at (by decide), mv_at (Or.inl ⟨by decide, by decide⟩), m6]; exact w9, by rw [qv_at (by decide), mv_at (Or.inl ⟨by decide, by decide⟩), m3]; exact w5, by rw [qv_at (by decide), mv_at (Or.inl ⟨by decide, by decide⟩), m7]; exact w10, p, Nat.lt_of_lt_of_le i1 hP1.1.1, by rw [mv_at (Or.inl ⟨by decide, by decide⟩)]; exact m2, by rw [(hP1.1.2.2.2 p i1).2.1]; exact j2⟩⟩
        rw [qv_at (by decide), mv_at (Or.inl ⟨by decide, by decide⟩)]
        rcases m5 with ⟨z1, z2⟩ | ⟨z1, z2⟩
        · exact Or.inl ⟨z1, w11.trans z2⟩
        · exact Or.inr ⟨z1, w11.trans z2⟩
      obtain ⟨a', b', xx, yy, hH, hDn, hca, hcb⟩ := hear_put hR2 hN2 hLA hDA hshA hP1 ca cb2 (by decide) (by decide) (by decide) (groQ_t hq1 e3) wa (wb.t e2) ⟨by decide, by decide⟩ ⟨by decide, by decide⟩ hzA hl ⟨by decide +kernel, by decide +kernel⟩ m0 iQ79 e4 hm1 (n := if mv A 10 r 0 = 1 then 1 else 0) (fun s hs => by
        rw [if_pos (by rw [mv_at (Or.inl ⟨by decide, by decide⟩)]; exact g0)]
        have z16 : tN a1 16 = tN A 16 := dN ca (S := [16, 17]) (P := []) (s := 16) (by decide) (by simp)
        have z17 : tN a1 17 = tN A 17 := dN ca (S := [16, 17]) (P := []) (s := 17) (by decide) (by simp)
        simp only [List.mem_cons, List.not_mem_nil, or_false] at hs
        rcases hs with e | e | e | e <;> subst e <;> omega) (by rw [mlA_M, Mt_c cb (by decide)]; exact Nat.le_refl _)
      have hE : HrE A b a' b' sh (mv A 10 r) := ⟨b1, chF_t (chF_m e1 (by decide) (by simp)) hcb, Or.inr (Or.inr ⟨ho, NtS_t (NtS_of hNA ca (by decide) (gro_c ca (by decide))) (NtS_of hN1 hca (by decide) (gro_c hca (by decide))), Or.inl ⟨by rw [mv_at (Or.inl ⟨by decide, by decide⟩)]; exact g0, p, cd, c, mv a1 5 i, i1, i2, i3, ⟨by rw [mv_at (Or.inl ⟨by decide, by decide⟩)]; exact k1, by rw [mv_at (Or.inl ⟨by decide, by decide⟩)]; exact k2, by rw [mv_at (Or.inl ⟨by decide, by decide⟩)]; exact k3⟩, by rw [mv_at (Or.inl ⟨by decide, by decide⟩), k4]; exact hAsk, ⟨by rw [mv_at (Or.inl ⟨by decide, by decide⟩)]; exact m1, by rw [mv_at (Or.inl ⟨by decide, by decide⟩)]; exact m2, by rw [mv_at (Or.inl ⟨by decide, by decide⟩)]; exact m4, by rw [mv_at (Or.inl ⟨by decide, by decide⟩)]; exact h8, by rw [mv_at (Or.inr rfl)]; exact m9⟩, hDn⟩⟩)⟩
      refine ⟨a', b', fun z K => ?_, fun z => ?_, hH, hE⟩
      · unfold bodyA
        simp (config := {decide := true}) only [gfI_enc, gfL_enc, gfR_enc, pfI_enc, pfL_enc, pfR_enc, Option.bind_some, cI_v, cL_v, cF_v, cD_v, cR_v, cV_v, cI_x, cL_x, cR_x, cV_x, gz_0, gz_1, acc_enc, tI_sI, tL_sI, tR_sI, tN_sI, tZ_sI, tC_sI, tc_sI, tz_sI, tI_sL, tL_sL, tR_sL, tN_sL, tZ_sL, tC_sL, tc_sL, tz_sL, tI_sR, tL_sR, tR_sR, tN_sR, tZ_sR, tC_sR, tc_sR, tz_sR, tI_sZ, tL_sZ, tR_sZ, tN_sZ, tZ_sZ, tC_sZ, tc_sZ, tz_sZ, tI_sC, tL_sC, tR_sC, tN_sC, tZ_sC, tC_sC, tc_sC, tz_sC, tI_aC, tL_aC, tR_aC, tN_aC, tZ_aC, tC_aC, tc_aC, tz_aC, tI_rmL, tL_rmL, tR_rmL, tN_rmL, tZ_rmL, tC_rmL, tc_rmL, tz_rmL, tI_mk, tL_mk, tR_mk, tN_mk, tZ_mk, tC_mk, tc_mk, tz_mk, tI_pushL, tL_pushL, tR_pushL, tN_pushL, tZ_pushL, tC_pushL, tc_pushL, tz_pushL, tI_pushB, tL_pushB, tR_pushB, tN_pushB, tZ_pushB, tC_pushB, tc_pushB, tz_pushB, tI_cpL, tL_cpL, tR_cpL, tN_cpL, tZ_cpL, tC_cpL, tc_cpL, tz_cpL, eq_self, true_and, and_true, false_and, and_false, if_true, if_false, reduceIte, ite_true, ite_false, not_true_eq_false, not_false_eq_true, gm i10 hrA, g0, h36, T7, fcN_96 hfc, fcR_96_7 hfc, fcR_96_6 hfc, h31, ho', x, xx]
      · have z0 : (0 : Int32).toInt = 0 := rfl
        have q1' : tI b qs qi 1 = Int32.ofNat p := v4.trans k1
        have q2' : tI b qs qi 2 = Int32.ofNat cd := l1.trans k2
        have q3' : tI b qs qi 3 = Int32.ofNat c := l2.trans k3
        have q4' : tI b qs qi 4 = tI b 87 0 (10 * p + 3) := l3.trans k4
        have q5' : tI b qs qi 5 = pst b p 2 := l4.trans k5
        have q0' : tI b qs qi 0 = 0 := q0
        rw [goB]
        simp (config := {decide := true}) only [gfI_enc, gfL_enc, gfR_enc, pfI_enc, pfL_enc, pfR_enc, Option.bind_some, cI_v, cL_v, cF_v, cD_v, cR_v, cV_v, cI_x, cL_x, cR_x, cV_x, gz_0, gz_1, acc_enc, tI_sI, tL_sI, tR_sI, tN_sI, tZ_sI, tC_sI, tc_sI, tz_sI, tI_sL, tL_sL, tR_sL, tN_sL, tZ_sL, tC_sL, tc_sL, tz_sL, tI_sR, tL_sR, tR_sR, tN_sR, tZ_sR, tC_sR, tc_sR, tz_sR, tI_sZ, tL_sZ, tR_sZ, tN_sZ, tZ_sZ, tC_sZ, tc_sZ, tz_sZ, tI_sC, tL_sC, tR_sC, tN_sC, tZ_sC, tC_sC, tc_sC, tz_sC, tI_aC, tL_aC, tR_aC, tN_aC, tZ_aC, tC_aC, tc_aC, tz_aC, tI_rmL, tL_rmL, tR_rmL, tN_rmL, tZ_rmL, tC_rmL, tc_rmL, tz_rmL, tI_mk, tL_mk, tR_mk, tN_mk, tZ_mk, tC_mk, tc_mk, tz_mk, tI_pushL, tL_pushL, tR_pushL, tN_pushL, tZ_pushL, tC_pushL, tc_pushL, tz_pushL, tI_pushB, tL_pushB, tR_pushB, tN_pushB, tZ_pushB, tC_pushB, tc_pushB, tz_pushB, tI_cpL, tL_cpL, tR_cpL, tN_cpL, tZ_cpL, tC_cpL, tc_cpL, tz_cpL, eq_self, true_and, and_true, false_and, and_false, if_true, if_false, reduceIte, ite_true, ite_false, not_true_eq_false, not_false_eq_true, frN_95 hfr, ho, gq hq hqi', q0', z0, frR_95_8 hfr, q1', q2', q3', q4', q5', y]
        rw [tail, yy, cV_v]
    · -- a TAKE BACK
      rw [mv_at (Or.inl ⟨by decide, by decide⟩)] at g0 k1
      rw [qv_at (by decide)] at q0
      have hp1000 : p < 1000 := by have := (r_P hRA).1; omega
      have q0' : tI b qs qi 0 = 1 := q0
      have q1' : tI b qs qi 1 = Int32.ofNat p := v4.trans k1
      obtain ⟨a1, b1, x, y, hR1, ca, cb, wa, wb, hTb⟩ := sim_tb (some (36, sh)) hRA hp1000 i10 hrA (by decide) g0 k1
      have hq1 : groQ b b1 := groQ_c cb (by decide +kernel)
      have hN1 : Nt a1 b1 := Nt_c hNA ca cb (by decide) (by decide) (PM_c ca cb (by decide) (by decide)) (gro_c ca (by decide)) hq1
      obtain ⟨a', b', xx, yy, hH, hDn, hca, hcb⟩ := done a1 b1 1 (Or.inl rfl) q0' g0 hR1 hN1 (PS_c ca cb (by decide) (by decide)) ca cb (by decide) (by decide) (by decide) hq1 wa wb ⟨by decide, by decide⟩ ⟨by decide, by decide⟩ (by decide) (by decide)
      have hfr1 := r_FR hR1
      have hq1i : qi < tN b1 qs := Nat.lt_of_lt_of_le hqi' (hq1 qs hq).1
      have gv := fun k => (hq1 qs hq).2 qi hqi' k
      have tail := fun z => y206_dn (b := b1) (z := z) (sh := sh) (qs := qs) (qi := qi) (p := tI A 10 r 1) (so := 1) (nu := tI A 10 r 11) (fg := tI A 10 r 14) hfr1 hq hq1i ((gv 1).trans v4) ((gv 0).trans q0') ((gv 7).trans v3) ((gv 13).trans v2) u1
      have T7' : tR a1 36 sh 5 = some (22, sh) := (dRP ca (S := []) (P := [(36, 0)]) (s := 36) (k := 0) (by decide) (by simp) sh 5).trans T7
      have h36' : sh < tN a1 36 := Nat.lt_of_lt_of_le h36 (wa.N 36)
      have hE : HrE A b a' b' sh (mv A 10 r) := ⟨b1, hcb, Or.inr (Or.inr ⟨ho, NtS_t (NtS_of hNA ca (by decide) (gro_c ca (by decide))) (NtS_of hN1 hca (by decide) (gro_c hca (by decide))), Or.inr ⟨hDn, Or.inl ⟨by rw [mv_at (Or.inl ⟨by decide, by decide⟩)]; exact g0, p, i1, by rw [mv_at (Or.inl ⟨by decide, by decide⟩)]; exact k1, hTb, MonS_c cb (by decide)⟩⟩⟩)⟩
      refine ⟨a', b', fun z K => ?_, fun z => ?_, hH, hE⟩
      · unfold bodyA
        simp (config := {decide := true}) only [gfI_enc, gfL_enc, gfR_enc, pfI_enc, pfL_enc, pfR_enc, Option.bind_some, cI_v, cL_v, cF_v, cD_v, cR_v, cV_v, cI_x, cL_x, cR_x, cV_x, gz_0, gz_1, acc_enc, tI_sI, tL_sI, tR_sI, tN_sI, tZ_sI, tC_sI, tc_sI, tz_sI, tI_sL, tL_sL, tR_sL, tN_sL, tZ_sL, tC_sL, tc_sL, tz_sL, tI_sR, tL_sR, tR_sR, tN_sR, tZ_sR, tC_sR, tc_sR, tz_sR, tI_sZ, tL_sZ, tR_sZ, tN_sZ, tZ_sZ, tC_sZ, tc_sZ, tz_sZ, tI_sC, tL_sC, tR_sC, tN_sC, tZ_sC, tC_sC, tc_sC, tz_sC, tI_aC, tL_aC, tR_aC, tN_aC, tZ_aC, tC_aC, tc_aC, tz_aC, tI_rmL, tL_rmL, tR_rmL, tN_rmL, tZ_rmL, tC_rmL, tc_rmL, tz_rmL, tI_mk, tL_mk, tR_mk, tN_mk, tZ_mk, tC_mk, tc_mk, tz_mk, tI_pushL, tL_pushL, tR_pushL, tN_pushL, tZ_pushL, tC_pushL, tc_pushL, tz_pushL, tI_pushB, tL_pushB, tR_pushB, tN_pushB, tZ_pushB, tC_pushB, tc_pushB, tz_pushB, tI_cpL, tL_cpL, tR_cpL, tN_cpL, tZ_cpL, tC_cpL, tc_cpL, tz_cpL, eq_self, true_and, and_true, false_and, and_false, if_true, if_false, reduceIte, ite_true, ite_false, not_true_eq_false, not_false_eq_true, gm i10 hrA, g0, fcN_96 hfc, fcR_96_7 hfc, fcR_96_6 hfc, h31, ho', x, h36', T7', xx]
      · have z1 : ¬ (1 : Int32).toInt = 0 := by decide
        have z2 : (1 : Int32).toInt = 1 := by decide
        rw [goB]
        simp (config := {decide := true}) only [gfI_enc, gfL_enc, gfR_enc, pfI_enc, pfL_enc, pfR_enc, Option.bind_some, cI_v, cL_v, cF_v, cD_v, cR_v, cV_v, cI_x, cL_x, cR_x, cV_x, gz_0, gz_1, acc_enc, tI_sI, tL_sI, tR_sI, tN_sI, tZ_sI, tC_sI, tc_sI, tz_sI, tI_sL, tL_sL, tR_sL, tN_sL, tZ_sL, tC_sL, tc_sL, tz_sL, tI_sR, tL_sR, tR_sR, tN_sR, tZ_sR, tC_sR, tc_sR, tz_sR, tI_sZ, tL_sZ, tR_sZ, tN_sZ, tZ_sZ, tC_sZ, tc_sZ, tz_sZ, tI_sC, tL_sC, tR_sC, tN_sC, tZ_sC, tC_sC, tc_sC, tz_sC, tI_aC, tL_aC, tR_aC, tN_aC, tZ_aC, tC_aC, tc_aC, tz_aC, tI_rmL, tL_rmL, tR_rmL, tN_rmL, tZ_rmL, tC_rmL, tc_rmL, tz_rmL, tI_mk, tL_mk, tR_mk, tN_mk, tZ_mk, tC_mk, tc_mk, tz_mk, tI_pushL, tL_pushL, tR_pushL, tN_pushL, tZ_pushL, tC_pushL, tc_pushL, tz_pushL, tI_pushB, tL_pushB, tR_pushB, tN_pushB, tZ_pushB, tC_pushB, tc_pushB, tz_pushB, tI_cpL, tL_cpL, tR_cpL, tN_cpL, tZ_cpL, tC_cpL, tc_cpL, tz_cpL, eq_self, true_and, and_true, false_and, and_false, if_true, if_false, reduceIte, ite_true, ite_false, not_true_eq_false, not_false_eq_true, frN_95 hfr, ho, gq hq hqi', q0', z1, z2, frR_95_8 hfr, q1', y]
        rw [tail, yy, cV_v]
    · -- a RECORD
      have e14 : mv A 10 r 14 = tI A 10 r 14 := mv_at (Or.inr rfl)
      have e6 : mv A 10 r 6 = tI A 10 r 6 := mv_at (Or.inl ⟨by decide, by decide⟩)
      have e7 : mv A 10 r 7 = tI A 10 r 7 := mv_at (Or.inl ⟨by decide, by decide⟩)
      simp only [e14, e6, e7] at o1 o2 o3 o4 o5 l4 l5
      rw [mv_at (Or.inl ⟨by decide, by decide⟩)] at g0 k1 k2 k3 k4
      rw [qv_at (by decide)] at q0 l1 l2 l3 l4 l5
      rw [mv_at (Or.inl ⟨by decide, by decide⟩)] at l1 l2 l3
      have q0' : tI b qs qi 0 = 2 := q0
      have q1' : tI b qs qi 1 = Int32.ofNat n := v4.trans k1
      have q2' : tI b qs qi 2 = Int32.ofNat cd := l1.trans k2
      have q3' : tI b qs qi 3 = Int32.ofNat c := l2.trans k3
      have q4' : tI b qs qi 4 = tI b 87 0 (10 * p + 3) := l3.trans k4
      have q5' : tI b qs qi 5 = tI A 10 r 6 := l4
      have q6' : tI b qs qi 6 = 1 + tI A 10 r 7 := l5
      have hng : tI A 10 r 7 ≠ 0 → tI b 87 0 (10 * p + 2) = Int32.ofNat sh ∧ (tI b 87 0 (10 * p) = 0 ∨ tI b 87 0 (10 * p) = 2) ∧ tI A 10 r 6 = tI b 87 0 (10 * p + 5) := fun z => by
        by_cases e : tI A 10 r 14 = 0
        · exact o5 e
        · exact absurd (o4 e) z
      obtain ⟨a1, b1, x, y, hR1, ca, cb, wa, wb, hRec⟩ := sim_rec (m := tI b 87 0 (10 * p + 3)) (st := tI A 10 r 6) (by' := tI A 10 r 7) hRA i0 hrA g0 k1 k2 f3 k3 k4 rfl rfl u1 hshA i2 i3 i1 j1 rfl j3 o1 o2 hng
      have hq1 : groQ b b1 := groQ_c cb (by decide +kernel)
      have hN1 : Nt a1 b1 := Nt_c hNA ca cb (by decide) (by decide) (PM_c ca cb (by decide) (by decide)) (gro_c ca (by decide)) hq1
      obtain ⟨a', b', xx, yy, hH, hDn, hca, hcb⟩ := done a1 b1 2 (Or.inr (Or.inl rfl)) q0' g0 hR1 hN1 (PS_c ca cb (by decide) (by decide)) ca cb (by decide) (by decide) (by decide) hq1 wa wb ⟨by decide, by decide⟩ ⟨by decide, by decide⟩ (by decide) (by decide)
      have hfr1 := r_FR hR1
      have hq1i : qi < tN b1 qs := Nat.lt_of_lt_of_le hqi' (hq1 qs hq).1
      have gv := fun k => (hq1 qs hq).2 qi hqi' k
      have tail := fun z => y206_dn (b := b1) (z := z) (sh := sh) (qs := qs) (qi := qi) (p := tI A 10 r 1) (so := 2) (nu := tI A 10 r 11) (fg := tI A 10 r 14) hfr1 hq hq1i ((gv 1).trans v4) ((gv 0).trans q0') ((gv 7).trans v3) ((gv 13).trans v2) u1
      have T7' : tR a1 36 sh 5 = some (22, sh) := (dRP ca (S := []) (P := [(36, 0)]) (s := 36) (k := 0) (by decide) (by simp) sh 5).trans T7
      have h36' : sh < tN a1 36 := Nat.lt_of_lt_of_le h36 (wa.N 36)
      have hE : HrE A b a' b' sh (mv A 10 r) := ⟨b1, hcb, Or.inr (Or.inr ⟨ho, NtS_t (NtS_of hNA ca (by decide) (gro_c ca (by decide))) (NtS_of hN1 hca (by decide) (gro_c hca (by decide))), Or.inr ⟨hDn, Or.inr (Or.inl ⟨by rw [mv_at (Or.inl ⟨by decide, by decide⟩)]; exact g0, n, cd, c, i0, i2, i3, ⟨by rw [mv_at (Or.inl ⟨by decide, by decide⟩)]; exact k1, by rw [mv_at (Or.inl ⟨by decide, by decide⟩)]; exact k2, by rw [mv_at (Or.inl ⟨by decide, by decide⟩)]; exact k3⟩, by rw [mv_at (f := 5) (Or.inl ⟨by decide, by decide⟩), e6, e7, k4]; exact hRec⟩)⟩⟩)⟩
      refine ⟨a', b', fun z K => ?_, fun z => ?_, hH, hE⟩
      · unfold bodyA
        simp (config := {decide := true}) only [gfI_enc, gfL_enc, gfR_enc, pfI_enc, pfL_enc, pfR_enc, Option.bind_some, cI_v, cL_v, cF_v, cD_v, cR_v, cV_v, cI_x, cL_x, cR_x, cV_x, gz_0, gz_1, acc_enc, tI_sI, tL_sI, tR_sI, tN_sI, tZ_sI, tC_sI, tc_sI, tz_sI, tI_sL, tL_sL, tR_sL, tN_sL, tZ_sL, tC_sL, tc_sL, tz_sL, tI_sR, tL_sR, tR_sR, tN_sR, tZ_sR, tC_sR, tc_sR, tz_sR, tI_sZ, tL_sZ, tR_sZ, tN_sZ, tZ_sZ, tC_sZ, tc_sZ, tz_sZ, tI_sC, tL_sC, tR_sC, tN_sC, tZ_sC, tC_sC, tc_sC, tz_sC, tI_aC, tL_aC, tR_aC, tN_aC, tZ_aC, tC_aC, tc_aC, tz_aC, tI_rmL, tL_rmL, tR_rmL, tN_rmL, tZ_rmL, tC_rmL, tc_rmL, tz_rmL, tI_mk, tL_mk, tR_mk, tN_mk, tZ_mk, tC_mk, tc_mk, tz_mk, tI_pushL, tL_pushL, tR_pushL, tN_pushL, tZ_pushL, tC_pushL, tc_pushL, tz_pushL, tI_pushB, tL_pushB, tR_pushB, tN_pushB, tZ_pushB, tC_pushB, tc_pushB, tz_pushB, tI_cpL, tL_cpL, tR_cpL, tN_cpL, tZ_cpL, tC_cpL, tc_cpL, tz_cpL, eq_self, true_and, and_true, false_and, and_false, if_true, if_false, reduceIte, ite_true, ite_false, not_true_eq_false, not_false_eq_true, gm i10 hrA, g0, fcN_96 hfc, fcR_96_7 hfc, fcR_96_6 hfc, h31, ho', x, h36', T7', xx]
      · have z1 : ¬ (2 : Int32).toInt = 0 := by decide
        have z2 : ¬ (2 : Int32).toInt = 1 := by decide
        have z3 : (2 : Int32).toInt = 2 := by decide
        rw [goB]
        simp (config := {decide := true}) only [gfI_enc, gfL_enc, gfR_enc, pfI_enc, pfL_enc, pfR_enc, Option.bind_some, cI_v, cL_v, cF_v, cD_v, cR_v, cV_v, cI_x, cL_x, cR_x, cV_x, gz_0, gz_1, acc_enc, tI_sI, tL_sI, tR_sI, tN_sI, tZ_sI, tC_sI, tc_sI, tz_sI, tI_sL, tL_sL, tR_sL, tN_sL, tZ_sL, tC_sL, tc_sL, tz_sL, tI_sR, tL_sR, tR_sR, tN_sR, tZ_sR, tC_sR, tc_sR, tz_sR, tI_sZ, tL_sZ, tR_sZ, tN_sZ, tZ_sZ, tC_sZ, tc_sZ, tz_sZ, tI_sC, tL_sC, tR_sC, tN_sC, tZ_sC, tC_sC, tc_sC, tz_sC, tI_aC, tL_aC, tR_aC, tN_aC, tZ_aC, tC_aC, tc_aC, tz_aC, tI_rmL, tL_rmL, tR_rmL, tN_rmL, tZ_rmL, tC_rmL, tc_rmL, tz_rmL, tI_mk, tL_mk, tR_mk, tN_mk, tZ_mk, tC_mk, tc_mk, tz_mk, tI_pushL, tL_pushL, tR_pushL, tN_pushL, tZ_pushL, tC_pushL, tc_pushL, tz_pushL, tI_pushB, tL_pushB, tR_pushB, tN_pushB, tZ_pushB, tC_pushB, tc_pushB, tz_pushB, tI_cpL, tL_cpL, tR_cpL, tN_cpL, tZ_cpL, tC_cpL, tc_cpL, tz_cpL, eq_self, true_and, and_true, false_and, and_false, if_true, if_false, reduceIte, ite_true, ite_false, not_true_eq_false, not_false_eq_true, frN_95 hfr, ho, gq hq hqi', q0', z1, z2, z3, frR_95_8 hfr, q1', q2', q3', q4', q5', q6', y]
        rw [tail, yy, cV_v]
    · -- a BACK MONEY
      rw [mv_at (Or.inl ⟨by decide, by decide⟩)] at g0 k1 hm0 n2 q4
      rw [qv_at (by decide)] at q0 q4
      have hp1000 : p < 1000 := by have := (r_P hRA).1; omega
      have q0' : tI b qs qi 0 = 3 := q0
      have q1' : tI b qs qi 1 = Int32.ofNat p := v4.trans k1
      have q7' : tI b qs qi 7 = Int32.ofNat n := v3.trans n2
      have q4' : tI b qs qi 4 = tI A 10 r 5 := q4
      obtain ⟨a1, b1, x, y, hR1, ca, cb, wa, wb, hBm⟩ := sim_bm (m := tI A 10 r 5) hRA hp1000 i10 hrA (by decide) g0 k1 rfl n2 n1 hm0 hshA
      have hq1 : groQ b b1 := groQ_c cb (by decide +kernel)
      have hN1 : Nt a1 b1 := Nt_c hNA ca cb (by decide) (by decide) (PM_c ca cb (by decide) (by decide)) (gro_c ca (by decide)) hq1
      obtain ⟨a', b', xx, yy, hH, hDn, hca, hcb⟩ := done a1 b1 3 (Or.inr (Or.inr rfl)) q0' g0 hR1 hN1 (PS_c ca cb (by decide) (by decide)) ca cb (by decide) (by decide) (by decide) hq1 wa wb ⟨by decide, by decide⟩ ⟨by decide, by decide⟩ (by decide) (by decide)
      have hfr1 := r_FR hR1
      have hq1i : qi < tN b1 qs := Nat.lt_of_lt_of_le hqi' (hq1 qs hq).1
      have gv := fun k => (hq1 qs hq).2 qi hqi' k
      have tail := fun z => y206_dn (b := b1) (z := z) (sh := sh) (qs := qs) (qi := qi) (p := tI A 10 r 1) (so := 3) (nu := tI A 10 r 11) (fg := tI A 10 r 14) hfr1 hq hq1i ((gv 1).trans v4) ((gv 0).trans q0') ((gv 7).trans v3) ((gv 13).trans v2) u1
      have T7' : tR a1 36 sh 5 = some (22, sh) := (dRP ca (S := []) (P := [(36, 0)]) (s := 36) (k := 0) (by decide) (by simp) sh 5).trans T7
      have h36' : sh < tN a1 36 := Nat.lt_of_lt_of_le h36 (wa.N 36)
      have hE : HrE A b a' b' sh (mv A 10 r) := ⟨b1, hcb, Or.inr (Or.inr ⟨ho, NtS_t (NtS_of hNA ca (by decide) (gro_c ca (by decide))) (NtS_of hN1 hca (by decide) (gro_c hca (by decide))), Or.inr ⟨hDn, Or.inr (Or.inr ⟨by rw [mv_at (Or.inl ⟨by decide, by decide⟩)]; exact g0, p, n, i1, n1, by rw [mv_at (Or.inl ⟨by decide, by decide⟩)]; exact k1, by rw [mv_at (Or.inl ⟨by decide, by decide⟩)]; exact n2, by rw [mv_at (f := 5) (Or.inl ⟨by decide, by decide⟩)]; exact hBm, fun u => dLS cb (S := [44]) (P := []) (s := 44) (by decide) (by simp) 0 u, dI cb (S := []) (P := [(94, 12)]) (s := 94) (k := 12) (by decide) (by simp) 0, dI cb (S := []) (P := [(94, 13)]) (s := 94) (k := 13) (by decide) (by simp) 0⟩)⟩⟩)⟩
      refine ⟨a', b', fun z K => ?_, fun z => ?_, hH, hE⟩
      · unfold bodyA
        simp (config := {decide := true}) only [gfI_enc, gfL_enc, gfR_enc, pfI_enc, pfL_enc, pfR_enc, Option.bind_some, cI_v, cL_v, cF_v, cD_v, cR_v, cV_v, cI_x, cL_x, cR_x, cV_x, gz_0, gz_1, acc_enc, tI_sI, tL_sI, tR_sI, tN_sI, tZ_sI, tC_sI, tc_sI, tz_sI, tI_sL, tL_sL, tR_sL, tN_sL, tZ_sL, tC_sL, tc_sL, tz_sL, tI_sR, tL_sR, tR_sR, tN_sR, tZ_sR, tC_sR, tc_sR, tz_sR, tI_sZ, tL_sZ, tR_sZ, tN_sZ, tZ_sZ, tC_sZ, tc_sZ, tz_sZ, tI_sC, tL_sC, tR_sC, tN_sC, tZ_sC, tC_sC, tc_sC, tz_sC, tI_aC, tL_aC, tR_aC, tN_aC, tZ_aC, tC_aC, tc_aC, tz_aC, tI_rmL, tL_rmL, tR_rmL, tN_rmL, tZ_rmL, tC_rmL, tc_rmL, tz_rmL, tI_mk, tL_mk, tR_mk, tN_mk, tZ_mk, tC_mk, tc_mk, tz_mk, tI_pushL, tL_pushL, tR_pushL, tN_pushL, tZ_pushL, tC_pushL, tc_pushL, tz_pushL, tI_pushB, tL_pushB, tR_pushB, tN_pushB, tZ_pushB, tC_pushB, tc_pushB, tz_pushB, tI_cpL, tL_cpL, tR_cpL, tN_cpL, tZ_cpL, tC_cpL, tc_cpL, tz_cpL, eq_self, true_and, and_true, false_and, and_false, if_true, if_false, reduceIte, ite_true, ite_false, not_true_eq_false, not_false_eq_true, gm i10 hrA, g0, fcN_96 hfc, fcR_96_7 hfc, fcR_96_6 hfc, h31, ho', x, h36', T7', xx]
      · have z1 : ¬ (3 : Int32).toInt = 0 := by decide
        have z2 : ¬ (3 : Int32).toInt = 1 := by decide
        have z3 : ¬ (3 : Int32).toInt = 2 := by decide
        rw [goB]
        simp (config := {decide := true}) only [gfI_enc, gfL_enc, gfR_enc, pfI_enc, pfL_enc, pfR_enc, Option.bind_some, cI_v, cL_v, cF_v, cD_v, cR_v, cV_v, cI_x, cL_x, cR_x, cV_x, gz_0, gz_1, acc_enc, tI_sI, tL_sI, tR_sI, tN_sI, tZ_sI, tC_sI, tc_sI, tz_sI, tI_sL, tL_sL, tR_sL, tN_sL, tZ_sL, tC_sL, tc_sL, tz_sL, tI_sR, tL_sR, tR_sR, tN_sR, tZ_sR, tC_sR, tc_sR, tz_sR, tI_sZ, tL_sZ, tR_sZ, tN_sZ, tZ_sZ, tC_sZ, tc_sZ, tz_sZ, tI_sC, tL_sC, tR_sC, tN_sC, tZ_sC, tC_sC, tc_sC, tz_sC, tI_aC, tL_aC, tR_aC, tN_aC, tZ_aC, tC_aC, tc_aC, tz_aC, tI_rmL, tL_rmL, tR_rmL, tN_rmL, tZ_rmL, tC_rmL, tc_rmL, tz_rmL, tI_mk, tL_mk, tR_mk, tN_mk, tZ_mk, tC_mk, tc_mk, tz_mk, tI_pushL, tL_pushL, tR_pushL, tN_pushL, tZ_pushL, tC_pushL, tc_pushL, tz_pushL, tI_pushB, tL_pushB, tR_pushB, tN_pushB, tZ_pushB, tC_pushB, tc_pushB, tz_pushB, tI_cpL, tL_cpL, tR_cpL, tN_cpL, tZ_cpL, tC_cpL, tc_cpL, tz_cpL, eq_self, true_and, and_true, false_and, and_false, if_true, if_false, reduceIte, ite_true, ite_false, not_true_eq_false, not_false_eq_true, frN_95 hfr, ho, gq hq hqi', q0', z1, z2, z3, frR_95_8 hfr, q1', q7', q4', y]
        rw [tail, yy, cV_v]
