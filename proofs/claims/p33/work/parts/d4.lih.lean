/-! ===== who was granted what: what comes up ===== -/
theorem LI_np {nP : Nat} {pf : Nat → Nat → Int32} {ctr : Nat → Int32} {sent : Nat → Prop} {H : Nat → Nat → Int32} {A : Nat → Nat → Nat → Int32} {up dn : Int32 → (Nat → Int32) → Prop} {kp : (Nat → Int32) → Prop} {nt : Nat → Prop} {opn : Prop} {now : Int32} {swd : Nat → Prop} (h : LI nP pf ctr sent H A up dn kp nt opn now swd) : nP ≤ 200 := h.1
theorem LI_cd {nP : Nat} {pf : Nat → Nat → Int32} {ctr : Nat → Int32} {sent : Nat → Prop} {H : Nat → Nat → Int32} {A : Nat → Nat → Nat → Int32} {up dn : Int32 → (Nat → Int32) → Prop} {kp : (Nat → Int32) → Prop} {nt : Nat → Prop} {opn : Prop} {now : Int32} {swd : Nat → Prop} (h : LI nP pf ctr sent H A up dn kp nt opn now swd) : ∀ p p', p < nP → p' < nP → p ≠ p' → pf p 1 = pf p' 1 → pf p 4 ≠ pf p' 4 := h.2.1
theorem LI_upk {nP : Nat} {pf : Nat → Nat → Int32} {ctr : Nat → Int32} {sent : Nat → Prop} {H : Nat → Nat → Int32} {A : Nat → Nat → Nat → Int32} {up dn : Int32 → (Nat → Int32) → Prop} {kp : (Nat → Int32) → Prop} {nt : Nat → Prop} {opn : Prop} {now : Int32} {swd : Nat → Prop} (h : LI nP pf ctr sent H A up dn kp nt opn now swd) : ∀ d g, up d g → okU nP pf sent g := h.2.2.2.1
theorem LI_kpk {nP : Nat} {pf : Nat → Nat → Int32} {ctr : Nat → Int32} {sent : Nat → Prop} {H : Nat → Nat → Int32} {A : Nat → Nat → Nat → Int32} {up dn : Int32 → (Nat → Int32) → Prop} {kp : (Nat → Int32) → Prop} {nt : Nat → Prop} {opn : Prop} {now : Int32} {swd : Nat → Prop} (h : LI nP pf ctr sent H A up dn kp nt opn now swd) : ∀ g, kp g → okU nP pf sent g ∧ g 0 ≠ 0 := h.2.2.2.2.1
theorem LI_dnk {nP : Nat} {pf : Nat → Nat → Int32} {ctr : Nat → Int32} {sent : Nat → Prop} {H : Nat → Nat → Int32} {A : Nat → Nat → Nat → Int32} {up dn : Int32 → (Nat → Int32) → Prop} {kp : (Nat → Int32) → Prop} {nt : Nat → Prop} {opn : Prop} {now : Int32} {swd : Nat → Prop} (h : LI nP pf ctr sent H A up dn kp nt opn now swd) : ∀ d g, dn d g → okD nP H nt g := h.2.2.2.2.2.1
theorem LI_pst {nP : Nat} {pf : Nat → Nat → Int32} {ctr : Nat → Int32} {sent : Nat → Prop} {H : Nat → Nat → Int32} {A : Nat → Nat → Nat → Int32} {up dn : Int32 → (Nat → Int32) → Prop} {kp : (Nat → Int32) → Prop} {nt : Nat → Prop} {opn : Prop} {now : Int32} {swd : Nat → Prop} (h : LI nP pf ctr sent H A up dn kp nt opn now swd) : ∀ n, n < 1000 → H n 8 ≠ 0 → n < nP ∧ (pf n 0 = 0 ∨ pf n 0 = 2) ∧ sent n ∧ A n 64 0 = pf n 1 ∧ A n 64 1 = pf n 4 := h.2.2.2.2.2.2.1
theorem LI_snt {nP : Nat} {pf : Nat → Nat → Int32} {ctr : Nat → Int32} {sent : Nat → Prop} {H : Nat → Nat → Int32} {A : Nat → Nat → Nat → Int32} {up dn : Int32 → (Nat → Int32) → Prop} {kp : (Nat → Int32) → Prop} {nt : Nat → Prop} {opn : Prop} {now : Int32} {swd : Nat → Prop} (h : LI nP pf ctr sent H A up dn kp nt opn now swd) : ∀ p, p < nP → sent p → (pf p 0 = 0 ∨ pf p 0 = 2) ∧ (H p 8 ≠ 0 ∨ kpR kp 2 p) := h.2.2.2.2.2.2.2.1
theorem LI_tkb {nP : Nat} {pf : Nat → Nat → Int32} {ctr : Nat → Int32} {sent : Nat → Prop} {H : Nat → Nat → Int32} {A : Nat → Nat → Nat → Int32} {up dn : Int32 → (Nat → Int32) → Prop} {kp : (Nat → Int32) → Prop} {nt : Nat → Prop} {opn : Prop} {now : Int32} {swd : Nat → Prop} (h : LI nP pf ctr sent H A up dn kp nt opn now swd) : ∀ n, n < 1000 → H n 9 ≠ 0 → n < nP ∧ (pf n 0 = 0 ∨ pf n 0 = 4) := h.2.2.2.2.2.2.2.2.1
theorem LI_s4 {nP : Nat} {pf : Nat → Nat → Int32} {ctr : Nat → Int32} {sent : Nat → Prop} {H : Nat → Nat → Int32} {A : Nat → Nat → Nat → Int32} {up dn : Int32 → (Nat → Int32) → Prop} {kp : (Nat → Int32) → Prop} {nt : Nat → Prop} {opn : Prop} {now : Int32} {swd : Nat → Prop} (h : LI nP pf ctr sent H A up dn kp nt opn now swd) : ∀ p, p < nP → pf p 0 = 4 → H p 9 ≠ 0 ∨ kpR kp 1 p := h.2.2.2.2.2.2.2.2.2.1
theorem LI_s2 {nP : Nat} {pf : Nat → Nat → Int32} {ctr : Nat → Int32} {sent : Nat → Prop} {H : Nat → Nat → Int32} {A : Nat → Nat → Nat → Int32} {up dn : Int32 → (Nat → Int32) → Prop} {kp : (Nat → Int32) → Prop} {nt : Nat → Prop} {opn : Prop} {now : Int32} {swd : Nat → Prop} (h : LI nP pf ctr sent H A up dn kp nt opn now swd) : ∀ p, p < nP → pf p 0 = 2 → (pf p 8 = 1 → H p 0 = 1) ∧ (pf p 8 = 2 → H p 7 ≠ 0 ∨ nt p) := h.2.2.2.2.2.2.2.2.2.2.1
theorem LI_k0 {nP : Nat} {pf : Nat → Nat → Int32} {ctr : Nat → Int32} {sent : Nat → Prop} {H : Nat → Nat → Int32} {A : Nat → Nat → Nat → Int32} {up dn : Int32 → (Nat → Int32) → Prop} {kp : (Nat → Int32) → Prop} {nt : Nat → Prop} {opn : Prop} {now : Int32} {swd : Nat → Prop} (h : LI nP pf ctr sent H A up dn kp nt opn now swd) : ∀ n, n < 1000 → H n 0 ≠ 0 → n < nP ∧ A n 62 0 = pf n 1 ∧ A n 62 1 = pf n 4 ∧ A n 62 2 = pf n 3 := h.2.2.2.2.2.2.2.2.2.2.2.1
theorem LI_k7 {nP : Nat} {pf : Nat → Nat → Int32} {ctr : Nat → Int32} {sent : Nat → Prop} {H : Nat → Nat → Int32} {A : Nat → Nat → Nat → Int32} {up dn : Int32 → (Nat → Int32) → Prop} {kp : (Nat → Int32) → Prop} {nt : Nat → Prop} {opn : Prop} {now : Int32} {swd : Nat → Prop} (h : LI nP pf ctr sent H A up dn kp nt opn now swd) : ∀ n, n < 1000 → H n 7 ≠ 0 → n < nP ∧ A n 63 0 = pf n 1 ∧ A n 63 1 = pf n 4 ∧ A n 63 2 = pf n 3 := h.2.2.2.2.2.2.2.2.2.2.2.2.1
theorem LI_hld {nP : Nat} {pf : Nat → Nat → Int32} {ctr : Nat → Int32} {sent : Nat → Prop} {H : Nat → Nat → Int32} {A : Nat → Nat → Nat → Int32} {up dn : Int32 → (Nat → Int32) → Prop} {kp : (Nat → Int32) → Prop} {nt : Nat → Prop} {opn : Prop} {now : Int32} {swd : Nat → Prop} (h : LI nP pf ctr sent H A up dn kp nt opn now swd) : ∀ n, n < 1000 → H n 12 ≠ 0 → H n 0 = 1 ∨ H n 7 ≠ 0 := h.2.2.2.2.2.2.2.2.2.2.2.2.2.1
theorem LI_ntp {nP : Nat} {pf : Nat → Nat → Int32} {ctr : Nat → Int32} {sent : Nat → Prop} {H : Nat → Nat → Int32} {A : Nat → Nat → Nat → Int32} {up dn : Int32 → (Nat → Int32) → Prop} {kp : (Nat → Int32) → Prop} {nt : Nat → Prop} {opn : Prop} {now : Int32} {swd : Nat → Prop} (h : LI nP pf ctr sent H A up dn kp nt opn now swd) : ∀ p, p < 1000 → nt p → p < nP ∧ ¬ opn := h.2.2.2.2.2.2.2.2.2.2.2.2.2.2.1
theorem LI_j1 {nP : Nat} {pf : Nat → Nat → Int32} {ctr : Nat → Int32} {sent : Nat → Prop} {H : Nat → Nat → Int32} {A : Nat → Nat → Nat → Int32} {up dn : Int32 → (Nat → Int32) → Prop} {kp : (Nat → Int32) → Prop} {nt : Nat → Prop} {opn : Prop} {now : Int32} {swd : Nat → Prop} (h : LI nP pf ctr sent H A up dn kp nt opn now swd) : ∀ p, p < nP → den pf dn p → H p 0 ≠ 1 ∧ H p 7 = 0 ∧ ¬ nt p ∧ ∀ d, askU up p d → d = now ∧ (opn → H p 0 = 2) ∧ (¬ opn → swd p) := h.2.2.2.2.2.2.2.2.2.2.2.2.2.2.2.2.1
/-- a RECORD that is heard is right -/
theorem RecOk_of {a b : TS} {up dn : Int32 → (Nat → Int32) → Prop} {kp : (Nat → Int32) → Prop} {sw : Nat → Prop} {ct : Nat → Int32} {now : Int32} {ntq : Nat → Prop} {sh p cd c : Nat} {g : Nat → Int32} (hR : R0 a b) (h : LI (tZ a 29 0) (oPf b) ct (oSe b) (hI b) (hA b) up dn kp ntq True now sw)
    (hp : p < tZ a 29 0) (hcd : tI b 87 0 (10 * p + 1) = Int32.ofNat cd) (hc : tI b 87 0 (10 * p + 4) = Int32.ofNat c) (h2 : tI b 87 0 (10 * p + 2) = Int32.ofNat sh) (h5 : g 5 = tI b 87 0 (10 * p + 3)) (h6 : g 6 = tI b 87 0 (10 * p + 5)) (h7 : g 7 = tI b 87 0 (10 * p + 8)) (hse : oSe b p) (h8 : hI b p 8 = 0) : RecOk b p cd c sh (g 5) (g 6) (g 7) := by
  have np := LI_np h
  have p1 : p < 1000 := by omega
  obtain ⟨hst, -⟩ := LI_snt h p hp hse
  have hst : tI b 87 0 (10 * p) = 0 ∨ tI b 87 0 (10 * p) = 2 := hst
  have hQ : RQ a b := hR.2.2.2.2.2.2.2.2.2.2.2.1
  obtain ⟨-, -, -, -, -, -, n, n5, q1, q2, q3, q4⟩ := hQ.1 p hp
  constructor
  · rcases srcP_spec b (Int32.ofNat cd) (Int32.ofNat c) 1000 0 with ⟨e, -⟩ | ⟨-, j, -, j2, j3, j4, j5⟩
    · exact e
    · exfalso
      obtain ⟨y1, -, -, y4, y5⟩ := LI_pst h j (by omega) j3
      by_cases e : j = p
      · subst e; exact j3 h8
      · exact LI_cd h j p y1 hp e (y4.symm.trans (j4.trans hcd.symm)) (y5.symm.trans (j5.trans hc.symm))
  · rcases hst with s0 | s2
    · have e : n = 0 := inj2 (q1.symm.trans s0) (by omega) (by omega)
      subst e
      have b0 := q3 (by omega)
      rw [if_pos (h7.trans b0), h6, q4, if_pos rfl]
      unfold pst
      rw [hcd, hc, h2, ← h5]
    · have e : n = 2 := inj2 (q1.symm.trans s2) (by omega) (by omega)
      subst e
      have h9 : hI b p 9 = 0 := Decidable.byContradiction (fun w => by
        have := (LI_tkb h p p1 w).2
        have : tI b 87 0 (10 * p) = 0 ∨ tI b 87 0 (10 * p) = 4 := this
        rw [s2] at this
        exact absurd this (by decide))
      obtain ⟨z1, z2⟩ := LI_s2 h p hp s2
      have z1 : tI b 87 0 (10 * p + 8) = 1 → hI b p 0 = 1 := z1
      have z2 : tI b 87 0 (10 * p + 8) = 2 → hI b p 7 ≠ 0 ∨ ntq p := z2
      rcases q2 rfl with b1 | b2
      · rw [if_neg (by rw [h7, b1]; decide)]
        refine ⟨h9, ?_⟩
        rw [if_neg (by rw [h7, b1]; decide)]
        have k := z1 b1
        obtain ⟨-, y1, y2, y3⟩ := LI_k0 h p p1 (by rw [k]; decide)
        exact ⟨k, y1.trans hcd, y2.trans hc, y3.trans h5.symm⟩
      · rw [if_neg (by rw [h7, b2]; decide)]
        refine ⟨h9, ?_⟩
        rw [if_pos (by rw [h7, b2])]
        have k : hI b p 7 ≠ 0 := (z2 b2).elim id (fun w => absurd trivial (LI_ntp h p p1 w).2)
        obtain ⟨-, y1, y2, y3⟩ := LI_k7 h p p1 k
        exact ⟨k, y1.trans hcd, y2.trans hc, y3.trans h5.symm⟩
theorem oNt_s {a a' : TS} (h : NtS a a') : oNt a' = oNt a := by
  funext p
  unfold oNt
  rw [h.1]
  apply propext
  constructor
  · intro ⟨k, k1, k2⟩
    exact ⟨k, k1, by rw [← h.2 k k1]; exact k2⟩
  · intro ⟨k, k1, k2⟩
    exact ⟨k, k1, by rw [h.2 k k1]; exact k2⟩
theorem add1_inj {x y : Int32} (h : 1 + x = 1 + y) : x = y := by
  have e : ∀ z : Int32, 1 + z - 1 = z := fun z => by
    apply Int32.toBitVec_inj.mp
    show (1#32 + z.toBitVec) - 1#32 = z.toBitVec
    rw [BitVec.add_comm, BitVec.add_sub_cancel]
  rw [← e x, ← e y, h]
set_option maxHeartbeats 2000000 in
theorem LIc_H {a a' b b' : TS} (hE : EvH a b a' b') (h : LIc a b) : LIc a' b' := by
  obtain ⟨sh, g, q, b1, pre, post, hsh, v1, v2, v3, c1, hu, ⟨b2, c2, hH⟩, ⟨hR, -, -⟩, ⟨hR1, hN1, -⟩, n, hHrd⟩ := hE
  obtain ⟨hR', hN', -, -, hPS, hln, -, -, ca, cb, hgQ, -⟩ := hHrd
  have cc : chF DhB FhB b b' := chF_t (chF_m c1 (by decide) (by simp)) cb
  have hg : groQ b b' := groQ_t (groQ_c c1 (by decide)) hgQ
  have hC := (r_C hR1).1
  have hP200 := (r_P' hR1).1
  have hP200' := (r_P' hR').1
  have z27 : tZ a' 27 0 = tZ a 27 0 := shop_A ca
  have z29 : tZ a' 29 0 = tZ a 29 0 := dZ ca (S := [29]) (P := []) (s := 29) (by decide) (by simp) 0
  have hkl : ∀ s, s < tZ a 27 0 → kL a' b' s = kL a b s := fun s _ => kL_c ca cc (by decide) (by decide) s
  have ePf := oPf_c cc (by decide)
  have eCt := oCt_c cc (by decide)
  have eSe := oSe_c cc (by decide)
  obtain ⟨f5, f1, f6, f3⟩ := o95_c cc (by decide)
  have g5 : tI b1 95 0 5 = tI b 95 0 5 := dI c1 (S := []) (P := [(95, 5)]) (s := 95) (k := 5) (by decide) (by simp) 0
  have g3 : tI b1 95 0 3 = tI b 95 0 3 := dI c1 (S := []) (P := [(95, 3)]) (s := 95) (k := 3) (by decide) (by simp) 0
  have g73 : ∀ k, tI b1 73 0 k = tI b 73 0 k := dIS c1 (S := [73]) (P := []) (s := 73) (by decide) (by simp) 0
  have g87 : ∀ k, tI b1 87 0 k = tI b 87 0 k := dIS c1 (S := [87]) (P := []) (s := 87) (by decide) (by simp) 0
  have g70 : ∀ k, tI b1 70 0 k = tI b 70 0 k := dIS c1 (S := [70]) (P := []) (s := 70) (by decide) (by simp) 0
  refine ⟨KpQ_same h.1 z27 hkl hg, fun ht => ?_⟩
  have hL := h.2 (f6.symm.trans ht)
  have hkp := oKp_same h.1 z27 hkl hg
  have eH1 : ∀ n f, hI b1 n f = hI b n f := hI_c c1 (S := [53, 61]) (P := []) (by decide) (by simp) (by simp)
  have eH2 : ∀ n f, hI b' n f = hI b2 n f := hI_c c2 (S := [53, 61]) (P := []) (by decide) (by simp) (by simp)
  have eA1 : ∀ n t f, t = 62 ∨ t = 63 ∨ t = 64 → hA b1 n t f = hA b n t f := fun n t f ht => hA_c c1 (S := [53, 62, 63, 64]) (P := []) (t := t) (by decide) (by simp) (by rcases ht with q | q | q <;> subst q <;> simp) n f
  have eA2 : ∀ n t f, t = 62 ∨ t = 63 ∨ t = 64 → hA b' n t f = hA b2 n t f := fun n t f ht => hA_c c2 (S := [53, 62, 63, 64]) (P := []) (t := t) (by decide) (by simp) (by rcases ht with q | q | q <;> subst q <;> simp) n f
  have hq : oUp a b (tI b 95 0 1) q := ⟨sh, hsh, by rw [v1]; simp⟩
  have hup : ∀ d g, oUp a' b' d g → oUp a b d g := by
    intro d g ⟨s, s1, s2⟩
    rw [z27] at s1
    rw [(hln (2 * s) (by omega) (by omega)).2.1] at s2
    refine ⟨s, s1, ?_⟩
    by_cases e : s = sh
    · subst e
      rw [v2] at s2
      rw [v1]
      rcases List.mem_append.mp s2 with w | w
      · exact List.mem_append_left _ w
      · exact List.mem_append_right _ (List.mem_cons_of_mem _ w)
    · rw [v3 (2 * s) (by omega) (by omega)] at s2
      exact s2
  have hdo : ∀ s, s < tZ a 27 0 → s ≠ sh → vQ b' (2 * s + 1) = vQ b (2 * s + 1) := fun s hs hne => by
    rw [(hln (2 * s + 1) (by omega) (by omega)).2.1, v3 (2 * s + 1) (by omega) (by omega)]
  have hd1 : vQ b1 (2 * sh + 1) = vQ b (2 * sh + 1) := v3 (2 * sh + 1) (by omega) (by omega)
  have hdn : ∀ k td r, vQ b' (2 * sh + 1) = vQ b1 (2 * sh + 1) ++ laid k td r → ∀ d g, oDn a' b' d g → oDn a b d g ∨ g = r := by
    intro k td r hv d g ⟨s, s1, s2⟩
    rw [z27] at s1
    by_cases e : s = sh
    · subst e
      rw [hv, hd1] at s2
      rcases List.mem_append.mp s2 with w | w
      · exact Or.inl ⟨s, s1, w⟩
      · exact Or.inr (laid_mem w).1
    · rw [hdo s s1 e] at s2
      exact Or.inl ⟨s, s1, s2⟩
  obtain ⟨-, u13, -, u1, hu⟩ := hu
  have q13 : q 13 = 0 := (LI_upk hL _ q hq).1
  have sw3 : NtS a a' → ∀ p, oSw b p → oSw b' p := fun hS => oSw_m ePf (fun k hk w => by rw [nt73 hN1 hN' hS hPS.1 hP200 hP200' hk, g73]; exact w) f3
  show LI (tZ a' 29 0) (oPf b') (oCt b') (oSe b') (hI b') (hA b') (oUp a' b') (oDn a' b') (oKp a' b') (oNt a') (tI b' 95 0 5 ≠ 0) (tI b' 95 0 1) (oSw b')
  rw [z29, ePf, eCt, eSe, hkp, f5, f1]
  have lessH : NoCh b1 b2 → ∀ n f, n < 1000 → f = 0 ∨ f = 7 ∨ f = 8 ∨ f = 9 ∨ f = 12 → hI b' n f = hI b n f := fun hn n f h1 _ => by rw [eH2, hn.1 n f h1, eH1]
  have lessA : NoCh b1 b2 → ∀ n t f, n < 1000 → t = 62 ∨ t = 63 ∨ t = 64 → hA b' n t f = hA b n t f := fun hn n t f h1 h2 => by rw [eA2 n t f h2, hn.2.1 n t f h1 h2, eA1 n t f h2]
  rcases hH with ⟨-, -, hN, hNS, hD⟩ | ⟨o5, g0, hN, p, r, p1, p2, hS, ⟨cd, cd1, cd2, hSC⟩, ⟨r0, r1, r7, r8, r14⟩, m, hm, vm, -⟩ | ⟨o5, hNS, hH⟩
  · rw [oNt_s hNS]
    refine LI_less hL (lessH hN) (lessA hN) (sw3 hNS) hup (fun d g ⟨s, s1, s2⟩ => ?_)
    rw [z27] at s1
    by_cases e : s = sh
    · subst e
      rw [hD.1, hd1] at s2
      exact ⟨s, s1, s2⟩
    · rw [hdo s s1 e] at s2
      exact ⟨s, s1, s2⟩
  · rcases hu with ⟨-, q0, -, -, p', cd', c', w1, w2, w3, ⟨w4, -, w5⟩, ⟨w6, w7, -, w9, -⟩, -⟩ | ⟨u0, -⟩ | ⟨u0, -⟩ | ⟨u0, -⟩
    · have e := inj2 (w6.symm.trans p2) (by omega) (by omega)
      have e2 := inj2 (w7.symm.trans cd1) (by omega) (by omega)
      subst e
      subst e2
      rw [g5] at o5
      obtain ⟨-, m13, -, m1, hm⟩ := hm
      rcases hm with ⟨-, m0, -, -, m12, m8, -⟩ | ⟨m0, -⟩
      · obtain ⟨s1, s2, s3⟩ := hS
        obtain ⟨t1, t2, t3, t4⟩ := hSC
        have hD := hdn _ _ m vm
        rw [g87] at w4 w9
        have sD : oSw b p' ↔ SwD b1 cd' (g 5) := by
          constructor
          · intro ⟨k, k1, k2, k3⟩
            have := inj2 (k2.symm.trans w4) (by omega) (by omega)
            subst this
            unfold SwD at *
            rw [g3, g73, w9]
            exact k3
          · intro k3
            refine ⟨cd', cd2, w4, ?_⟩
            unfold SwD at *
            rw [g3, g73, w9] at k3
            exact k3
        refine LI_askS (w := r 8) (q := q) (r := m) (p := p') hL w1 hq q0 (u1.trans w6) (fun w => w o5) (lessH hN) (lessA hN) (oSw_m ePf (fun k hk w => t3 k hk (by rw [g73]; exact w)) (t4.trans g3)) (fun k ⟨j, j1, j2⟩ => ⟨j, (s1 j j1).1, (s1 j j1).2.trans j2⟩) (fun k hk ⟨j, j1, j2⟩ => ?_) r8 (fun w => ⟨s2 w, (t1 w).imp id (fun x y => x (sD.mp y))⟩) (fun w => ⟨fun ⟨j, j1, j2⟩ => (t2 w).1 j j1 j2, sD.mpr (t2 w).2⟩) hup hD ⟨m0, m1.trans r1, m13.trans r14, ?_⟩ (fun w => ?_) (fun w => ?_)
        · rcases s3 j j1 with x | ⟨k0, x1, x2⟩
          · exact Or.inr (inj2 (j2.symm.trans x) (by omega) (by omega))
          · exact Or.inl ⟨k0, x1, x2.symm.trans j2⟩
        · rw [m12, r7]; decide
        · rcases m8 with x | x
          · exact x.1
          · rw [x.2] at w; exact absurd w (by decide)
        · rcases m8 with x | x
          · rw [x.2] at w; exact absurd w (by decide)
          · exact x.1
      · rcases m0 with x | x | x <;> (rw [r0] at x; exact absurd x.1 (by decide))
    all_goals rw [g0] at u0; exact absurd u0 (by decide)
  · rw [oNt_s hNS]
    rw [g5] at o5
    rcases hH with ⟨g0, p, cd, c, r, p1, p2, p3, ⟨p4, p5, p6⟩, hAk, ⟨r0, r1, r7, r8, r14⟩, m, hm, vm, -⟩ | ⟨⟨m, hm, vm, -⟩, hH⟩
    · rcases hu with ⟨-, q0, -, -, p', cd', c', w1, w2, w3, ⟨w4, -, w5⟩, ⟨w6, w7, w8, w9, -⟩, -⟩ | ⟨u0, -⟩ | ⟨u0, -⟩ | ⟨u0, -⟩
      · have e := inj2 (w6.symm.trans p4) (by omega) (by omega)
        have e2 := inj2 (w7.symm.trans p5) (by omega) (by omega)
        have e3 := inj2 (w8.symm.trans p6) (by omega) (by omega)
        subst e
        subst e2
        subst e3
        obtain ⟨-, m13, -, m1, hm⟩ := hm
        rcases hm with ⟨-, m0, -, -, m12, m8, -⟩ | ⟨m0, -⟩
        · have hD := hdn _ _ m vm
          rw [g87] at w4 w5 w9
          have n1 : p' < 1000 := by omega
          have r8' : r 8 = hI b' p' 0 := r8.trans (eH2 p' 0).symm
          have hk : (∀ n f, n < 1000 → f = 0 ∨ f = 7 ∨ f = 8 ∨ f = 9 ∨ f = 12 → n ≠ p' ∨ f = 7 ∨ f = 8 ∨ f = 9 → hI b' n f = hI b n f) ∧ (hI b p' 0 ≠ 0 → hI b' p' 0 = hI b p' 0) ∧ (hI b' p' 12 = hI b p' 12 ∨ hI b' p' 0 = 1) ∧ (∀ n t f, n < 1000 → t = 63 ∨ t = 64 ∨ t = 62 ∧ n ≠ p' → hA b' n t f = hA b n t f) ∧ (hA b' p' 62 0 = oPf b p' 1 ∧ hA b' p' 62 1 = oPf b p' 4 ∧ hA b' p' 62 2 = oPf b p' 3) := by
            rcases hAk with ⟨x0, hn⟩ | ⟨x0, t, rs, st, told, -, -, -, vI, v62, vA, -⟩
            · refine ⟨fun n f h1 h2 _ => lessH hn n f h1 h2, fun _ => lessH hn p' 0 n1 (by simp), Or.inl (lessH hn p' 12 n1 (by simp)), fun n t f h1 h2 => lessA hn n t f h1 (by omega), ?_⟩
              rw [lessA hn p' 62 0 n1 (by simp), lessA hn p' 62 1 n1 (by simp), lessA hn p' 62 2 n1 (by simp)]
              exact (LI_k0 hL p' n1 (by rw [← eH1]; exact x0)).2
            · rw [eH1] at x0
              have i0 : hI b' p' 0 = if rs = 0 then 1 else 2 := by rw [eH2, vI p' 0 n1]; simp
              refine ⟨fun n f h1 h2 h3 => ?_, fun w => absurd x0 w, ?_, fun n t f h1 h2 => ?_, ?_, ?_, ?_⟩
              · rw [eH2, vI n f h1, ← eH1]
                by_cases e : n = p'
                · subst e
                  rcases h3 with h3 | h3 | h3 | h3
                  · exact absurd rfl h3
                  all_goals (subst h3; simp)
                · simp [e]
              · by_cases x : rs = 0
                · rw [if_pos x] at i0
                  exact Or.inr i0
                · refine Or.inl ?_
                  rw [eH2, vI p' 12 n1, ← eH1]
                  simp [x]
              · rw [eA2 n t f (by omega), ← eA1 n t f (by omega)]
                rcases h2 with h2 | h2 | ⟨h2, h3⟩
                · exact vA n t f h1 (Or.inl h2)
                · exact vA n t f h1 (Or.inr h2)
                · subst h2
                  rw [v62 n f h1]; simp [h3]
              · rw [eA2 p' 62 0 (by simp), v62 p' 0 n1]
                simp
                exact w4.symm
              · rw [eA2 p' 62 1 (by simp), v62 p' 1 n1]
                simp
                exact w5.symm
              · rw [eA2 p' 62 2 (by simp), v62 p' 2 n1]
                simp
                exact w9
          obtain ⟨k1, k2, k3, k4, k5⟩ := hk
          refine LI_askI (q := q) (r := m) (p := p') hL w1 hq q0 (u1.trans w6) o5 k1 k2 ?_ k3 k4 k5 (sw3 hNS) hup hD ⟨m0, m1.trans r1, m13.trans r14, ?_⟩ (fun w => ?_) (fun w => ?_)
          · rw [← r8']; exact m8.imp And.left And.left
          · rw [m12, r7]; rfl
          · rw [← r8']
            rcases m8 with x | x
            · exact x.1
            · rw [x.2] at w; exact absurd w (by decide)
          · rw [← r8']
            rcases m8 with x | x
            · rw [x.2] at w; exact absurd w (by decide)
            · exact x.1
        · rcases m0 with x | x | x <;> (rw [r0] at x; exact absurd x.1 (by decide))
      all_goals rw [g0] at u0; exact absurd u0 (by decide)
    · have hD := hdn _ _ m vm
      obtain ⟨-, m13, -, m1, hm⟩ := hm
      have m13 : m 13 = 0 := m13.trans (u13.symm.trans q13)
      rcases hH with ⟨g0, p, p1, p2, hT, hM⟩ | ⟨g0, n', cd, c, n1, n2, n3, ⟨n4, n5, n6⟩, hP⟩ | ⟨g0, p, n', p1, p2, p3, p4, hB, h44, h12, h13⟩
      · have hm : m 8 = 1 ∧ m 0 = 5 := by
          rcases hm with ⟨x, -⟩ | ⟨x | x | x, y⟩
          · rw [g0] at x; exact absurd x (by decide)
          · exact ⟨x.2, y⟩
          · rw [g0] at x; exact absurd x.1 (by decide)
          · rw [g0] at x; exact absurd x.1 (by decide)
        rcases hu with ⟨u0, -⟩ | ⟨-, q0, -, -, p', w1, w2, -⟩ | ⟨u0, -⟩ | ⟨u0, -⟩
        · rw [g0] at u0; exact absurd u0 (by decide)
        · obtain ⟨vI, vA, -⟩ := hT
          have pk : p < 1000 := by omega
          refine LI_tb (q := q) (r := m) (p := p) hL p1 hq q0 (u1.trans p2) (fun n f h1 h2 h3 => ?_) ?_ (fun w => ?_) (fun w => ?_) (fun n t f h1 h2 => ?_) (sw3 hNS) hup hD ⟨hm.2, m1.trans p2, m13, hm.1⟩
          · rw [eH2, vI n f h1, ← eH1]
            by_cases e : n = p
            · subst e
              rcases h3 with h3 | h3 | h3 | h3
              · exact absurd rfl h3
              all_goals (subst h3; simp)
            · simp [e]
          · rw [eH2, vI p 12 pk]; simp
          · rw [eH2, vI p 9 pk, eH1, w]; simp
          · rw [eH2, vI p 9 pk, eH1, eH1]; simp [w]
          · rw [eA2 n t f h2, vA n t f h1 h2, eA1 n t f h2]
        · rw [g0] at u0; exact absurd u0 (by decide)
        · rw [g0] at u0; exact absurd u0 (by decide)
      · have hm : m 8 = 2 ∧ m 0 = 5 := by
          rcases hm with ⟨x, -⟩ | ⟨x | x | x, y⟩
          · rw [g0] at x; exact absurd x (by decide)
          · rw [g0] at x; exact absurd x.1 (by decide)
          · exact ⟨x.2, y⟩
          · rw [g0] at x; exact absurd x.1 (by decide)
        rcases hu with ⟨u0, -⟩ | ⟨u0, -⟩ | ⟨-, q0, -, n0, p, cd', c', w1, w2, w3, w4, ⟨w5, w5'⟩, ⟨w6, w7, w8, w9⟩, ⟨-, -, -, -, y6⟩, -, -, y3, -, y5⟩ | ⟨u0, -⟩
        · rw [g0] at u0; exact absurd u0 (by decide)
        · rw [g0] at u0; exact absurd u0 (by decide)
        · have g14 : g 14 = 0 := u13.symm.trans q13
          have e0 : n0 = p := y3 g14
          subst e0
          have e1 := inj2 (w6.symm.trans n4) (by omega) (by omega)
          have e2 := inj2 (w7.symm.trans n5) (by omega) (by omega)
          have e3 := inj2 (w8.symm.trans n6) (by omega) (by omega)
          subst e1
          subst e2
          subst e3
          obtain ⟨y51, y52, y53⟩ := y5 g14
          obtain ⟨-, p', z1, z2, -, z4⟩ := LI_upk hL _ q hq
          have e4 := inj2 (z2.symm.trans (u1.trans n4)) (by omega) (by omega)
          subst e4
          obtain ⟨z5, z6⟩ := z4 q0
          have o7 : g 7 = oPf b p' 8 := add1_inj (y6.symm.trans z6)
          have hLt : LI (tZ a 29 0) (oPf b1) (oCt b) (oSe b1) (hI b1) (hA b1) (oUp a b) (oDn a b) (oKp a b) (oNt a) True (tI b 95 0 1) (oSw b) := by
            have x1 : oPf b1 = oPf b := funext fun p => funext fun f => g87 _
            have x2 : oSe b1 = oSe b := funext fun p => by unfold oSe; rw [g70]
            have x3 : hI b1 = hI b := funext fun n => funext fun f => eH1 n f
            have x4 : (tI b 95 0 5 ≠ 0) = True := eq_true o5
            rw [x1, x2, x3, ← x4]
            refine LI_less hL (fun n f _ _ => rfl) (fun n t f _ ht => eA1 n t f ht) (fun _ w => w) (fun _ _ w => w) (fun _ _ w => w)
          have hrec : hI b1 p' 8 = 0 → RecOk b1 p' cd' c' sh (g 5) (g 6) (g 7) := fun w8 => RecOk_of hR1 hLt z1 w5 w5' y51 w9 y53 (o7.trans (g87 _).symm) (by unfold oSe; rw [g70]; exact z5) w8
          have pk : p' < 1000 := by omega
          have w5b : oPf b p' 1 = Int32.ofNat cd' := (g87 _).symm.trans w5
          have w5c : oPf b p' 4 = Int32.ofNat c' := (g87 _).symm.trans w5'
          rcases hP with ⟨h8, hn⟩ | ⟨h8, hno, -⟩ | ⟨h8, -, t, -, -, vI, v64, vA, -⟩
          · rw [eH1] at h8
            obtain ⟨-, -, -, k1, k2⟩ := LI_pst hL p' pk h8
            refine LI_rec (q := q) (r := m) (p := p') hL z1 hq q0 (u1.trans n4) (fun n f h1 h2 _ => lessH hn n f h1 h2) (Or.inl (lessH hn p' 12 pk (by simp))) ?_ (fun n t f h1 h2 => lessA hn n t f h1 (by omega)) ?_ (sw3 hNS) hup hD ⟨hm.2, m1.trans n4, m13, hm.1⟩
            · rw [lessH hn p' 8 pk (by simp)]; exact h8
            · rw [lessA hn p' 64 0 pk (by simp), lessA hn p' 64 1 pk (by simp)]; exact ⟨k1, k2⟩
          · exact absurd (hrec h8) hno
          · refine LI_rec (q := q) (r := m) (p := p') hL z1 hq q0 (u1.trans n4) (fun n f h1 h2 h3 => ?_) (Or.inr ?_) ?_ (fun n t f h1 h2 => ?_) ⟨?_, ?_⟩ (sw3 hNS) hup hD ⟨hm.2, m1.trans n4, m13, hm.1⟩
            · rw [eH2, vI n f h1, ← eH1]
              by_cases e : n = p'
              · subst e
                rcases h3 with h3 | h3 | h3 | h3
                · exact absurd rfl h3
                all_goals (subst h3; simp)
              · simp [e]
            · rw [eH2, vI p' 12 pk]; simp
            · rw [eH2, vI p' 8 pk]; simp
            · rw [eA2 n t f (by omega), ← eA1 n t f (by omega)]
              rcases h2 with h2 | h2 | ⟨h2, h3⟩
              · exact vA n t f h1 (Or.inl h2)
              · exact vA n t f h1 (Or.inr h2)
              · subst h2
                rw [v64 n f h1]; simp [h3]
            · rw [eA2 p' 64 0 (by simp), v64 p' 0 pk, w5b]; simp
            · rw [eA2 p' 64 1 (by simp), v64 p' 1 pk, w5c]; simp
        · rw [g0] at u0; exact absurd u0 (by decide)
      · have hm : m 8 = 3 ∧ m 0 = 5 := by
          rcases hm with ⟨x, -⟩ | ⟨x | x | x, y⟩
          · rw [g0] at x; exact absurd x (by decide)
          · rw [g0] at x; exact absurd x.1 (by decide)
          · rw [g0] at x; exact absurd x.1 (by decide)
          · exact ⟨x.2, y⟩
        obtain ⟨t, -, vI, vA, -⟩ := hB
        refine LI_dnew (p := p) (r := m) (dn := oDn a b) (LI_less hL (fun n f h1 h2 => ?_) (fun n t f h1 h2 => ?_) (sw3 hNS) hup (fun d g w => w)) p1 hD ⟨hm.2, m1.trans p3, m13, hm.1⟩
        · rw [eH2, vI n f h1, if_neg (fun w => by omega), eH1]
        · rw [eA2 n t f h2, vA n t f h1 h2, eA1 n t f h2]
theorem LI_swd {nP : Nat} {pf : Nat → Nat → Int32} {ctr : Nat → Int32} {sent : Nat → Prop} {H : Nat → Nat → Int32} {A : Nat → Nat → Nat → Int32} {up dn : Int32 → (Nat → Int32) → Prop} {kp : (Nat → Int32) → Prop} {nt : Nat → Prop} {opn : Prop} {now : Int32} {swd : Nat → Prop} {swd' : Nat → Prop} (h : LI nP pf ctr sent H A up dn kp nt opn now swd) (hs : ∀ p, p < nP → swd p → swd' p) : LI nP pf ctr sent H A up dn kp nt opn now swd' := by
  obtain ⟨np, cd, ct, upk, kpk, dnk, pst, sntI, tkb, s4, s2, k0, k7, hld, ntp, j0, j1, j2⟩ := h
  refine ⟨np, cd, ct, upk, kpk, dnk, pst, sntI, tkb, s4, s2, k0, k7, hld, ntp, j0, fun n hn x => ?_, j2⟩
  obtain ⟨y1, y2, y3, y4⟩ := j1 n hn x
  exact ⟨y1, y2, y3, fun d w => ⟨(y4 d w).1, (y4 d w).2.1, fun w2 => hs n hn ((y4 d w).2.2 w2)⟩⟩
