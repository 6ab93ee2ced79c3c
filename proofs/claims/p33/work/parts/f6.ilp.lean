/-! ===== what holds between the law's acts: a day, a payment ===== -/
theorem IL_day {a0 a a1 b b1 : TS} {u T L : Nat} {t : List Int32} (h : IL a0 a b u T L t) (hu : u + 1 ≤ 71) (hC' : Core (sI a1 25 0 1 (tI b 97 0 6 + 1)) (sI (sI b1 97 0 6 (tI b 97 0 6 + 1)) 94 0 11 (tI b 97 0 6 + 1)) u) (hw : Wr a (sI a1 25 0 1 (tI b 97 0 6 + 1))) (hS : StpE EvE a b a1 b1) (ca : chF [] [(96, 9), (36, 11), (36, 12)] a a1) (cb : chF [45, 46] [(91, 7)] b b1) :
    IL a0 (sI a1 25 0 1 (tI b 97 0 6 + 1)) (sI (sI b1 97 0 6 (tI b 97 0 6 + 1)) 94 0 11 (tI b 97 0 6 + 1)) (u + 1) T L t := by
  obtain ⟨put, D, k, ⟨h1, h2, h3, h4⟩, hC, hT, hM, hL, hK, hf, hF, hTL, hN, hW⟩ := h
  have ca' : chF [] [(96, 9), (36, 11), (36, 12), (25, 1)] a (sI a1 25 0 1 (tI b 97 0 6 + 1)) := chF_I (by decide) (chF_m ca (by decide) (by decide))
  have cb' : chF [45, 46] [(91, 7), (97, 6), (94, 11)] b (sI (sI b1 97 0 6 (tI b 97 0 6 + 1)) 94 0 11 (tI b 97 0 6 + 1)) := chF_I (by decide) (chF_I (by decide) (chF_m cb (by decide) (by decide)))
  have hM' := MonI_day hM hf hS (tI b 97 0 6 + 1)
  have e97 : tI b 97 0 6 + 1 = Int32.ofNat (D + 1) := by rw [hM.2.2.1.1, o_s]
  have hM2 : MonI (sI a1 25 0 1 (tI b 97 0 6 + 1)) (sI (sI b1 97 0 6 (tI b 97 0 6 + 1)) 94 0 11 (tI b 97 0 6 + 1)) (D + 1) put := by
    have e : sI (sI b1 97 0 6 (tI b 97 0 6 + 1)) 94 0 11 (tI b 97 0 6 + 1) = sI (sI b1 97 0 6 (Int32.ofNat (D + 1))) 94 0 11 (tI b 97 0 6 + 1) := by rw [e97]
    rw [e]
    exact hM'
  clear hM'
  generalize sI a1 25 0 1 (tI b 97 0 6 + 1) = A at *
  generalize sI (sI b1 97 0 6 (tI b 97 0 6 + 1)) 94 0 11 (tI b 97 0 6 + 1) = B at *
  have z29 : tZ A 29 0 = tZ a 29 0 := dZ ca' (S := [29]) (P := []) (s := 29) (by decide) (by simp) 0
  have hg : groQ b B := groQ_c cb' (by decide)
  have hv := (Ln0_o hC.1.2.2.1.1 ca' cb' (by decide) (by decide) (by decide) hg).2
  refine ⟨put, D + 1, k, ⟨by omega, by omega, by omega, hu⟩, Core_C hC' (by omega) (by omega), ?_, hM2, ?_, KlB_c hK ca' cb' (by decide) (by decide), FeeI_c hf cb' (by decide), FtI_F2 (FtI_c hF ca' cb' (by decide) (by decide)) (by omega) (Nat.le_refl _), TL_c hTL ca' cb' (by decide) (by decide), NP0_c hN ca' cb' (by decide) (by decide), WrX_w hW hw⟩
  · rw [dI cb' (S := []) (P := [(95, 1)]) (s := 95) (k := 1) (by decide) (by simp) 0]; exact hT
  · exact LIc_any hC.1 hC'.1 hL ca' cb' (by decide) (gro_c ca' (by decide)) (by decide) hg (fun c hc => (hv c hc).2) (fun n f _ _ => hI_c cb' (S := [53, 61]) (P := []) (by decide) (by simp) (by simp) n f)
/-- a payment gets a number -/
theorem IL_pay {a0 a a' b b' : TS} {u T L cd sh : Nat} {m pin : Int32} {t : List Int32} (h : IL a0 a b u T L t) (hu : u + 1 ≤ 71) (hl : t.length = 60) (hcd : cd < tZ a 28 0) (hsh : sh < tZ a 27 0) (hC' : Core a' b' u) (hw : Wr a a') (hE : PayP a b a' b' cd sh m pin) :
    IL a0 a' b' (u + 1) T L ((t.set 3 (Int32.ofNat (tZ a 29 0 + 1))).set (50 + cd) (tI b' 86 0 (10 * cd))) := by
  obtain ⟨put, D, k, ⟨h1, h2, h3, h4⟩, hC, hT, hM, hL, hK, hf, hF, hTL, hN, hW⟩ := h
  have hE' := hE
  obtain ⟨c, c1, c2, z29, v87, ⟨n1, n2, n3, n4, n6⟩, ⟨w0, -, -⟩, w86, -, ca, cb, cb0⟩ := hE'
  have hC8 := (r_C hC.1.1).1
  have z : ∀ s, s ∈ [26, 27, 28] → tZ a' s 0 = tZ a s 0 := fun s hs => dZ ca (S := [26, 27, 28]) (P := []) (s := s) (by decide) hs 0
  refine ⟨put, D, k, ⟨by omega, by omega, by omega, hu⟩, Core_C hC' (by omega) (by omega), ?_, MonI_pay hC.1.1 hC'.1.1 hE hM, LIc_pay hC.1 (by omega) hcd hsh hE hL, KlB_pay hE hK, FeeI_c hf cb (by decide), FtI_F2 (FtI_pay hE hF) (by omega) (Nat.le_refl _), ?_, NP0_t (by omega), WrX_w hW hw⟩
  · rw [dI cb (S := []) (P := [(95, 1)]) (s := 95) (k := 1) (by decide) (by simp) 0]; exact hT
  · obtain ⟨⟨q0, q1, q2, q3, q4⟩, ⟨sA, sS, sC⟩, s3, s4, s5, s6⟩ := hTL
    have g : ∀ j, ((t.set 3 (Int32.ofNat (tZ a 29 0 + 1))).set (50 + cd) (tI b' 86 0 (10 * cd))).getD j 0 = if j = 50 + cd then tI b' 86 0 (10 * cd) else if j = 3 then Int32.ofNat (tZ a 29 0 + 1) else t.getD j 0 := fun j => by
      rw [getD_set (by rw [List.length_set]; omega), getD_set (by omega)]
    have e6 := dI cb (S := []) (P := [(95, 6)]) (s := 95) (k := 6) (by decide) (by simp) 0
    have e88 := dIS cb (S := [88]) (P := []) (s := 88) (by decide) (by simp) 0
    have e91 := dL cb (S := []) (P := [(91, 8)]) (s := 91) (k := 8) (by decide) (by simp) 0
    unfold TL
    rw [z 26 (by simp), z 27 (by simp), z 28 (by simp), z29, e6, e91]
    refine ⟨⟨by rw [g, if_neg (by omega), if_neg (by omega)]; exact q0, by rw [g, if_neg (by omega), if_neg (by omega)]; exact q1, by rw [g, if_neg (by omega), if_neg (by omega)]; exact q2, by rw [g, if_neg (by omega), if_pos rfl], by rw [g, if_neg (by omega), if_neg (by omega)]; exact q4⟩, ⟨sA, sS, sC⟩, fun x hx => by rw [g, if_neg (by omega), if_neg (by omega)]; exact s3 x hx, fun x hx => ?_, fun x hx => by rw [g, if_neg (by omega), if_neg (by omega), e88]; exact s5 x hx, s6⟩
    obtain ⟨y1, y2, y3⟩ := s4 x hx
    rw [g, g, g, if_neg (by omega), if_neg (by omega), if_neg (by omega), if_neg (by omega), w86 _ (by omega), w86 _ (by omega)]
    refine ⟨y1, y2, ?_⟩
    by_cases e : x = cd
    · subst e
      rw [if_pos rfl]
    · rw [if_neg (by omega), if_neg (by omega), w86 _ (by omega)]
      exact y3
/-- a wrong PIN -/
theorem IL_pin {a0 a a' b b' : TS} {u T L cd : Nat} {v : Int32} {t : List Int32} (h : IL a0 a b u T L t) (hcd : cd < tZ a 28 0) (hC' : Core a' b' u) (hw : Wr a a') (ca : chF [] [(37, 7)] a a') (eb : b' = sI b 86 0 (10 * cd + 1) v) : IL a0 a' b' u T L t := by
  obtain ⟨put, D, k, h1, hC, hT, hM, hL, hK, hf, hF, hTL, hN, hW⟩ := h
  have cb : chF [86] [] b b' := by
    rw [eb]
    exact chF_I (Or.inl (by simp)) (chF_r _ _ _)
  have v86 : ∀ j, j ≠ 10 * cd + 1 → tI b' 86 0 j = tI b 86 0 j := fun j hj => by rw [eb, tI_sI, if_neg (fun q => hj q.2.2)]
  have z : ∀ s, s ∈ [26, 27, 28, 29] → tZ a' s 0 = tZ a s 0 := fun s hs => dZ ca (S := [26, 27, 28, 29]) (P := []) (s := s) (by decide) hs 0
  have hg : groQ b b' := groQ_c cb (by decide)
  have hv := (Ln0_o hC.1.2.2.1.1 ca cb (by decide) (by decide) (by decide) hg).2
  refine ⟨put, D, k, by rw [z 29 (by simp)]; exact h1, hC', ?_, MonI_any hC.1.1 hC'.1.1 hM ca cb (by decide) (by decide), ?_, KlB_c hK ca cb (by decide) (by decide), FeeI_c hf cb (by decide), FtI_c hF ca cb (by decide) (by decide), ?_, fun w j hj => ?_, WrX_w hW hw⟩
  · rw [dI cb (S := []) (P := [(95, 1)]) (s := 95) (k := 1) (by decide) (by simp) 0]; exact hT
  · exact LIc_any hC.1 hC'.1 hL ca cb (by decide) (gro_c ca (by decide)) (by decide) hg (fun c hc => (hv c hc).2) (fun n f _ _ => hI_c cb (S := [53, 61]) (P := []) (by decide) (by simp) (by simp) n f)
  · exact TL_g hTL ⟨z 26 (by simp), z 27 (by simp), z 28 (by simp), z 29 (by simp)⟩ (dI cb (S := []) (P := [(95, 6)]) (s := 95) (k := 6) (by decide) (by simp) 0) (fun k hk => ⟨v86 _ (by omega), v86 _ (by omega), v86 _ (by omega)⟩) (dIS cb (S := [88]) (P := []) (s := 88) (by decide) (by simp) 0) (dL cb (S := []) (P := [(91, 8)]) (s := 91) (k := 8) (by decide) (by simp) 0)
  · rw [z 29 (by simp)] at w
    rw [z 28 (by simp)] at hj
    rw [v86 _ (by omega), v86 _ (by omega)]
    exact hN w j hj
