/-! ===== the parts together ===== -/
def R0 (a b : TS) : Prop := FxC a ∧ FxR b ∧ RB a b ∧ RS a b ∧ RM a b ∧ RW a b ∧ RV a b ∧ RC a b ∧ RD a b ∧ RE a b ∧ RP a b ∧ RQ a b ∧ RH a b ∧ RK a b ∧ RG a b ∧ RO a b ∧ RZ a b
theorem RO_v {a a' b b' : TS} (h : RO a b) (w8 : ∀ n, n < 1000 → hI b' n 8 = hI b n 8) (w64 : ∀ n f, n < 1000 → hA b' n 64 f = hA b n 64 f) (i2 : ∀ i k, tI a' 2 i k = tI a 2 i k) (z28 : tZ a' 28 0 = tZ a 28 0)
    (c1 : tI a' 30 0 3 = tI a 30 0 3) (c2 : tI a' 30 0 4 = tI a 30 0 4) (d1 : tI b' 94 0 12 = tI b 94 0 12) (d2 : tI b' 94 0 13 = tI b 94 0 13) : RO a' b' := by
  obtain ⟨h1, h2, h3, h4⟩ := h
  refine ⟨fun cd c q1 q2 => ?_, fun n hn q => ?_, by rw [c1, d1]; exact h3, by rw [c2, d2]; exact h4⟩
  · rw [i2]
    rw [z28] at q1
    rcases h1 cd c q1 q2 with e | ⟨n, n1, n2, n3, n4, n5⟩
    · exact Or.inl e
    · exact Or.inr ⟨n, n1, n2, by rw [w8 n n1]; exact n3, by rw [w64 n _ n1]; exact n4, by rw [w64 n _ n1]; exact n5⟩
  · rw [w8 n hn] at q
    obtain ⟨cd, c, q1, q2, q3, q4, q5⟩ := h2 n hn q
    exact ⟨cd, c, by rw [z28]; exact q1, q2, by rw [w64 n _ hn]; exact q3, by rw [w64 n _ hn]; exact q4, by rw [i2]; exact q5⟩
theorem RZ_v {a a' b b' : TS} (h : RZ a b) (w8 : ∀ n, n < 1000 → hI b' n 8 = hI b n 8) (w64 : ∀ n f, n < 1000 → hA b' n 64 f = hA b n 64 f) (w14 : ∀ n, n < 1000 → hI b' n 14 = hI b n 14) (v8 : ∀ n, n < 1000 → kR a' n 8 = kR a n 8)
    (g7 : ∀ i k, tI a' 7 i k = tI a 7 i k) (w87 : ∀ i k, tI b' 87 i k = tI b 87 i k) (z29 : tZ a' 29 0 = tZ a 29 0) (n7 : tN a' 7 = tN a 7) : RZ a' b' := by
  refine ⟨fun i hi => ?_, ?_⟩
  · obtain ⟨n, n1, n2⟩ := h.1 i (by rw [← n7]; exact hi)
    exact ⟨n, n1, by rw [v8 n n1]; exact n2⟩
  intro n hn q
  rw [w8 n hn] at q
  obtain ⟨p, h1, h2⟩ := h.2 n hn q
  refine ⟨p, by rw [z29]; exact h1, ?_⟩
  simp only [w64 n _ hn, w14 n hn, v8 n hn, g7, w87]
  exact h2
/-- a number is looked up, and made if it isn't known: by the class, by the reference -/
theorem lookA {a b : TS} {n : Nat} (hR : R0 a b) (hn : n < 1000) : ∃ a1 j, (∀ z, Ex 15 [aR (some (30, 0)), aI (Int32.ofNat n)] (enc 1 a z) = some (.inl (some (aR (some (4, j)))), enc 1 a1 z)) ∧
    R0 a1 b ∧ tR a1 3 0 n = some (4, j) ∧ j < tN a1 4 ∧ (∀ f, kI a1 n f = kI a n f) ∧ (∀ f, kR a1 n f = kR a n f) ∧ chF [3, 4] [] a a1 ∧ Wr a a1 := by
  obtain ⟨hFC, hFR, hB, hS, hM, hW, hV, hC, hD, hE, hP, hQ, hH, hK, hG, hO, hZ⟩ := hR
  obtain ⟨a1, j, x, x1, x2, x3, x4, x5, x6, x7, x8, x9, wa⟩ := x15 hFC hK.1 hn
  have ha : chF [3, 4] [] a a1 := chF_g x6
  have hb : chF [] [] b b := chF_r _ _ _
  have wb : Wr b b := Wr.rf b
  have hK' : RK a1 b := ⟨x3, hK.2.1, fun n' hn' => KnR_v (hK.2.2 n' hn') (fun f => x4 n' f hn') (fun f => x5 n' f hn') (fun f => rfl) (fun t f ht => rfl) (dZ ha (S := [26]) (P := []) (by decide) (by simp) 0) (dZ ha (S := [27]) (P := []) (by decide) (by simp) 0) (dZ ha (S := [28]) (P := []) (by decide) (by simp) 0) (fun k => rfl) (gro_c ha (by decide)) (gro_c ha (by decide)) (gro_c ha (by decide)) (gro_c ha (by decide))⟩
  have hZ' : RZ a1 b := RZ_v hZ (fun n' hn' => rfl) (fun n' f hn' => rfl) (fun n' hn' => rfl) (fun n' hn' => x5 n' 8 hn') (dIS ha (S := [7]) (P := []) (by decide) (by simp)) (fun _ _ => rfl) (dZ ha (S := [29]) (P := []) (by decide) (by simp) 0) (dN ha (S := [7]) (P := []) (by decide) (by simp))
  exact ⟨a1, j, x, ⟨FxC_s hFC wa ha (by decide), FxR_s hFR wb hb (by decide), RB_c hB ha hb (by decide) (by decide), RS_c hS ha hb (by decide) (by decide), RM_c hM ha hb (by decide) (by decide), RW_c hW ha hb (by decide) (by decide), RV_c hV ha hb (by decide) (by decide), RC_c hC ha hb (by decide) (by decide), RD_c hD ha hb (by decide) (by decide), RE_c hE ha hb (by decide) (by decide), RP_c hP ha hb (by decide) (by decide), RQ_c hQ ha hb (by decide) (by decide), RH_c hH ha hb (by decide) (by decide), hK', RG_c hG ha hb (by decide) (by decide), RO_c hO ha hb (by decide) (by decide), hZ'⟩, x1, x2, fun f => x4 n f hn, fun f => x5 n f hn, ha, wa⟩
theorem lookB {a b : TS} {n : Nat} (hR : R0 a b) (hn : n < 1000) : ∃ b1 j', (∀ z, Ex 158 [aR (some (94, 0)), aI (Int32.ofNat n)] (enc 2 b z) = some (.inl (some (aR (some (61, j')))), enc 2 b1 z)) ∧
    R0 a b1 ∧ tR b1 53 0 n = some (61, j') ∧ j' < tN b1 61 ∧ (∀ n' f, n' < 1000 → hI b1 n' f = hI b n' f) ∧ (∀ n' t f, n' < 1000 → (t = 62 ∨ t = 63 ∨ t = 64) → hA b1 n' t f = hA b n' t f) ∧ chF [53, 61, 62, 63, 64] [] b b1 ∧ Wr b b1 := by
  obtain ⟨hFC, hFR, hB, hS, hM, hW, hV, hC, hD, hE, hP, hQ, hH, hK, hG, hO, hZ⟩ := hR
  obtain ⟨b1, j', y, y1, y2, y3, y4, y5, y6, y7, y8, y9, wb⟩ := y158 hFR hK.2.1 hn
  have ha : chF [] [] a a := chF_r _ _ _
  have wa : Wr a a := Wr.rf a
  have hb : chF [53, 61, 62, 63, 64] [] b b1 := chF_g y6
  have hK' : RK a b1 := ⟨hK.1, y3, fun n' hn' => KnR_v (hK.2.2 n' hn') (fun f => rfl) (fun f => rfl) (fun f => y4 n' f hn') (fun t f ht => y5 n' t f hn' ht) rfl rfl rfl (fun k => dIS hb (S := [86]) (P := []) (by decide) (by simp) 0 k) (gro_r _ _) (gro_r _ _) (gro_r _ _) (gro_r _ _)⟩
  have hO' : RO a b1 := RO_v hO (fun n' hn' => y4 n' 8 hn') (fun n' f hn' => y5 n' 64 f hn' (Or.inr (Or.inr rfl))) (fun _ _ => rfl) rfl rfl rfl (dIS hb (S := [94]) (P := []) (by decide) (by simp) 0 12) (dIS hb (S := [94]) (P := []) (by decide) (by simp) 0 13)
  have hZ' : RZ a b1 := RZ_v hZ (fun n' hn' => y4 n' 8 hn') (fun n' f hn' => y5 n' 64 f hn' (Or.inr (Or.inr rfl))) (fun n' hn' => y4 n' 14 hn') (fun n' hn' => rfl) (fun _ _ => rfl) (dIS hb (S := [87]) (P := []) (by decide) (by simp)) rfl rfl
  exact ⟨b1, j', y, ⟨FxC_s hFC wa ha (by decide), FxR_s hFR wb hb (by decide), RB_c hB ha hb (by decide) (by decide), RS_c hS ha hb (by decide) (by decide), RM_c hM ha hb (by decide) (by decide), RW_c hW ha hb (by decide) (by decide), RV_c hV ha hb (by decide) (by decide), RC_c hC ha hb (by decide) (by decide), RD_c hD ha hb (by decide) (by decide), RE_c hE ha hb (by decide) (by decide), RP_c hP ha hb (by decide) (by decide), RQ_c hQ ha hb (by decide) (by decide), RH_c hH ha hb (by decide) (by decide), hK', RG_c hG ha hb (by decide) (by decide), hO', hZ'⟩, y1, y2, fun n' f hn' => y4 n' f hn', fun n' t f hn' ht => y5 n' t f hn' ht, hb, wb⟩
theorem look {a b : TS} {n : Nat} (hR : R0 a b) (hn : n < 1000) : ∃ a1 b1 j j', (∀ z, Ex 15 [aR (some (30, 0)), aI (Int32.ofNat n)] (enc 1 a z) = some (.inl (some (aR (some (4, j)))), enc 1 a1 z)) ∧ (∀ z, Ex 158 [aR (some (94, 0)), aI (Int32.ofNat n)] (enc 2 b z) = some (.inl (some (aR (some (61, j')))), enc 2 b1 z)) ∧
    R0 a1 b1 ∧ tR a1 3 0 n = some (4, j) ∧ j < tN a1 4 ∧ tR b1 53 0 n = some (61, j') ∧ j' < tN b1 61 ∧ (∀ f, kI a1 n f = kI a n f) ∧ (∀ f, kR a1 n f = kR a n f) ∧ (∀ n' f, n' < 1000 → hI b1 n' f = hI b n' f) ∧ (∀ n' t f, n' < 1000 → (t = 62 ∨ t = 63 ∨ t = 64) → hA b1 n' t f = hA b n' t f) ∧ chF [3, 4] [] a a1 ∧ chF [53, 61, 62, 63, 64] [] b b1 ∧ Wr a a1 ∧ Wr b b1 := by
  obtain ⟨a1, j, p1, p2, p3, p4, p5, p6, p7, p8⟩ := lookA hR hn
  obtain ⟨b1, j', q1, q2, q3, q4, q5, q6, q7, q8⟩ := lookB p2 hn
  exact ⟨a1, b1, j, j', p1, q1, q2, p3, p4, q3, q4, p5, p6, q5, q6, p7, q7, p8, q8⟩
