/-! ===== a part stands when nothing that it rests on has changed ===== -/
theorem kI_c {D : List Nat} {F : List (Nat × Nat)} {S : List Nat} {P : List (Nat × Nat)} {a a' : TS} (ha : chF D F a a') (hd : dpk D F S P = true) (h3 : 3 ∈ S) (h4 : 4 ∈ S) : ∀ n f, kI a' n f = kI a n f := fun n f => by
  unfold kI
  rw [dR ha hd h3]
  split
  · exact dIS ha hd h4 _ _
  · rfl
theorem kR_c {D : List Nat} {F : List (Nat × Nat)} {S : List Nat} {P : List (Nat × Nat)} {a a' : TS} (ha : chF D F a a') (hd : dpk D F S P = true) (h3 : 3 ∈ S) (h4 : 4 ∈ S) : ∀ n f, kR a' n f = kR a n f := fun n f => by
  unfold kR
  rw [dR ha hd h3]
  split
  · exact dR ha hd h4 _ _
  · rfl
theorem hI_c {D : List Nat} {F : List (Nat × Nat)} {S : List Nat} {P : List (Nat × Nat)} {a a' : TS} (ha : chF D F a a') (hd : dpk D F S P = true) (h3 : 53 ∈ S) (h4 : 61 ∈ S) : ∀ n f, hI a' n f = hI a n f := fun n f => by
  unfold hI
  rw [dR ha hd h3]
  split
  · exact dIS ha hd h4 _ _
  · rfl
theorem hA_c {D : List Nat} {F : List (Nat × Nat)} {S : List Nat} {P : List (Nat × Nat)} {a a' : TS} (ha : chF D F a a') (hd : dpk D F S P = true) {t : Nat} (h3 : 53 ∈ S) (h4 : t ∈ S) : ∀ n f, hA a' n t f = hA a n t f := fun n f => by
  unfold hA
  rw [dR ha hd h3]
  split
  · exact dIS ha hd h4 _ _
  · rfl
theorem pst_c {D : List Nat} {F : List (Nat × Nat)} {S : List Nat} {P : List (Nat × Nat)} {a a' : TS} (ha : chF D F a a') (hd : dpk D F S P = true) (h3 : 87 ∈ S) : ∀ p t, pst a' p t = pst a p t := fun p t => by
  unfold pst
  rw [dIS ha hd h3, dIS ha hd h3, dIS ha hd h3, dIS ha hd h3]
theorem KsA_c {D : List Nat} {F : List (Nat × Nat)} {S : List Nat} {P : List (Nat × Nat)} {a a' : TS} (h : KsA a) (ha : chF D F a a') (hd : dpk D F S P = true) (h3 : 3 ∈ S) (h4 : 4 ∈ S) : KsA a' := by
  unfold KsA at *
  simp only [dR ha hd h3, dN ha hd h4]
  exact h
theorem KsB_c {D : List Nat} {F : List (Nat × Nat)} {S : List Nat} {P : List (Nat × Nat)} {a a' : TS} (h : KsB a) (ha : chF D F a a') (hd : dpk D F S P = true) (h3 : 53 ∈ S) (h4 : 61 ∈ S) (h5 : 62 ∈ S) (h6 : 63 ∈ S) (h7 : 64 ∈ S) : KsB a' := by
  unfold KsB at *
  simp only [dR ha hd h3, dR ha hd h4, dN ha hd h4, dN ha hd h5, dN ha hd h6, dN ha hd h7, dZ ha hd h5, dZ ha hd h6, dZ ha hd h7]
  exact h
theorem RB_c {D D' : List Nat} {F F' : List (Nat × Nat)} {a a' b b' : TS} (h : RB a b) (ha : chF D F a a') (hb : chF D' F' b b') (hd : dpk D F [26] [(35, 0), (35, 1), (35, 2), (96, 9), (96, 10)] = true) (hd' : dpk D' F' [43, 44, 47] [(91, 5), (91, 7), (91, 8)] = true) : RB a' b' := by
  unfold RB capOK at *
  simp only [dC ha hd (s := 26) (by decide), dIS hb hd' (s := 47) (by decide), dI ha hd (s := 35) (k := 2) (by decide), dI hb hd' (s := 91) (k := 5) (by decide), dLS hb hd' (s := 43) (by decide), dLS hb hd' (s := 44) (by decide), dL ha hd (s := 35) (k := 0) (by decide), dL ha hd (s := 35) (k := 1) (by decide), dL ha hd (s := 96) (k := 10) (by decide), dL ha hd (s := 96) (k := 9) (by decide), dL hb hd' (s := 91) (k := 7) (by decide), dL hb hd' (s := 91) (k := 8) (by decide), dNP ha hd (s := 35) (k := 1) (by decide), dR ha hd (s := 26) (by decide), dZ ha hd (s := 26) (by decide)]
  exact h
theorem RS_c {D D' : List Nat} {F F' : List (Nat × Nat)} {a a' b b' : TS} (h : RS a b) (ha : chF D F a a') (hb : chF D' F' b b') (hd : dpk D F [18, 19, 20, 21, 22, 27] [(36, 0), (36, 1), (36, 2)] = true) (hd' : dpk D' F' [88, 89] [(91, 6), (93, 7), (95, 9)] = true) : RS a' b' := by
  unfold RS capOK at *
  simp only [dC ha hd (s := 27) (by decide), dIS hb hd' (s := 88) (by decide), dIS hb hd' (s := 89) (by decide), dI ha hd (s := 36) (k := 0) (by decide), dI ha hd (s := 36) (k := 1) (by decide), dI ha hd (s := 36) (k := 2) (by decide), dI hb hd' (s := 91) (k := 6) (by decide), dI hb hd' (s := 93) (k := 7) (by decide), dI hb hd' (s := 95) (k := 9) (by decide), dN ha hd (s := 18) (by decide), dN ha hd (s := 19) (by decide), dN ha hd (s := 20) (by decide), dN ha hd (s := 21) (by decide), dN ha hd (s := 22) (by decide), dNP ha hd (s := 36) (k := 0) (by decide), dR ha hd (s := 27) (by decide), dRP ha hd (s := 36) (k := 0) (by decide), dZ ha hd (s := 20) (by decide), dZ ha hd (s := 27) (by decide)]
  exact h
theorem RM_c {D D' : List Nat} {F F' : List (Nat × Nat)} {a a' b b' : TS} (h : RM a b) (ha : chF D F a a') (hb : chF D' F' b b') (hd : dpk D F [27] [(36, 9), (36, 10)] = true) (hd' : dpk D' F' [69, 90] [] = true) : RM a' b' := by
  unfold RM at *
  simp only [dIS hb hd' (s := 69) (by decide), dIS hb hd' (s := 90) (by decide), dI ha hd (s := 36) (k := 10) (by decide), dI ha hd (s := 36) (k := 9) (by decide), dZ ha hd (s := 27) (by decide)]
  exact h
theorem RW_c {D D' : List Nat} {F F' : List (Nat × Nat)} {a a' b b' : TS} (h : RW a b) (ha : chF D F a a') (hb : chF D' F' b b') (hd : dpk D F [27] [(36, 11), (36, 12)] = true) (hd' : dpk D' F' [45, 46] [] = true) : RW a' b' := by
  unfold RW at *
  simp only [dLS hb hd' (s := 45) (by decide), dLS hb hd' (s := 46) (by decide), dL ha hd (s := 36) (k := 11) (by decide), dL ha hd (s := 36) (k := 12) (by decide), dZ ha hd (s := 27) (by decide)]
  exact h
theorem RV_c {D D' : List Nat} {F F' : List (Nat × Nat)} {a a' b b' : TS} (h : RV a b) (ha : chF D F a a') (hb : chF D' F' b b') (hd : dpk D F [20, 27] [] = true) (hd' : dpk D' F' [60] [] = true) : RV a' b' := by
  unfold RV at *
  simp only [dIS ha hd (s := 20) (by decide), dIS hb hd' (s := 60) (by decide), dZ ha hd (s := 27) (by decide)]
  exact h
theorem RC_c {D D' : List Nat} {F F' : List (Nat × Nat)} {a a' b b' : TS} (h : RC a b) (ha : chF D F a a') (hb : chF D' F' b b') (hd : dpk D F [1, 2, 26, 28] [(37, 0), (37, 2), (37, 3), (37, 5)] = true) (hd' : dpk D' F' [86] [(93, 6)] = true) : RC a' b' := by
  unfold RC capOK at *
  simp only [dC ha hd (s := 28) (by decide), dIS hb hd' (s := 86) (by decide), dI ha hd (s := 37) (k := 0) (by decide), dI ha hd (s := 37) (k := 2) (by decide), dI ha hd (s := 37) (k := 3) (by decide), dI ha hd (s := 37) (k := 5) (by decide), dI hb hd' (s := 93) (k := 6) (by decide), dN ha hd (s := 1) (by decide), dN ha hd (s := 2) (by decide), dNP ha hd (s := 37) (k := 3) (by decide), dR ha hd (s := 28) (by decide), dRP ha hd (s := 37) (k := 3) (by decide), dZ ha hd (s := 1) (by decide), dZ ha hd (s := 2) (by decide), dZ ha hd (s := 26) (by decide), dZ ha hd (s := 28) (by decide)]
  exact h
theorem RD_c {D D' : List Nat} {F F' : List (Nat × Nat)} {a a' b b' : TS} (h : RD a b) (ha : chF D F a a') (hb : chF D' F' b b') (hd : dpk D F [28, 29] [(37, 4), (37, 6), (37, 7), (37, 8), (37, 9), (37, 10), (37, 11)] = true) (hd' : dpk D' F' [86] [] = true) : RD a' b' := by
  unfold RD at *
  simp only [dIS hb hd' (s := 86) (by decide), dI ha hd (s := 37) (k := 10) (by decide), dI ha hd (s := 37) (k := 11) (by decide), dI ha hd (s := 37) (k := 4) (by decide), dI ha hd (s := 37) (k := 6) (by decide), dI ha hd (s := 37) (k := 7) (by decide), dI ha hd (s := 37) (k := 8) (by decide), dI ha hd (s := 37) (k := 9) (by decide), dZ ha hd (s := 28) (by decide), dZ ha hd (s := 29) (by decide)]
  exact h
theorem RE_c {D D' : List Nat} {F F' : List (Nat × Nat)} {a a' b b' : TS} (h : RE a b) (ha : chF D F a a') (hb : chF D' F' b b') (hd : dpk D F [28] [(37, 12), (37, 13)] = true) (hd' : dpk D' F' [57, 58] [] = true) : RE a' b' := by
  unfold RE at *
  simp only [dIS hb hd' (s := 57) (by decide), dIS hb hd' (s := 58) (by decide), dI ha hd (s := 37) (k := 12) (by decide), dI ha hd (s := 37) (k := 13) (by decide), dZ ha hd (s := 28) (by decide)]
  exact h
theorem RP_c {D D' : List Nat} {F F' : List (Nat × Nat)} {a a' b b' : TS} (h : RP a b) (ha : chF D F a a') (hb : chF D' F' b b') (hd : dpk D F [27, 28, 29] [(38, 0), (38, 3), (38, 4), (38, 6), (38, 11)] = true) (hd' : dpk D' F' [87] [(93, 8)] = true) : RP a' b' := by
  unfold RP capOK at *
  simp only [dC ha hd (s := 29) (by decide), dIS hb hd' (s := 87) (by decide), dI ha hd (s := 38) (k := 0) (by decide), dI ha hd (s := 38) (k := 11) (by decide), dI ha hd (s := 38) (k := 3) (by decide), dI ha hd (s := 38) (k := 4) (by decide), dI ha hd (s := 38) (k := 6) (by decide), dI hb hd' (s := 93) (k := 8) (by decide), dNP ha hd (s := 38) (k := 0) (by decide), dR ha hd (s := 29) (by decide), dRP ha hd (s := 38) (k := 0) (by decide), dZ ha hd (s := 27) (by decide), dZ ha hd (s := 28) (by decide), dZ ha hd (s := 29) (by decide)]
  exact h
theorem RQ_c {D D' : List Nat} {F F' : List (Nat × Nat)} {a a' b b' : TS} (h : RQ a b) (ha : chF D F a a') (hb : chF D' F' b b') (hd : dpk D F [29] [(38, 5), (38, 7), (38, 8), (38, 9), (38, 10)] = true) (hd' : dpk D' F' [70, 87] [] = true) : RQ a' b' := by
  unfold RQ at *
  simp only [dIS hb hd' (s := 70) (by decide), dIS hb hd' (s := 87) (by decide), dI ha hd (s := 38) (k := 10) (by decide), dI ha hd (s := 38) (k := 5) (by decide), dI ha hd (s := 38) (k := 7) (by decide), dI ha hd (s := 38) (k := 8) (by decide), dI ha hd (s := 38) (k := 9) (by decide), dZ ha hd (s := 29) (by decide), pst_c hb hd' (by decide)]
  exact h
theorem RH_c {D D' : List Nat} {F F' : List (Nat × Nat)} {a a' b b' : TS} (h : RH a b) (ha : chF D F a a') (hb : chF D' F' b b') (hd : dpk D F [] [(25, 0), (25, 1), (25, 2), (31, 1), (96, 8), (96, 11)] = true) (hd' : dpk D' F' [] [(93, 9), (94, 11), (95, 1), (95, 2), (95, 3), (95, 6), (97, 5), (97, 6), (97, 7)] = true) : RH a' b' := by
  unfold RH at *
  simp only [dI ha hd (s := 25) (k := 0) (by decide), dI ha hd (s := 25) (k := 1) (by decide), dI ha hd (s := 25) (k := 2) (by decide), dI ha hd (s := 31) (k := 1) (by decide), dI ha hd (s := 96) (k := 11) (by decide), dI ha hd (s := 96) (k := 8) (by decide), dI hb hd' (s := 93) (k := 9) (by decide), dI hb hd' (s := 94) (k := 11) (by decide), dI hb hd' (s := 95) (k := 1) (by decide), dI hb hd' (s := 95) (k := 2) (by decide), dI hb hd' (s := 95) (k := 3) (by decide), dI hb hd' (s := 95) (k := 6) (by decide), dI hb hd' (s := 97) (k := 5) (by decide), dI hb hd' (s := 97) (k := 6) (by decide), dI hb hd' (s := 97) (k := 7) (by decide)]
  exact h
theorem RG_c {D D' : List Nat} {F F' : List (Nat × Nat)} {a a' b b' : TS} (h : RG a b) (ha : chF D F a a') (hb : chF D' F' b b') (hd : dpk D F [1, 28, 29] [(37, 14)] = true) (hd' : dpk D' F' [54, 55, 56, 87] [(94, 6)] = true) : RG a' b' := by
  unfold RG at *
  simp only [dIS ha hd (s := 1) (by decide), dIS hb hd' (s := 54) (by decide), dIS hb hd' (s := 55) (by decide), dIS hb hd' (s := 56) (by decide), dIS hb hd' (s := 87) (by decide), dI ha hd (s := 37) (k := 14) (by decide), dI hb hd' (s := 94) (k := 6) (by decide), dZ ha hd (s := 28) (by decide), dZ ha hd (s := 29) (by decide)]
  exact h
theorem RO_c {D D' : List Nat} {F F' : List (Nat × Nat)} {a a' b b' : TS} (h : RO a b) (ha : chF D F a a') (hb : chF D' F' b b') (hd : dpk D F [2, 28] [(30, 3), (30, 4)] = true) (hd' : dpk D' F' [53, 61, 64] [(94, 12), (94, 13)] = true) : RO a' b' := by
  unfold RO at *
  simp only [dIS ha hd (s := 2) (by decide), dI ha hd (s := 30) (k := 3) (by decide), dI ha hd (s := 30) (k := 4) (by decide), dI hb hd' (s := 94) (k := 12) (by decide), dI hb hd' (s := 94) (k := 13) (by decide), dZ ha hd (s := 28) (by decide), hA_c hb hd' (t := 64) (by decide) (by decide), hI_c hb hd' (by decide) (by decide)]
  exact h
theorem RZ_c {D D' : List Nat} {F F' : List (Nat × Nat)} {a a' b b' : TS} (h : RZ a b) (ha : chF D F a a') (hb : chF D' F' b b') (hd : dpk D F [3, 4, 7, 29] [] = true) (hd' : dpk D' F' [53, 61, 64, 87] [] = true) : RZ a' b' := by
  unfold RZ at *
  simp only [dIS ha hd (s := 7) (by decide), dN ha hd (s := 7) (by decide), dIS hb hd' (s := 87) (by decide), dZ ha hd (s := 29) (by decide), hA_c hb hd' (t := 64) (by decide) (by decide), hI_c hb hd' (by decide) (by decide), kR_c ha hd (by decide) (by decide)]
  exact h
/-- the cells of a site stand, and there may be more -/
def gro (a a' : TS) (t : Nat) : Prop := tN a t ≤ tN a' t ∧ ∀ i, i < tN a t → ∀ k, tI a' t i k = tI a t i k
theorem gro_c {D : List Nat} {F : List (Nat × Nat)} {a a' : TS} {t : Nat} (ha : chF D F a a') (hd : dpk D F [t] [] = true) : gro a a' t :=
  ⟨Nat.le_of_eq (dN ha hd (s := t) (by simp)).symm, fun _ _ _ => dIS ha hd (s := t) (by simp) _ _⟩
theorem KnR_c {D D' : List Nat} {F F' : List (Nat × Nat)} {a a' b b' : TS} {n : Nat} (h : KnR a b n) (ha : chF D F a a') (hb : chF D' F' b b') (hd : dpk D F [3, 4, 26, 27, 28] [] = true) (hd' : dpk D' F' [53, 61, 62, 63, 64, 86] [] = true) (g5 : gro a a' 5) (g6 : gro a a' 6) (g7 : gro a a' 7) (g17 : gro a a' 17) : KnR a' b' n := by
  obtain ⟨h3, h4, ⟨h5, h5'⟩, ⟨h6, h6', h6''⟩, ⟨h7, h7', h7''⟩⟩ := h
  unfold KnR
  simp only [kI_c ha hd (by decide) (by decide), kR_c ha hd (by decide) (by decide), hI_c hb hd' (by decide) (by decide), hA_c hb hd' (t := 62) (by decide) (by decide), hA_c hb hd' (t := 63) (by decide) (by decide), hA_c hb hd' (t := 64) (by decide) (by decide), dZ ha hd (s := 26) (by decide), dZ ha hd (s := 27) (by decide), dZ ha hd (s := 28) (by decide), dIS hb hd' (s := 86) (by decide)]
  refine ⟨h3, h4, ⟨h5, fun z => ?_⟩, ⟨h6, h6', fun z => ?_⟩, ⟨h7, h7', fun z => ?_⟩⟩
  · obtain ⟨i, j, i1, i2, i3, i4, i5⟩ := h5' z
    refine ⟨i, j, Nat.lt_of_lt_of_le i1 g5.1, Nat.lt_of_lt_of_le i2 g6.1, i3, i4, ?_⟩
    rw [g5.2 i i1, g5.2 i i1, g5.2 i i1, g5.2 i i1, g5.2 i i1, g5.2 i i1, g5.2 i i1, g5.2 i i1, g5.2 i i1, g6.2 j i2, g6.2 j i2, g6.2 j i2]
    exact i5
  · obtain ⟨i, i1, i2, i3⟩ := h6'' z
    refine ⟨i, Nat.lt_of_lt_of_le i1 g17.1, i2, ?_⟩
    rw [g17.2 i i1, g17.2 i i1, g17.2 i i1]
    exact i3
  · obtain ⟨i, k, t, s, i1, i2, i3, i4, i5, i6⟩ := h7'' z
    refine ⟨i, k, t, s, Nat.lt_of_lt_of_le i1 g7.1, i2, i3, i4, i5, ?_⟩
    rw [g7.2 i i1, g7.2 i i1, g7.2 i i1]
    exact i6
theorem RK_c {D D' : List Nat} {F F' : List (Nat × Nat)} {a a' b b' : TS} (h : RK a b) (ha : chF D F a a') (hb : chF D' F' b b') (hd : dpk D F [3, 4, 26, 27, 28] [] = true) (hd' : dpk D' F' [53, 61, 62, 63, 64, 86] [] = true) (g5 : gro a a' 5) (g6 : gro a a' 6) (g7 : gro a a' 7) (g17 : gro a a' 17) : RK a' b' := by
  obtain ⟨h1, h2, h3⟩ := h
  exact ⟨KsA_c h1 ha hd (by decide) (by decide), KsB_c h2 hb hd' (by decide) (by decide) (by decide) (by decide) (by decide), fun n hn => KnR_c (h3 n hn) ha hb hd hd' g5 g6 g7 g17⟩
