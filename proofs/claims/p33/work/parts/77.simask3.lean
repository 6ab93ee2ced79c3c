/-! ===== an ASK is heard alike ===== -/
theorem heI_chF (a : TS) (cd c : Nat) (n : Int32) (g : Bool) : chF [1] [(37, 14)] a (if g = true then heA a cd c n else a) := by
  cases g
  · exact chF_r _ _ _
  · exact heA_chF _ _ _ _
theorem heI_wr (a : TS) (cd c : Nat) (n : Int32) (g : Bool) : Wr a (if g = true then heA a cd c n else a) := by
  cases g
  · exact Wr.rf _
  · exact heA_wr _ _ _ _
theorem heA_N (a : TS) (cd c : Nat) (n : Int32) : ∀ s, tN (heA a cd c n) s = tN a s ∧ ∀ k, tZ (heA a cd c n) s k = tZ a s k := fun s => by
  unfold heA
  split <;> exact ⟨rfl, fun _ => rfl⟩
theorem heI_N (a : TS) (cd c : Nat) (n : Int32) (g : Bool) : ∀ s, tN (if g = true then heA a cd c n else a) s = tN a s ∧ ∀ k, tZ (if g = true then heA a cd c n else a) s k = tZ a s k := fun s => by
  cases g
  · exact ⟨rfl, fun _ => rfl⟩
  · exact heA_N _ _ _ _ _
theorem rsn_cg {a a' : TS} {p cd t c : Nat} {m : Int32} (h1 : kI a' p 5 = kI a p 5) (h2 : kR a' p 8 = kR a p 8) (h3 : ∀ x k, tI a' 1 x k = tI a 1 x k) (h4 : ∀ x k, tI a' 37 x k = tI a 37 x k) (h5 : ∀ x k, tI a' 35 x k = tI a 35 x k) (h6 : ∀ x k, tL a' 35 x k = tL a 35 x k) : rsn a' p cd t c m = rsn a p cd t c m := by
  unfold rsn oth
  rw [h1, h2, h3, h4, h5, h6, h6]
/-- an answer of the issuer, by numbers -/
theorem ansB_v {b : TS} {p j' cd c : Nat} {m rs w st told : Int32} (KB : KsB b) (hp : p < 1000) (h2 : tR b 53 0 p = some (61, j')) :
    (∀ n f, n < 1000 → hI (ansB b j' cd c m rs w st told) n f = if n = p ∧ f = 3 then told else if n = p ∧ f = 2 then st else if n = p ∧ f = 0 then w else if n = p ∧ f = 1 then rs else hI b n f) ∧
    (∀ n f, n < 1000 → hA (ansB b j' cd c m rs w st told) n 62 f = if n = p ∧ f = 2 then m else if n = p ∧ f = 1 then Int32.ofNat c else if n = p ∧ f = 0 then Int32.ofNat cd else hA b n 62 f) ∧
    (∀ n u f, (u = 63 ∨ u = 64) → hA (ansB b j' cd c m rs w st told) n u f = hA b n u f) := by
  have b61 : ∀ i f, tI (ansB b j' cd c m rs w st told) 61 i f = if i = j' ∧ f = 3 then told else if i = j' ∧ f = 2 then st else if i = j' ∧ f = 0 then w else if i = j' ∧ f = 1 then rs else tI b 61 i f := fun i f => by
    unfold ansB
    simp (config := {decide := true}) only [gfI_enc, gfL_enc, gfR_enc, pfI_enc, pfL_enc, pfR_enc, Option.bind_some, cI_v, cL_v, cF_v, cD_v, cR_v, cV_v, cI_x, cL_x, cR_x, cV_x, gz_0, gz_1, acc_enc, tI_sI, tL_sI, tR_sI, tN_sI, tZ_sI, tC_sI, tc_sI, tz_sI, tI_sL, tL_sL, tR_sL, tN_sL, tZ_sL, tC_sL, tc_sL, tz_sL, tI_sR, tL_sR, tR_sR, tN_sR, tZ_sR, tC_sR, tc_sR, tz_sR, tI_sZ, tL_sZ, tR_sZ, tN_sZ, tZ_sZ, tC_sZ, tc_sZ, tz_sZ, tI_sC, tL_sC, tR_sC, tN_sC, tZ_sC, tC_sC, tc_sC, tz_sC, tI_aC, tL_aC, tR_aC, tN_aC, tZ_aC, tC_aC, tc_aC, tz_aC, tI_rmL, tL_rmL, tR_rmL, tN_rmL, tZ_rmL, tC_rmL, tc_rmL, tz_rmL, tI_mk, tL_mk, tR_mk, tN_mk, tZ_mk, tC_mk, tc_mk, tz_mk, tI_pushL, tL_pushL, tR_pushL, tN_pushL, tZ_pushL, tC_pushL, tc_pushL, tz_pushL, tI_pushB, tL_pushB, tR_pushB, tN_pushB, tZ_pushB, tC_pushB, tc_pushB, tz_pushB, tI_cpL, tL_cpL, tR_cpL, tN_cpL, tZ_cpL, tC_cpL, tc_cpL, tz_cpL, eq_self, true_and, and_true, false_and, and_false, if_true, if_false, reduceIte, ite_true, ite_false, not_true_eq_false, not_false_eq_true]
    by_cases e : i = j' ∧ f = 3
    · rw [if_pos e, if_pos e]
    · rw [if_neg e, if_neg e]
      by_cases e2 : i = j' ∧ f = 2
      · rw [if_pos e2, if_pos e2, if_neg e]
      · rw [if_neg e2, if_neg e2, if_neg e, if_neg e2]
  have b62 : ∀ i f, tI (ansB b j' cd c m rs w st told) 62 i f = if i = j' ∧ f = 2 then m else if i = j' ∧ f = 1 then Int32.ofNat c else if i = j' ∧ f = 0 then Int32.ofNat cd else tI b 62 i f := fun i f => by unfold ansB; simp (config := {decide := true}) only [gfI_enc, gfL_enc, gfR_enc, pfI_enc, pfL_enc, pfR_enc, Option.bind_some, cI_v, cL_v, cF_v, cD_v, cR_v, cV_v, cI_x, cL_x, cR_x, cV_x, gz_0, gz_1, acc_enc, tI_sI, tL_sI, tR_sI, tN_sI, tZ_sI, tC_sI, tc_sI, tz_sI, tI_sL, tL_sL, tR_sL, tN_sL, tZ_sL, tC_sL, tc_sL, tz_sL, tI_sR, tL_sR, tR_sR, tN_sR, tZ_sR, tC_sR, tc_sR, tz_sR, tI_sZ, tL_sZ, tR_sZ, tN_sZ, tZ_sZ, tC_sZ, tc_sZ, tz_sZ, tI_sC, tL_sC, tR_sC, tN_sC, tZ_sC, tC_sC, tc_sC, tz_sC, tI_aC, tL_aC, tR_aC, tN_aC, tZ_aC, tC_aC, tc_aC, tz_aC, tI_rmL, tL_rmL, tR_rmL, tN_rmL, tZ_rmL, tC_rmL, tc_rmL, tz_rmL, tI_mk, tL_mk, tR_mk, tN_mk, tZ_mk, tC_mk, tc_mk, tz_mk, tI_pushL, tL_pushL, tR_pushL, tN_pushL, tZ_pushL, tC_pushL, tc_pushL, tz_pushL, tI_pushB, tL_pushB, tR_pushB, tN_pushB, tZ_pushB, tC_pushB, tc_pushB, tz_pushB, tI_cpL, tL_cpL, tR_cpL, tN_cpL, tZ_cpL, tC_cpL, tc_cpL, tz_cpL, eq_self, true_and, and_true, false_and, and_false, if_true, if_false, reduceIte, ite_true, ite_false, not_true_eq_false, not_false_eq_true]
  have b6x : ∀ s i f, ¬ s = 61 → ¬ s = 62 → ¬ s = 57 → tI (ansB b j' cd c m rs w st told) s i f = tI b s i f := fun s i f g1 g2 g3 => by unfold ansB; simp (config := {decide := true}) only [gfI_enc, gfL_enc, gfR_enc, pfI_enc, pfL_enc, pfR_enc, Option.bind_some, cI_v, cL_v, cF_v, cD_v, cR_v, cV_v, cI_x, cL_x, cR_x, cV_x, gz_0, gz_1, acc_enc, tI_sI, tL_sI, tR_sI, tN_sI, tZ_sI, tC_sI, tc_sI, tz_sI, tI_sL, tL_sL, tR_sL, tN_sL, tZ_sL, tC_sL, tc_sL, tz_sL, tI_sR, tL_sR, tR_sR, tN_sR, tZ_sR, tC_sR, tc_sR, tz_sR, tI_sZ, tL_sZ, tR_sZ, tN_sZ, tZ_sZ, tC_sZ, tc_sZ, tz_sZ, tI_sC, tL_sC, tR_sC, tN_sC, tZ_sC, tC_sC, tc_sC, tz_sC, tI_aC, tL_aC, tR_aC, tN_aC, tZ_aC, tC_aC, tc_aC, tz_aC, tI_rmL, tL_rmL, tR_rmL, tN_rmL, tZ_rmL, tC_rmL, tc_rmL, tz_rmL, tI_mk, tL_mk, tR_mk, tN_mk, tZ_mk, tC_mk, tc_mk, tz_mk, tI_pushL, tL_pushL, tR_pushL, tN_pushL, tZ_pushL, tC_pushL, tc_pushL, tz_pushL, tI_pushB, tL_pushB, tR_pushB, tN_pushB, tZ_pushB, tC_pushB, tc_pushB, tz_pushB, tI_cpL, tL_cpL, tR_cpL, tN_cpL, tZ_cpL, tC_cpL, tc_cpL, tz_cpL, eq_self, true_and, and_true, false_and, and_false, if_true, if_false, reduceIte, ite_true, ite_false, not_true_eq_false, not_false_eq_true, g1, g2, g3]
  refine ⟨fun n f hn => ?_, fun n f hn => ?_, fun n u f hu => ?_⟩
  · rcases KB.1 n hn with e | ⟨j2, e1, e2⟩
    · have ne : n ≠ p := fun q => by rw [q, h2] at e; cases e
      rw [if_neg (fun q => ne q.1), if_neg (fun q => ne q.1), if_neg (fun q => ne q.1), if_neg (fun q => ne q.1)]
      unfold hI
      rw [show tR (ansB b j' cd c m rs w st told) 53 0 n = tR b 53 0 n from rfl, e]
    · rw [hI_at (b := ansB b j' cd c m rs w st told) e2, hI_at e2, b61]
      simp only [hn_inj KB hp hn h2 e2]
  · rcases KB.1 n hn with e | ⟨j2, e1, e2⟩
    · have ne : n ≠ p := fun q => by rw [q, h2] at e; cases e
      rw [if_neg (fun q => ne q.1), if_neg (fun q => ne q.1), if_neg (fun q => ne q.1)]
      unfold hA
      rw [show tR (ansB b j' cd c m rs w st told) 53 0 n = tR b 53 0 n from rfl, e]
    · rw [hA_at (b := ansB b j' cd c m rs w st told) e2, hA_at e2, b62]
      simp only [hn_inj KB hp hn h2 e2]
  · unfold hA
    rw [show tR (ansB b j' cd c m rs w st told) 53 0 n = tR b 53 0 n from rfl]
    split
    · exact b6x _ _ _ (by omega) (by omega) (by omega)
    · rfl
/-- what an ASK changes that is heard for the first time -/
def AskV (b b' : TS) (p cd c t : Nat) (m rs st told : Int32) : Prop := t < 8 ∧ tI b 86 0 (10 * cd + 9) = Int32.ofNat t ∧ (rs = 0 → hI b p 9 = 0 ∧ hI b p 8 = 0) ∧
  (∀ n f, n < 1000 → hI b' n f = if (rs = 0 ∧ hI b p 12 = 0) ∧ n = p ∧ f = 13 then Int32.ofNat t else if (rs = 0 ∧ hI b p 12 = 0) ∧ n = p ∧ f = 12 then m else if n = p ∧ f = 3 then told else if n = p ∧ f = 2 then st else if n = p ∧ f = 0 then (if rs = 0 then 1 else 2) else if n = p ∧ f = 1 then rs else hI b n f) ∧
  (∀ n f, n < 1000 → hA b' n 62 f = if n = p ∧ f = 2 then m else if n = p ∧ f = 1 then Int32.ofNat c else if n = p ∧ f = 0 then Int32.ofNat cd else hA b n 62 f) ∧
  (∀ n u f, n < 1000 → (u = 63 ∨ u = 64) → hA b' n u f = hA b n u f) ∧
  (∀ u, u < 8 → tL b' 44 0 u = if (rs = 0 ∧ hI b p 12 = 0) ∧ u = t then tL b 44 0 u + m.toInt64 else tL b 44 0 u) ∧ MonS b b'
def AskP (b b' : TS) (p cd c : Nat) (m : Int32) : Prop := (hI b p 0 ≠ 0 ∧ NoCh b b') ∨ (hI b p 0 = 0 ∧ ∃ t rs st told, AskV b b' p cd c t m rs st told)
/-- what an answer says is what is known -/
theorem ans8 {a b : TS} {p i : Nat} (hR : R0 a b) (hp : p < 1000) (h0 : hI b p 0 ≠ 0) (h : kR a p 1 = some (5, i)) (j : Nat) : tI a 5 i 8 = hI (outB b j) p 0 := by
  obtain ⟨i', j', -, -, k1, -, -, -, -, -, k8, -⟩ := ((r_K hR).2.2 p hp).2.2.1.2 h0
  rw [h] at k1
  have e : i = i' := (Prod.mk.inj (Option.some.inj k1)).2
  rw [e, k8]
  exact (hI_c (outB_ch b j) (S := [53, 61]) (P := []) (by decide) (by simp) (by simp) p 0).symm
theorem ansB_w {b b2 : TS} {p j' cd c : Nat} {m rs w st told : Int32} (KB : KsB b2) (hp : p < 1000) (h2 : tR b2 53 0 p = some (61, j')) (wI2 : ∀ n f, n < 1000 → hI b2 n f = hI b n f) (wA2 : ∀ n u f, n < 1000 → (u = 62 ∨ u = 63 ∨ u = 64) → hA b2 n u f = hA b n u f) :
    (∀ n f, n < 1000 → hI (ansB b2 j' cd c m rs w st told) n f = if n = p ∧ f = 3 then told else if n = p ∧ f = 2 then st else if n = p ∧ f = 0 then w else if n = p ∧ f = 1 then rs else hI b n f) ∧
    (∀ n f, n < 1000 → hA (ansB b2 j' cd c m rs w st told) n 62 f = if n = p ∧ f = 2 then m else if n = p ∧ f = 1 then Int32.ofNat c else if n = p ∧ f = 0 then Int32.ofNat cd else hA b n 62 f) ∧
    (∀ n u f, n < 1000 → (u = 63 ∨ u = 64) → hA (ansB b2 j' cd c m rs w st told) n u f = hA b n u f) := by
  obtain ⟨q1, q2, q3⟩ := ansB_v (cd := cd) (c := c) (m := m) (rs := rs) (w := w) (st := st) (told := told) KB hp h2
  exact ⟨fun n f hn => by rw [q1 n f hn, wI2 n f hn], fun n f hn => by rw [q2 n f hn, wA2 n 62 f hn (by omega)], fun n u f hn hu => by rw [q3 n u f hu, wA2 n u f hn (by omega)]⟩
theorem ask_v1 {b B3 : TS} {p j' cd c t : Nat} {m rs st told : Int32} (KB3 : KsB B3) (hp : p < 1000) (y : tR B3 53 0 p = some (61, j')) (ht8 : t < 8) (e86 : tI b 86 0 (10 * cd + 9) = Int32.ofNat t) (hr0 : rs = 0 → hI b p 9 = 0 ∧ hI b p 8 = 0) (h1 : rs = 0) (h2 : hI b p 12 = 0)
    (q1 : ∀ n f, n < 1000 → hI B3 n f = if n = p ∧ f = 3 then told else if n = p ∧ f = 2 then st else if n = p ∧ f = 0 then (if rs = 0 then 1 else 2) else if n = p ∧ f = 1 then rs else hI b n f)
    (q2 : ∀ n f, n < 1000 → hA B3 n 62 f = if n = p ∧ f = 2 then m else if n = p ∧ f = 1 then Int32.ofNat c else if n = p ∧ f = 0 then Int32.ofNat cd else hA b n 62 f)
    (q3 : ∀ n u f, n < 1000 → (u = 63 ∨ u = 64) → hA B3 n u f = hA b n u f)
    (lsam : ∀ s, (s = 43 ∨ s = 44 ∨ s = 46) → ∀ u, tL B3 s 0 u = tL b s 0 u) (isam : ∀ k, (k = 12 ∨ k = 13) → tI B3 94 0 k = tI b 94 0 k) : AskV b (outB (hldB B3 j' t m) j') p cd c t m rs st told := by
  have hh' : (rs = 0 ∧ hI b p 12 = 0) = True := eq_true ⟨h1, h2⟩
  obtain ⟨u1, u2, u3⟩ := hold_v (t := t) (m := m) KB3 hp y
  have e94 : ∀ k, tI (hldB B3 j' t m) 94 0 k = tI B3 94 0 k := fun k => by unfold hldB; simp (config := {decide := true}) only [gfI_enc, gfL_enc, gfR_enc, pfI_enc, pfL_enc, pfR_enc, Option.bind_some, cI_v, cL_v, cF_v, cD_v, cR_v, cV_v, cI_x, cL_x, cR_x, cV_x, gz_0, gz_1, acc_enc, tI_sI, tL_sI, tR_sI, tN_sI, tZ_sI, tC_sI, tc_sI, tz_sI, tI_sL, tL_sL, tR_sL, tN_sL, tZ_sL, tC_sL, tc_sL, tz_sL, tI_sR, tL_sR, tR_sR, tN_sR, tZ_sR, tC_sR, tc_sR, tz_sR, tI_sZ, tL_sZ, tR_sZ, tN_sZ, tZ_sZ, tC_sZ, tc_sZ, tz_sZ, tI_sC, tL_sC, tR_sC, tN_sC, tZ_sC, tC_sC, tc_sC, tz_sC, tI_aC, tL_aC, tR_aC, tN_aC, tZ_aC, tC_aC, tc_aC, tz_aC, tI_rmL, tL_rmL, tR_rmL, tN_rmL, tZ_rmL, tC_rmL, tc_rmL, tz_rmL, tI_mk, tL_mk, tR_mk, tN_mk, tZ_mk, tC_mk, tc_mk, tz_mk, tI_pushL, tL_pushL, tR_pushL, tN_pushL, tZ_pushL, tC_pushL, tc_pushL, tz_pushL, tI_pushB, tL_pushB, tR_pushB, tN_pushB, tZ_pushB, tC_pushB, tc_pushB, tz_pushB, tI_cpL, tL_cpL, tR_cpL, tN_cpL, tZ_cpL, tC_cpL, tc_cpL, tz_cpL, eq_self, true_and, and_true, false_and, and_false, if_true, if_false, reduceIte, ite_true, ite_false, not_true_eq_false, not_false_eq_true]
  have e43 : ∀ s u, s ≠ 44 → tL (hldB B3 j' t m) s 0 u = tL B3 s 0 u := fun s u hs => by unfold hldB; simp (config := {decide := true}) only [gfI_enc, gfL_enc, gfR_enc, pfI_enc, pfL_enc, pfR_enc, Option.bind_some, cI_v, cL_v, cF_v, cD_v, cR_v, cV_v, cI_x, cL_x, cR_x, cV_x, gz_0, gz_1, acc_enc, tI_sI, tL_sI, tR_sI, tN_sI, tZ_sI, tC_sI, tc_sI, tz_sI, tI_sL, tL_sL, tR_sL, tN_sL, tZ_sL, tC_sL, tc_sL, tz_sL, tI_sR, tL_sR, tR_sR, tN_sR, tZ_sR, tC_sR, tc_sR, tz_sR, tI_sZ, tL_sZ, tR_sZ, tN_sZ, tZ_sZ, tC_sZ, tc_sZ, tz_sZ, tI_sC, tL_sC, tR_sC, tN_sC, tZ_sC, tC_sC, tc_sC, tz_sC, tI_aC, tL_aC, tR_aC, tN_aC, tZ_aC, tC_aC, tc_aC, tz_aC, tI_rmL, tL_rmL, tR_rmL, tN_rmL, tZ_rmL, tC_rmL, tc_rmL, tz_rmL, tI_mk, tL_mk, tR_mk, tN_mk, tZ_mk, tC_mk, tc_mk, tz_mk, tI_pushL, tL_pushL, tR_pushL, tN_pushL, tZ_pushL, tC_pushL, tc_pushL, tz_pushL, tI_pushB, tL_pushB, tR_pushB, tN_pushB, tZ_pushB, tC_pushB, tc_pushB, tz_pushB, tI_cpL, tL_cpL, tR_cpL, tN_cpL, tZ_cpL, tC_cpL, tc_cpL, tz_cpL, eq_self, true_and, and_true, false_and, and_false, if_true, if_false, reduceIte, ite_true, ite_false, not_true_eq_false, not_false_eq_true, hs]
  have co := outB_ch (hldB B3 j' t m) j'
  generalize hX : hldB B3 j' t m = X at *
  unfold hldB at hX
  rw [hX] at u1 u2 u3
  generalize outB X j' = Y at *
  refine ⟨ht8, e86, hr0, fun n f hn => ?_, fun n f hn => ?_, fun n u f hn hu => ?_, fun u _ => ?_, fun u _ => ?_, fun u => ?_, ?_, ?_⟩
  · rw [hI_c co (S := [53, 61]) (P := []) (by decide) (by simp) (by simp) n f, u1 n f hn, q1 n f hn]
    simp only [hh', true_and]
  · rw [hA_c co (S := [53, 62]) (P := []) (t := 62) (by decide) (by simp) (by simp) n f, u2 n 62 f (by omega), q2 n f hn]
  · rw [hA_c co (S := [53, 63, 64]) (P := []) (t := u) (by decide) (by simp) (by rcases hu with q | q <;> subst q <;> simp) n f, u2 n u f (by omega), q3 n u f hn hu]
  · rw [dLS co (S := [44]) (P := []) (s := 44) (by decide) (by simp) 0 u, u3 u, lsam 44 (by omega)]
    simp only [hh', true_and]
  · rw [dLS co (S := [43]) (P := []) (s := 43) (by decide) (by simp) 0 u, e43 _ _ (by decide), lsam 43 (by omega)]
  · rw [dLS co (S := [46]) (P := []) (s := 46) (by decide) (by simp) 0 u, e43 _ _ (by decide), lsam 46 (by omega)]
  · rw [dI co (S := []) (P := [(94, 12)]) (s := 94) (k := 12) (by decide) (by simp) 0, e94, isam 12 (by omega)]
  · rw [dI co (S := []) (P := [(94, 13)]) (s := 94) (k := 13) (by decide) (by simp) 0, e94, isam 13 (by omega)]
theorem ask_v2 {b B3 : TS} {p cd c t : Nat} {m rs st told : Int32} (j' : Nat) (ht8 : t < 8) (e86 : tI b 86 0 (10 * cd + 9) = Int32.ofNat t) (hr0 : rs = 0 → hI b p 9 = 0 ∧ hI b p 8 = 0) (h1 : ¬ (rs = 0 ∧ hI b p 12 = 0))
    (q1 : ∀ n f, n < 1000 → hI B3 n f = if n = p ∧ f = 3 then told else if n = p ∧ f = 2 then st else if n = p ∧ f = 0 then (if rs = 0 then 1 else 2) else if n = p ∧ f = 1 then rs else hI b n f)
    (q2 : ∀ n f, n < 1000 → hA B3 n 62 f = if n = p ∧ f = 2 then m else if n = p ∧ f = 1 then Int32.ofNat c else if n = p ∧ f = 0 then Int32.ofNat cd else hA b n 62 f)
    (q3 : ∀ n u f, n < 1000 → (u = 63 ∨ u = 64) → hA B3 n u f = hA b n u f)
    (lsam : ∀ s, (s = 43 ∨ s = 44 ∨ s = 46) → ∀ u, tL B3 s 0 u = tL b s 0 u) (isam : ∀ k, (k = 12 ∨ k = 13) → tI B3 94 0 k = tI b 94 0 k) : AskV b (outB B3 j') p cd c t m rs st told := by
  have hh' : (rs = 0 ∧ hI b p 12 = 0) = False := eq_false h1
  have co := outB_ch B3 j'
  generalize outB B3 j' = Y at *
  refine ⟨ht8, e86, hr0, fun n f hn => ?_, fun n f hn => ?_, fun n u f hn hu => ?_, fun u _ => ?_, fun u _ => ?_, fun u => ?_, ?_, ?_⟩
  · rw [hI_c co (S := [53, 61]) (P := []) (by decide) (by simp) (by simp) n f, q1 n f hn]
    simp only [hh', false_and, if_false]
  · rw [hA_c co (S := [53, 62]) (P := []) (t := 62) (by decide) (by simp) (by simp) n f, q2 n f hn]
  · rw [hA_c co (S := [53, 63, 64]) (P := []) (t := u) (by decide) (by simp) (by rcases hu with q | q <;> subst q <;> simp) n f, q3 n u f hn hu]
  · rw [dLS co (S := [44]) (P := []) (s := 44) (by decide) (by simp) 0 u, lsam 44 (by omega)]
    simp only [hh', false_and, if_false]
  · rw [dLS co (S := [43]) (P := []) (s := 43) (by decide) (by simp) 0 u, lsam 43 (by omega)]
  · rw [dLS co (S := [46]) (P := []) (s := 46) (by decide) (by simp) 0 u, lsam 46 (by omega)]
  · rw [dI co (S := []) (P := [(94, 12)]) (s := 94) (k := 12) (by decide) (by simp) 0, isam 12 (by omega)]
  · rw [dI co (S := []) (P := [(94, 13)]) (s := 94) (k := 13) (by decide) (by simp) 0, isam 13 (by omega)]
set_option maxHeartbeats 4000000 in
theorem sim_ask {a b : TS} {r p cd c sh : Nat} {m st : Int32} (hR : R0 a b) (hp : p < tZ a 29 0) (hr : r < tN a 10) (m1 : tI a 10 r 1 = Int32.ofNat p) (m2 : tI a 10 r 2 = Int32.ofNat cd) (m3 : tI a 10 r 3 = Int32.ofNat sh) (m4 : tI a 10 r 4 = Int32.ofNat c) (m5 : tI a 10 r 5 = m) (m6 : tI a 10 r 6 = st) (hb14 : bitOk (tI a 10 r 14) = true)
    (hcd : cd < tZ a 28 0) (hc : c < 201) (p1 : tI b 87 0 (10 * p + 1) = Int32.ofNat cd) (p2 : tI b 87 0 (10 * p + 2) = Int32.ofNat sh) (p3 : tI b 87 0 (10 * p + 3) = m) (p4 : tI b 87 0 (10 * p + 4) = Int32.ofNat c) (hst : st = pst b p 2) (hm : 0 < m) :
    ∃ a' b' i, (∀ z, Ex 19 [aR (some (30, 0)), aR (some (10, r))] (enc 1 a z) = some (.inl (some (aR (some (5, i)))), enc 1 a' z)) ∧ (∀ z, Ex 167 [aR (some (94, 0)), aI (Int32.ofNat sh), aI (Int32.ofNat p), aI (Int32.ofNat cd), aI (Int32.ofNat c), aI m, aI st] (enc 2 b z) = some (.inl none, enc 2 b' z)) ∧
      AnsF a' b' i p ∧ R0 a' b' ∧ chF [1, 3, 4, 5, 6] [(35, 1), (37, 13), (37, 14)] a a' ∧ chF [44, 53, 54, 55, 56, 57, 61, 62, 63, 64] [(94, 6), (94, 14), (94, 15), (94, 16), (94, 17)] b b' ∧ Wr a a' ∧ Wr b b' ∧ (tN a' 5 ≤ tN a 5 + 1 ∧ tN a' 6 ≤ tN a 6 + 1) ∧ AskP b b' p cd c m ∧ tI a' 5 i 8 = hI b' p 0 := by
  have hP200 := (r_P hR).1
  have hp1000 : p < 1000 := by omega
  obtain ⟨a1, b1, j, j', x, y, hR1, x1, xj, y1, y2, vI, vR, wI, wA, ca, cb, wa, wb⟩ := look hR hp1000
  have hfc := r_FC hR
  have hfr := r_FR hR
  have hfc1 := r_FC hR1
  have hfr1 := r_FR hR1
  have q5 : tN a1 5 = tN a 5 := dN ca (S := [5]) (P := []) (s := 5) (by decide) (by simp)
  have q6 : tN a1 6 = tN a 6 := dN ca (S := [6]) (P := []) (s := 6) (by decide) (by simp)
  have i10 : isM 10 := ⟨by decide +kernel, by decide +kernel⟩
  have t10 : ∀ i k, tI a1 10 i k = tI a 10 i k := dIS ca (S := [10]) (P := []) (s := 10) (by decide) (by simp)
  have hr1 : r < tN a1 10 := Nat.lt_of_lt_of_le hr (wa.N 10)
  have z28 : tZ a1 28 0 = tZ a 28 0 := dZ ca (S := [28]) (P := []) (s := 28) (by decide) (by simp) 0
  have z29 : tZ a1 29 0 = tZ a 29 0 := dZ ca (S := [29]) (P := []) (s := 29) (by decide) (by simp) 0
  have w87 : ∀ k, tI b1 87 0 k = tI b 87 0 k := dIS cb (S := [87]) (P := []) (s := 87) (by decide) (by simp) 0
  by_cases h0 : hI b1 p 0 = 0
  · obtain ⟨-, ⟨k5, -⟩, ⟨k0, -⟩, -, ⟨-, k8, k8'⟩⟩ := (r_K hR1).2.2 p hp1000
    have e1 : tR a1 4 j 1 = none := by rw [← kR_at x1]; exact k0 h0
    have e0 : tI b1 61 j' 0 = 0 := by rw [← hI_at y1]; exact h0
    obtain ⟨C1, C2, ⟨C3, C4, C5⟩, C6, C7⟩ := r_C hR1
    obtain ⟨D1, D2, ⟨t, D3, D4, D5⟩, D6, D7, D8, D9, D10, D11, D12⟩ := C7 cd (by omega)
    have hcd37 : cd < tN a1 37 := by omega
    have hcd1 : cd < tN a1 1 := by omega
    have ht35 : t < tN a1 35 := by rw [(r_B hR1).2.2.1]; exact D3
    have ht8 : t < 8 := by have := (r_B hR1).1; omega
    have hs : st = stp (tI a1 37 cd 3).toInt64 (Int32.ofNat c) m (tI a1 10 r 3) 2 := by rw [D7, t10, m3, hst]; unfold pst; rw [p1, p2, p3, p4]
    have hs' : st = stp (keyL (Int32.ofNat cd)) (Int32.ofNat c) m (Int32.ofNat sh) 2 := by rw [hst]; unfold pst; rw [p1, p2, p3, p4]
    have f20 := fun z => x20 (a := a1) (z := z) (p := p) (j := j) (cd := cd) (t := t) (c := c) (s := 10) (r := r) (st := st) (m := m) xj x1 hcd37 hcd1 D11 D9 D4 ht35 i10 hr1 (by rw [t10]; exact m1) (by rw [t10]; exact m4) hc (by rw [t10]; exact m5) (by rw [t10]; exact m6) hs
    have hv := rsn_cases a1 p cd t c m
    have goA := fun z => x19_new (a := a) (a1 := a1) (z := z) (j := j) (cd := cd) (t := t) (c := c) (r := r) (p := p) (sh := sh) (m := m) (st := st) hfc hfc1 hr m1 x xj e1 hr1 (by rw [t10]; exact hb14) (by rw [t10]; exact m1) (by rw [t10]; exact m2) (by rw [t10]; exact m3) (by rw [t10]; exact m4) (by rw [t10]; exact m5) (by rw [t10]; exact m6) C1 (by omega) D1 hcd37 D4 ht35 hc D9 hcd1 D11 f20 hv
    dsimp only at goA
    generalize hrs : rsn a1 p cd t c m = rs at *
    obtain ⟨o1, o2, o3, o4, o5, o6, o7, o8, o9⟩ := ans0_eq a1 p (if rs = 0 then 1 else 2) rs (stp (tI a1 37 cd 3).toInt64 (Int32.ofNat c) m (Int32.ofNat sh) 3) (tI a1 37 cd 13)
    generalize hA0 : ans0 a1 (tN a1 5) p (if rs = 0 then 1 else 2) rs (stp (tI a1 37 cd 3).toInt64 (Int32.ofNat c) m (Int32.ofNat sh) 3) (tI a1 37 cd 13) = A0 at *
    have hRA0 : R0 A0 b1 := by
      have hb : chF [] [] b1 b1 := chF_r _ _ _
      have wb : Wr b1 b1 := Wr.rf _
      have ha := o6
      have wa := o7
      obtain ⟨hFC, hFR, hB, hS, hM, hW, hV, hC, hD, hE, hP, hQ, hH, hK, hG, hO, hZ⟩ := hR1
      have hK' : RK A0 b1 := RK_c hK ha hb (by decide) (by decide) ⟨o7.N 5, fun i hi k => o8 i k hi⟩ (gro_c ha (by decide)) (gro_c ha (by decide)) (gro_c ha (by decide))
      exact ⟨FxC_s hFC wa ha (by decide), FxR_s hFR wb hb (by decide), RB_c hB ha hb (by decide) (by decide), RS_c hS ha hb (by decide) (by decide), RM_c hM ha hb (by decide) (by decide), RW_c hW ha hb (by decide) (by decide), RV_c hV ha hb (by decide) (by decide), RC_c hC ha hb (by decide) (by decide), RD_c hD ha hb (by decide) (by decide), RE_c hE ha hb (by decide) (by decide), RP_c hP ha hb (by decide) (by decide), RQ_c hQ ha hb (by decide) (by decide), RH_c hH ha hb (by decide) (by decide), hK', RG_c hG ha hb (by decide) (by decide), RO_c hO ha hb (by decide) (by decide), RZ_c hZ ha hb (by decide) (by decide)⟩
    have kv5 : kI A0 p 5 = kI a1 p 5 := by unfold kI; rw [o2 3 _ _ (by decide)]; split; exact o1 4 _ _ (by decide); rfl
    have kv8 : kR A0 p 8 = kR a1 p 8 := by unfold kR; rw [o2 3 _ _ (by decide)]; split; exact o2 4 _ _ (by decide); rfl
    have tl35 : ∀ x k, tL A0 35 x k = tL a1 35 x k := dLS o6 (S := [35]) (P := []) (s := 35) (by decide) (by simp)
    have hrs' : rsn A0 p cd t c m = rs := by rw [← hrs]; exact rsn_cg kv5 kv8 (fun x k => o1 1 x k (by decide)) (fun x k => o1 37 x k (by decide)) (fun x k => o1 35 x k (by decide)) tl35
    have za28 : tZ A0 28 0 = tZ a1 28 0 := o4 28 0 (by decide)
    have za26 : tZ A0 26 0 = tZ a1 26 0 := o4 26 0 (by decide)
    have za29 : tZ A0 29 0 = tZ a1 29 0 := o4 29 0 (by decide)
    obtain ⟨b2, q168, cb2, hG2, wb2⟩ := y168 (a := A0) (b := b1) (p := p) (j := j') (cd := cd) (t := t) (c := c) (s := sh) (st := st) (m := m) hfr1 (r_G hRA0) (r_B hRA0) (r_C hRA0) (r_E hRA0) (by omega) (by omega) (by rw [w87]; exact p1) (by rw [w87]; exact p4) y2 y1 (by omega) hc (by rw [kv5]; exact k5) (fun q => by rw [kv8]; exact k8 q) (fun q => by
      obtain ⟨i, -, -, -, -, -, -, -, i5, -⟩ := k8' q
      rw [kv8, i5]
      exact fun z => nomatch z) (by omega) D5 hs'
    rw [hrs'] at q168 hG2
    have cA2 := heI_chF A0 cd c (Int32.ofNat p) (rsH rs)
    have wA2 := heI_wr A0 cd c (Int32.ofNat p) (rsH rs)
    have eA2 := heI_N A0 cd c (Int32.ofNat p) (rsH rs)
    generalize hA2 : (if rsH rs then heA A0 cd c (Int32.ofNat p) else A0) = A2 at *
    have hR2 : R0 A2 b2 := by
      have ha := cA2
      have hb := cb2
      have wa := wA2
      have wb := wb2
      obtain ⟨hFC, hFR, hB, hS, hM, hW, hV, hC, hD, hE, hP, hQ, hH, hK, hG, hO, hZ⟩ := hRA0
      have hC' : RC A2 b2 := RC_w hC ha hb (by decide) (by decide) (eA2 1).1 (eA2 2).1 (eA2 1).2 (eA2 2).2
      exact ⟨FxC_s hFC wa ha (by decide), FxR_s hFR wb hb (by decide), RB_c hB ha hb (by decide) (by decide), RS_c hS ha hb (by decide) (by decide), RM_c hM ha hb (by decide) (by decide), RW_c hW ha hb (by decide) (by decide), RV_c hV ha hb (by decide) (by decide), hC', RD_c hD ha hb (by decide) (by decide), RE_c hE ha hb (by decide) (by decide), RP_c hP ha hb (by decide) (by decide), RQ_c hQ ha hb (by decide) (by decide), RH_c hH ha hb (by decide) (by decide), RK_c hK ha hb (by decide) (by decide) (gro_c ha (by decide)) (gro_c ha (by decide)) (gro_c ha (by decide)) (gro_c ha (by decide)), hG2, RO_c hO ha hb (by decide) (by decide), RZ_c hZ ha hb (by decide) (by decide)⟩
    have v10 : ∀ i k, tI A2 10 i k = tI a 10 i k := fun i k => (dIS cA2 (S := [10]) (P := []) (s := 10) (by decide) (by simp) i k).trans ((o1 10 i k (by decide)).trans (t10 i k))
    have v5 : ∀ i k, tI A2 5 i k = tI A0 5 i k := dIS cA2 (S := [5]) (P := []) (s := 5) (by decide) (by simp)
    have x1' : tR A2 3 0 p = some (4, j) := by rw [dR cA2 (S := [3]) (P := []) (s := 3) (by decide) (by simp), o2 3 _ _ (by decide)]; exact x1
    have y1' : tR b2 53 0 p = some (61, j') := by rw [dR cb2 (S := [53]) (P := []) (s := 53) (by decide) (by simp)]; exact y1
    have n5 : tN a1 5 < tN A2 5 := by rw [(eA2 5).1, o5]; omega
    have hr2 : r < tN A2 10 := by rw [(eA2 10).1, o3 10 (by decide)]; exact hr1
    obtain ⟨u0, u1, u6, u7, u8, u9, u10, u11, u14⟩ := o9
    have z28' : tZ A2 28 0 = tZ a1 28 0 := ((eA2 28).2 0).trans za28
    have z26' : tZ A2 26 0 = tZ a1 26 0 := ((eA2 26).2 0).trans za26
    have told : tI a1 37 cd 13 = tI b2 57 0 cd := by
      rw [dIS cb2 (S := [57]) (P := []) (s := 57) (by decide) (by simp)]
      exact ((r_E hR1).1 cd (by omega)).2.2.1
    have hw : (if rs = 0 then (1 : Int32) else 2) = 1 ∨ (if rs = 0 then (1 : Int32) else 2) = 2 := by split; exact Or.inl rfl; exact Or.inr rfl
    have hAns := ans_R (a := A2) (b := b2) (p := p) (j := j) (j' := j') (cd := cd) (c := c) (i := tN a1 5) (r := r) (m := m) (rs := rs) (w := if rs = 0 then 1 else 2) (st := stp (keyL (Int32.ofNat cd)) (Int32.ofNat c) m (Int32.ofNat sh) 3) (told := tI b2 57 0 cd) hR2 hp1000 x1' y1' (by omega) hr2 (by rw [v10]; exact m2) (by rw [v10]; exact m4) (by rw [v10]; exact m5) n5 (by rw [v5]; exact u0) (by rw [v5]; exact u1) (by rw [v5, u6, D7]) (by rw [v5]; exact u7) (by rw [v5]; exact u8) hw (by rw [v5]; exact u9) (by rw [v5, u10, told]) (by rw [v5]; exact u11) (by rw [v5]; exact u14)
    have hfr2 := r_FR hR2
    have yj2 : j' < tN b2 61 := Nat.lt_of_lt_of_le y2 (wb2.N 61)
    have goB := fun z => y167_new (b := b) (b1 := b1) (b2 := b2) (z := z) (j := j') (cd := cd) (t := t) (c := c) (p := p) (sh := sh) (m := m) (st := st) hfr hfr2 y y2 e0 q168 yj2 (r_K hR2).2.1 (r_C hR2).2.2.2.1 (by omega) (by omega) (by rw [dIS cb2 (S := [86]) (P := []) (s := 86) (by decide) (by simp)]; exact D5) ht8
    -- the ask is kept
    have cAns := ansA_ch A2 j cd (tN a1 5) r p
    have wAns := ansA_wr A2 j cd (tN a1 5) r p
    have cBns := ansB_ch b2 j' cd c m rs (if rs = 0 then 1 else 2) (stp (keyL (Int32.ofNat cd)) (Int32.ofNat c) m (Int32.ofNat sh) 3) (tI b2 57 0 cd)
    have wBns := ansB_wr b2 j' cd c m rs (if rs = 0 then 1 else 2) (stp (keyL (Int32.ofNat cd)) (Int32.ofNat c) m (Int32.ofNat sh) 3) (tI b2 57 0 cd)
    have b61_12 : tI (ansB b2 j' cd c m rs (if rs = 0 then 1 else 2) (stp (keyL (Int32.ofNat cd)) (Int32.ofNat c) m (Int32.ofNat sh) 3) (tI b2 57 0 cd)) 61 j' 12 = tI b2 61 j' 12 := by unfold ansB; simp (config := {decide := true}) only [gfI_enc, gfL_enc, gfR_enc, pfI_enc, pfL_enc, pfR_enc, Option.bind_some, cI_v, cL_v, cF_v, cD_v, cR_v, cV_v, cI_x, cL_x, cR_x, cV_x, gz_0, gz_1, acc_enc, tI_sI, tL_sI, tR_sI, tN_sI, tZ_sI, tC_sI, tc_sI, tz_sI, tI_sL, tL_sL, tR_sL, tN_sL, tZ_sL, tC_sL, tc_sL, tz_sL, tI_sR, tL_sR, tR_sR, tN_sR, tZ_sR, tC_sR, tc_sR, tz_sR, tI_sZ, tL_sZ, tR_sZ, tN_sZ, tZ_sZ, tC_sZ, tc_sZ, tz_sZ, tI_sC, tL_sC, tR_sC, tN_sC, tZ_sC, tC_sC, tc_sC, tz_sC, tI_aC, tL_aC, tR_aC, tN_aC, tZ_aC, tC_aC, tc_aC, tz_aC, tI_rmL, tL_rmL, tR_rmL, tN_rmL, tZ_rmL, tC_rmL, tc_rmL, tz_rmL, tI_mk, tL_mk, tR_mk, tN_mk, tZ_mk, tC_mk, tc_mk, tz_mk, tI_pushL, tL_pushL, tR_pushL, tN_pushL, tZ_pushL, tC_pushL, tc_pushL, tz_pushL, tI_pushB, tL_pushB, tR_pushB, tN_pushB, tZ_pushB, tC_pushB, tc_pushB, tz_pushB, tI_cpL, tL_cpL, tR_cpL, tN_cpL, tZ_cpL, tC_cpL, tc_cpL, tz_cpL, eq_self, true_and, and_true, false_and, and_false, if_true, if_false, reduceIte, ite_true, ite_false, not_true_eq_false, not_false_eq_true]
    have b61_0 : tI (ansB b2 j' cd c m rs (if rs = 0 then 1 else 2) (stp (keyL (Int32.ofNat cd)) (Int32.ofNat c) m (Int32.ofNat sh) 3) (tI b2 57 0 cd)) 61 j' 0 = if rs = 0 then 1 else 2 := by unfold ansB; simp (config := {decide := true}) only [gfI_enc, gfL_enc, gfR_enc, pfI_enc, pfL_enc, pfR_enc, Option.bind_some, cI_v, cL_v, cF_v, cD_v, cR_v, cV_v, cI_x, cL_x, cR_x, cV_x, gz_0, gz_1, acc_enc, tI_sI, tL_sI, tR_sI, tN_sI, tZ_sI, tC_sI, tc_sI, tz_sI, tI_sL, tL_sL, tR_sL, tN_sL, tZ_sL, tC_sL, tc_sL, tz_sL, tI_sR, tL_sR, tR_sR, tN_sR, tZ_sR, tC_sR, tc_sR, tz_sR, tI_sZ, tL_sZ, tR_sZ, tN_sZ, tZ_sZ, tC_sZ, tc_sZ, tz_sZ, tI_sC, tL_sC, tR_sC, tN_sC, tZ_sC, tC_sC, tc_sC, tz_sC, tI_aC, tL_aC, tR_aC, tN_aC, tZ_aC, tC_aC, tc_aC, tz_aC, tI_rmL, tL_rmL, tR_rmL, tN_rmL, tZ_rmL, tC_rmL, tc_rmL, tz_rmL, tI_mk, tL_mk, tR_mk, tN_mk, tZ_mk, tC_mk, tc_mk, tz_mk, tI_pushL, tL_pushL, tR_pushL, tN_pushL, tZ_pushL, tC_pushL, tc_pushL, tz_pushL, tI_pushB, tL_pushB, tR_pushB, tN_pushB, tZ_pushB, tC_pushB, tc_pushB, tz_pushB, tI_cpL, tL_cpL, tR_cpL, tN_cpL, tZ_cpL, tC_cpL, tc_cpL, tz_cpL, eq_self, true_and, and_true, false_and, and_false, if_true, if_false, reduceIte, ite_true, ite_false, not_true_eq_false, not_false_eq_true]
    have n56 : tN (ansA A2 j cd (tN a1 5) r p) 5 ≤ tN a 5 + 1 ∧ tN (ansA A2 j cd (tN a1 5) r p) 6 ≤ tN a 6 + 1 := by
      have z5 : tN (ansA A2 j cd (tN a1 5) r p) 5 = tN A2 5 := dN cAns (S := [5]) (P := []) (s := 5) (by decide) (by simp)
      have z6 : tN (ansA A2 j cd (tN a1 5) r p) 6 = tN A2 6 + 1 := by unfold ansA; simp (config := {decide := true}) only [gfI_enc, gfL_enc, gfR_enc, pfI_enc, pfL_enc, pfR_enc, Option.bind_some, cI_v, cL_v, cF_v, cD_v, cR_v, cV_v, cI_x, cL_x, cR_x, cV_x, gz_0, gz_1, acc_enc, tI_sI, tL_sI, tR_sI, tN_sI, tZ_sI, tC_sI, tc_sI, tz_sI, tI_sL, tL_sL, tR_sL, tN_sL, tZ_sL, tC_sL, tc_sL, tz_sL, tI_sR, tL_sR, tR_sR, tN_sR, tZ_sR, tC_sR, tc_sR, tz_sR, tI_sZ, tL_sZ, tR_sZ, tN_sZ, tZ_sZ, tC_sZ, tc_sZ, tz_sZ, tI_sC, tL_sC, tR_sC, tN_sC, tZ_sC, tC_sC, tc_sC, tz_sC, tI_aC, tL_aC, tR_aC, tN_aC, tZ_aC, tC_aC, tc_aC, tz_aC, tI_rmL, tL_rmL, tR_rmL, tN_rmL, tZ_rmL, tC_rmL, tc_rmL, tz_rmL, tI_mk, tL_mk, tR_mk, tN_mk, tZ_mk, tC_mk, tc_mk, tz_mk, tI_pushL, tL_pushL, tR_pushL, tN_pushL, tZ_pushL, tC_pushL, tc_pushL, tz_pushL, tI_pushB, tL_pushB, tR_pushB, tN_pushB, tZ_pushB, tC_pushB, tc_pushB, tz_pushB, tI_cpL, tL_cpL, tR_cpL, tN_cpL, tZ_cpL, tC_cpL, tc_cpL, tz_cpL, eq_self, true_and, and_true, false_and, and_false, if_true, if_false, reduceIte, ite_true, ite_false, not_true_eq_false, not_false_eq_true]
      have z6' : tN A2 6 = tN a1 6 := ((eA2 6).1).trans (o3 6 (by decide))
      have z5' : tN A2 5 = tN a1 5 + 1 := ((eA2 5).1).trans o5
      omega
    have a4_1 : tR (ansA A2 j cd (tN a1 5) r p) 4 j 1 = some (5, tN a1 5) := by unfold ansA; simp (config := {decide := true}) only [gfI_enc, gfL_enc, gfR_enc, pfI_enc, pfL_enc, pfR_enc, Option.bind_some, cI_v, cL_v, cF_v, cD_v, cR_v, cV_v, cI_x, cL_x, cR_x, cV_x, gz_0, gz_1, acc_enc, tI_sI, tL_sI, tR_sI, tN_sI, tZ_sI, tC_sI, tc_sI, tz_sI, tI_sL, tL_sL, tR_sL, tN_sL, tZ_sL, tC_sL, tc_sL, tz_sL, tI_sR, tL_sR, tR_sR, tN_sR, tZ_sR, tC_sR, tc_sR, tz_sR, tI_sZ, tL_sZ, tR_sZ, tN_sZ, tZ_sZ, tC_sZ, tc_sZ, tz_sZ, tI_sC, tL_sC, tR_sC, tN_sC, tZ_sC, tC_sC, tc_sC, tz_sC, tI_aC, tL_aC, tR_aC, tN_aC, tZ_aC, tC_aC, tc_aC, tz_aC, tI_rmL, tL_rmL, tR_rmL, tN_rmL, tZ_rmL, tC_rmL, tc_rmL, tz_rmL, tI_mk, tL_mk, tR_mk, tN_mk, tZ_mk, tC_mk, tc_mk, tz_mk, tI_pushL, tL_pushL, tR_pushL, tN_pushL, tZ_pushL, tC_pushL, tc_pushL, tz_pushL, tI_pushB, tL_pushB, tR_pushB, tN_pushB, tZ_pushB, tC_pushB, tc_pushB, tz_pushB, tI_cpL, tL_cpL, tR_cpL, tN_cpL, tZ_cpL, tC_cpL, tc_cpL, tz_cpL, eq_self, true_and, and_true, false_and, and_false, if_true, if_false, reduceIte, ite_true, ite_false, not_true_eq_false, not_false_eq_true]
    have x1'' : tR (ansA A2 j cd (tN a1 5) r p) 3 0 p = some (4, j) := by rw [dR cAns (S := [3]) (P := []) (s := 3) (by decide) (by simp)]; exact x1'
    have y1'' : tR (ansB b2 j' cd c m rs (if rs = 0 then 1 else 2) (stp (keyL (Int32.ofNat cd)) (Int32.ofNat c) m (Int32.ofNat sh) 3) (tI b2 57 0 cd)) 53 0 p = some (61, j') := y1'
    have z26'' : tZ (ansA A2 j cd (tN a1 5) r p) 26 0 = tZ a1 26 0 := (dZ cAns (S := [26]) (P := []) (s := 26) (by decide) (by simp) 0).trans z26'
    have k12 : hI b p 12 = tI b2 61 j' 12 := (wI p 12 hp1000).symm.trans ((hI_c cb2 (S := [53, 61]) (P := []) (by decide) (by simp) (by simp) p 12).symm.trans (hI_at y1'))
    have KB2 := (r_K hR2).2.1
    have wI2 : ∀ n f, n < 1000 → hI b2 n f = hI b n f := fun n f hn => (hI_c cb2 (S := [53, 61]) (P := []) (by decide) (by simp) (by simp) n f).trans (wI n f hn)
    have vAA : ∀ n u f, n < 1000 → (u = 62 ∨ u = 63 ∨ u = 64) → hA b2 n u f = hA b n u f := fun n u f hn hu => (hA_c cb2 (S := [53, 62, 63, 64]) (P := []) (t := u) (by decide) (by simp) (by rcases hu with q | q | q <;> subst q <;> simp) n f).trans (wA n u f hn hu)
    obtain ⟨q1, q2, q3⟩ := ansB_w (b := b) (cd := cd) (c := c) (m := m) (rs := rs) (w := if rs = 0 then 1 else 2) (st := stp (keyL (Int32.ofNat cd)) (Int32.ofNat c) m (Int32.ofNat sh) 3) (told := tI b2 57 0 cd) KB2 hp1000 y1' wI2 vAA
    have lsam : ∀ s, (s = 43 ∨ s = 44 ∨ s = 46) → ∀ u, tL (ansB b2 j' cd c m rs (if rs = 0 then 1 else 2) (stp (keyL (Int32.ofNat cd)) (Int32.ofNat c) m (Int32.ofNat sh) 3) (tI b2 57 0 cd)) s 0 u = tL b s 0 u := fun s hs u => by
      rw [dLS cBns (S := [43, 44, 46]) (P := []) (s := s) (by decide) (by rcases hs with q | q | q <;> subst q <;> simp), dLS cb2 (S := [43, 44, 46]) (P := []) (s := s) (by decide) (by rcases hs with q | q | q <;> subst q <;> simp), dLS cb (S := [43, 44, 46]) (P := []) (s := s) (by decide) (by rcases hs with q | q | q <;> subst q <;> simp)]
    have isam : ∀ k, (k = 12 ∨ k = 13) → tI (ansB b2 j' cd c m rs (if rs = 0 then 1 else 2) (stp (keyL (Int32.ofNat cd)) (Int32.ofNat c) m (Int32.ofNat sh) 3) (tI b2 57 0 cd)) 94 0 k = tI b 94 0 k := fun k hk => by
      rw [dI cBns (S := []) (P := [(94, 12), (94, 13)]) (s := 94) (k := k) (by decide) (by rcases hk with q | q <;> subst q <;> simp), dI cb2 (S := []) (P := [(94, 12), (94, 13)]) (s := 94) (k := k) (by decide) (by rcases hk with q | q <;> subst q <;> simp), dI cb (S := []) (P := [(94, 12), (94, 13)]) (s := 94) (k := k) (by decide) (by rcases hk with q | q <;> subst q <;> simp)]
    have hp0 : hI b p 0 = 0 := (wI p 0 hp1000).symm.trans h0
    have hr0 : rs = 0 → hI b p 9 = 0 ∧ hI b p 8 = 0 := fun q => by
      rw [← hrs] at q
      unfold rsn at q
      have c5 : kI a1 p 5 = 0 := by
        by_cases z : kI a1 p 5 = 0
        · exact z
        · rw [if_neg z] at q
          exact absurd q (by decide)
      rw [if_pos c5] at q
      have c8 : kR a1 p 8 = none := by
        by_cases z : kR a1 p 8 = none
        · exact z
        · rw [if_neg z] at q
          exact absurd q (by decide)
      refine ⟨by rw [← wI p 9 hp1000, ← k5]; exact c5, ?_⟩
      rw [← wI p 8 hp1000]
      by_cases z : hI b1 p 8 = 0
      · exact z
      · obtain ⟨i, -, -, -, -, -, -, -, i5, -⟩ := k8' z
        rw [i5] at c8
        cases c8
    have e86 : tI b 86 0 (10 * cd + 9) = Int32.ofNat t := (dIS cb (S := [86]) (P := []) (s := 86) (by decide) (by simp) 0 (10 * cd + 9)).symm.trans D5
    have KB3 : KsB (ansB b2 j' cd c m rs (if rs = 0 then 1 else 2) (stp (keyL (Int32.ofNat cd)) (Int32.ofNat c) m (Int32.ofNat sh) 3) (tI b2 57 0 cd)) := (r_K hAns).2.1
    generalize hA3 : ansA A2 j cd (tN a1 5) r p = A3 at *
    generalize hB3 : ansB b2 j' cd c m rs (if rs = 0 then 1 else 2) (stp (keyL (Int32.ofNat cd)) (Int32.ofNat c) m (Int32.ofNat sh) 3) (tI b2 57 0 cd) = B3 at *
    have w0 : (if rs = 0 then (1 : Int32) else 2) ≠ 0 := by split <;> decide
    have cAll : chF [1, 3, 4, 5, 6] [(35, 1), (37, 13), (37, 14)] a A3 := chF_t (chF_m ca (by simp) (by simp)) (chF_t (chF_m o6 (by simp) (by simp)) (chF_t (chF_m cA2 (by simp) (by simp)) (chF_m cAns (by simp) (by simp))))
    have cBll : chF [44, 53, 54, 55, 56, 57, 61, 62, 63, 64] [(94, 6), (94, 14), (94, 15), (94, 16), (94, 17)] b B3 := chF_t (chF_m cb (by simp) (by simp)) (chF_t (chF_m cb2 (by simp) (by simp)) (chF_m cBns (by simp) (by simp)))
    have wAll : Wr a A3 := ((wa.t o7).t wA2).t wAns
    have wBll : Wr b B3 := (wb.t wb2).t wBns
    obtain ⟨⟨-, -, k3, k4⟩, -⟩ := (r_K hAns).2.2 p hp1000
    rw [hI_at y1'', b61_12, kR_at x1''] at k3
    rw [hI_at y1'', b61_12] at k4
    by_cases hh : rs = 0 ∧ tI b2 61 j' 12 = 0
    · obtain ⟨f1, f2, f3, f4, f5⟩ := hold_R0 (m := m) hAns hp1000 x1'' y1'' (by rw [z26'']; exact D3) hm
      have gA : ∀ z, Ex 19 [aR (some (30, 0)), aR (some (10, r))] (enc 1 a z) = some (.inl (some (aR (some (5, tN a1 5)))), enc 1 (sL (sR (sI A3 4 j 3 m) 4 j 4 (some (35, t))) 35 t 1 (tL A3 35 t 1 + m.toInt64)) z) := fun z => by
        rw [goA, if_pos hh.1]
        unfold hldA
        rw [if_pos (k3 hh.2)]
      have gB : ∀ z, Ex 167 [aR (some (94, 0)), aI (Int32.ofNat sh), aI (Int32.ofNat p), aI (Int32.ofNat cd), aI (Int32.ofNat c), aI m, aI st] (enc 2 b z) = some (.inl none, enc 2 (outB (hldB B3 j' t m) j') z) := fun z => by
        rw [goB, if_pos hh]
      have y1h : tR (hldB B3 j' t m) 53 0 p = some (61, j') := by
        unfold hldB
        rw [tR_sL, tR_sI, tR_sI]
        exact y1''
      have y0 : hI (hldB B3 j' t m) p 0 ≠ 0 := by
        rw [hI_at y1h]
        have : tI (hldB B3 j' t m) 61 j' 0 = tI B3 61 j' 0 := by unfold hldB; simp (config := {decide := true}) only [gfI_enc, gfL_enc, gfR_enc, pfI_enc, pfL_enc, pfR_enc, Option.bind_some, cI_v, cL_v, cF_v, cD_v, cR_v, cV_v, cI_x, cL_x, cR_x, cV_x, gz_0, gz_1, acc_enc, tI_sI, tL_sI, tR_sI, tN_sI, tZ_sI, tC_sI, tc_sI, tz_sI, tI_sL, tL_sL, tR_sL, tN_sL, tZ_sL, tC_sL, tc_sL, tz_sL, tI_sR, tL_sR, tR_sR, tN_sR, tZ_sR, tC_sR, tc_sR, tz_sR, tI_sZ, tL_sZ, tR_sZ, tN_sZ, tZ_sZ, tC_sZ, tc_sZ, tz_sZ, tI_sC, tL_sC, tR_sC, tN_sC, tZ_sC, tC_sC, tc_sC, tz_sC, tI_aC, tL_aC, tR_aC, tN_aC, tZ_aC, tC_aC, tc_aC, tz_aC, tI_rmL, tL_rmL, tR_rmL, tN_rmL, tZ_rmL, tC_rmL, tc_rmL, tz_rmL, tI_mk, tL_mk, tR_mk, tN_mk, tZ_mk, tC_mk, tc_mk, tz_mk, tI_pushL, tL_pushL, tR_pushL, tN_pushL, tZ_pushL, tC_pushL, tc_pushL, tz_pushL, tI_pushB, tL_pushB, tR_pushB, tN_pushB, tZ_pushB, tC_pushB, tc_pushB, tz_pushB, tI_cpL, tL_cpL, tR_cpL, tN_cpL, tZ_cpL, tC_cpL, tc_cpL, tz_cpL, eq_self, true_and, and_true, false_and, and_false, if_true, if_false, reduceIte, ite_true, ite_false, not_true_eq_false, not_false_eq_true]
        rw [this, b61_0]
        exact w0
      obtain ⟨i, i1, i2⟩ := ansF_of f1 hp1000 y1h y0
      have i8 := ans8 f1 hp1000 y0 i1 j'
      have ei : i = tN a1 5 := by
        have q : tR (sL (sR (sI A3 4 j 3 m) 4 j 4 (some (35, t))) 35 t 1 (tL A3 35 t 1 + m.toInt64)) 3 0 p = some (4, j) := by rw [dR f2 (S := [3]) (P := []) (s := 3) (by decide) (by simp)]; exact x1''
        rw [kR_at q] at i1
        have q2 : tR (sL (sR (sI A3 4 j 3 m) 4 j 4 (some (35, t))) 35 t 1 (tL A3 35 t 1 + m.toInt64)) 4 j 1 = tR A3 4 j 1 := by simp (config := {decide := true}) only [gfI_enc, gfL_enc, gfR_enc, pfI_enc, pfL_enc, pfR_enc, Option.bind_some, cI_v, cL_v, cF_v, cD_v, cR_v, cV_v, cI_x, cL_x, cR_x, cV_x, gz_0, gz_1, acc_enc, tI_sI, tL_sI, tR_sI, tN_sI, tZ_sI, tC_sI, tc_sI, tz_sI, tI_sL, tL_sL, tR_sL, tN_sL, tZ_sL, tC_sL, tc_sL, tz_sL, tI_sR, tL_sR, tR_sR, tN_sR, tZ_sR, tC_sR, tc_sR, tz_sR, tI_sZ, tL_sZ, tR_sZ, tN_sZ, tZ_sZ, tC_sZ, tc_sZ, tz_sZ, tI_sC, tL_sC, tR_sC, tN_sC, tZ_sC, tC_sC, tc_sC, tz_sC, tI_aC, tL_aC, tR_aC, tN_aC, tZ_aC, tC_aC, tc_aC, tz_aC, tI_rmL, tL_rmL, tR_rmL, tN_rmL, tZ_rmL, tC_rmL, tc_rmL, tz_rmL, tI_mk, tL_mk, tR_mk, tN_mk, tZ_mk, tC_mk, tc_mk, tz_mk, tI_pushL, tL_pushL, tR_pushL, tN_pushL, tZ_pushL, tC_pushL, tc_pushL, tz_pushL, tI_pushB, tL_pushB, tR_pushB, tN_pushB, tZ_pushB, tC_pushB, tc_pushB, tz_pushB, tI_cpL, tL_cpL, tR_cpL, tN_cpL, tZ_cpL, tC_cpL, tc_cpL, tz_cpL, eq_self, true_and, and_true, false_and, and_false, if_true, if_false, reduceIte, ite_true, ite_false, not_true_eq_false, not_false_eq_true]
        rw [q2, a4_1] at i1
        exact (Prod.mk.inj (Option.some.inj i1)).2.symm
      subst ei
      have hAv := ask_v1 (t := t) (m := m) (cd := cd) (c := c) KB3 hp1000 y1'' ht8 e86 hr0 hh.1 (k12.trans hh.2) q1 q2 q3 lsam isam
      exact ⟨_, _, _, gA, gB, i2, out_R j' f1, chF_t cAll (chF_m f2 (by simp) (by simp)), chF_t cBll (chF_t (chF_m f3 (by simp) (by simp)) (chF_m (outB_ch _ _) (by simp) (by simp))), wAll.t f4, (wBll.t f5).t (outB_wr _ _), by simp only [tN_sL, tN_sR, tN_sI]; exact n56, Or.inr ⟨hp0, t, rs, _, _, hAv⟩, i8⟩
    · have gA : ∀ z, Ex 19 [aR (some (30, 0)), aR (some (10, r))] (enc 1 a z) = some (.inl (some (aR (some (5, tN a1 5)))), enc 1 A3 z) := fun z => by
        rw [goA]
        by_cases e : rs = 0
        · rw [if_pos e]
          unfold hldA
          obtain ⟨t2, -, t3, -⟩ := k4 (fun q => hh ⟨e, q⟩)
          rw [kR_at x1''] at t3
          rw [if_neg (by rw [t3]; exact fun q => nomatch q)]
        · rw [if_neg e]
      have gB : ∀ z, Ex 167 [aR (some (94, 0)), aI (Int32.ofNat sh), aI (Int32.ofNat p), aI (Int32.ofNat cd), aI (Int32.ofNat c), aI m, aI st] (enc 2 b z) = some (.inl none, enc 2 (outB B3 j') z) := fun z => by
        rw [goB, if_neg hh]
      have y0 : hI B3 p 0 ≠ 0 := by rw [hI_at y1'', b61_0]; exact w0
      obtain ⟨i, i1, i2⟩ := ansF_of hAns hp1000 y1'' y0
      have i8 := ans8 hAns hp1000 y0 i1 j'
      have ei : i = tN a1 5 := by
        rw [kR_at x1'', a4_1] at i1
        exact (Prod.mk.inj (Option.some.inj i1)).2.symm
      subst ei
      have hAv := ask_v2 (t := t) (m := m) (cd := cd) (c := c) j' ht8 e86 hr0 (fun q => hh ⟨q.1, k12.symm.trans q.2⟩) q1 q2 q3 lsam isam
      exact ⟨_, _, _, gA, gB, i2, out_R j' hAns, cAll, chF_t cBll (chF_m (outB_ch _ _) (by simp) (by simp)), wAll, wBll.t (outB_wr _ _), n56, Or.inr ⟨hp0, t, rs, _, _, hAv⟩, i8⟩
  · obtain ⟨i, i1, i2⟩ := ansF_of hR1 hp1000 y1 h0
    have e1 : tR a1 4 j 1 = some (5, i) := by rw [← kR_at x1]; exact i1
    have e0 : ¬ tI b1 61 j' 0 = 0 := by rw [← hI_at y1]; exact h0
    refine ⟨a1, outB b1 j', i, fun z => ?_, fun z => ?_, i2, out_R j' hR1, chF_m ca (by simp) (by simp), chF_t (chF_m cb (by simp) (by simp)) (chF_m (outB_ch _ _) (by simp) (by simp)), wa, wb.t (outB_wr _ _), by omega, Or.inl ⟨fun q => h0 ((wI p 0 hp1000).trans q), ?_⟩, ans8 hR1 hp1000 h0 i1 j'⟩
    · refine (X_in (by decide +kernel) (fcN_30 hfc) rfl).trans ((lf_19_0 ..).trans ?_)
      simp (config := {decide := true}) only [gfI_enc, gfL_enc, gfR_enc, pfI_enc, pfL_enc, pfR_enc, Option.bind_some, cI_v, cL_v, cF_v, cD_v, cR_v, cV_v, cI_x, cL_x, cR_x, cV_x, gz_0, gz_1, acc_enc, tI_sI, tL_sI, tR_sI, tN_sI, tZ_sI, tC_sI, tc_sI, tz_sI, tI_sL, tL_sL, tR_sL, tN_sL, tZ_sL, tC_sL, tc_sL, tz_sL, tI_sR, tL_sR, tR_sR, tN_sR, tZ_sR, tC_sR, tc_sR, tz_sR, tI_sZ, tL_sZ, tR_sZ, tN_sZ, tZ_sZ, tC_sZ, tc_sZ, tz_sZ, tI_sC, tL_sC, tR_sC, tN_sC, tZ_sC, tC_sC, tc_sC, tz_sC, tI_aC, tL_aC, tR_aC, tN_aC, tZ_aC, tC_aC, tc_aC, tz_aC, tI_rmL, tL_rmL, tR_rmL, tN_rmL, tZ_rmL, tC_rmL, tc_rmL, tz_rmL, tI_mk, tL_mk, tR_mk, tN_mk, tZ_mk, tC_mk, tc_mk, tz_mk, tI_pushL, tL_pushL, tR_pushL, tN_pushL, tZ_pushL, tC_pushL, tc_pushL, tz_pushL, tI_pushB, tL_pushB, tR_pushB, tN_pushB, tZ_pushB, tC_pushB, tc_pushB, tz_pushB, tI_cpL, tL_cpL, tR_cpL, tN_cpL, tZ_cpL, tC_cpL, tc_cpL, tz_cpL, eq_self, true_and, and_true, false_and, and_false, if_true, if_false, reduceIte, ite_true, ite_false, not_true_eq_false, not_false_eq_true, gm i10 hr, m1, x, xj, e1, reduceCtorEq]
    · refine (X_in (by decide +kernel) (frN_94 hfr) rfl).trans ((lf_167_0 ..).trans ?_)
      simp (config := {decide := true}) only [gfI_enc, gfL_enc, gfR_enc, pfI_enc, pfL_enc, pfR_enc, Option.bind_some, cI_v, cL_v, cF_v, cD_v, cR_v, cV_v, cI_x, cL_x, cR_x, cV_x, gz_0, gz_1, acc_enc, tI_sI, tL_sI, tR_sI, tN_sI, tZ_sI, tC_sI, tc_sI, tz_sI, tI_sL, tL_sL, tR_sL, tN_sL, tZ_sL, tC_sL, tc_sL, tz_sL, tI_sR, tL_sR, tR_sR, tN_sR, tZ_sR, tC_sR, tc_sR, tz_sR, tI_sZ, tL_sZ, tR_sZ, tN_sZ, tZ_sZ, tC_sZ, tc_sZ, tz_sZ, tI_sC, tL_sC, tR_sC, tN_sC, tZ_sC, tC_sC, tc_sC, tz_sC, tI_aC, tL_aC, tR_aC, tN_aC, tZ_aC, tC_aC, tc_aC, tz_aC, tI_rmL, tL_rmL, tR_rmL, tN_rmL, tZ_rmL, tC_rmL, tc_rmL, tz_rmL, tI_mk, tL_mk, tR_mk, tN_mk, tZ_mk, tC_mk, tc_mk, tz_mk, tI_pushL, tL_pushL, tR_pushL, tN_pushL, tZ_pushL, tC_pushL, tc_pushL, tz_pushL, tI_pushB, tL_pushB, tR_pushB, tN_pushB, tZ_pushB, tC_pushB, tc_pushB, tz_pushB, tI_cpL, tL_cpL, tR_cpL, tN_cpL, tZ_cpL, tC_cpL, tc_cpL, tz_cpL, eq_self, true_and, and_true, false_and, and_false, if_true, if_false, reduceIte, ite_true, ite_false, not_true_eq_false, not_false_eq_true, y, y2, e0]
      exact y167_158 hfr1 y2
    have co := chF_t (chF_m cb (D' := [53, 61, 62, 63, 64]) (F' := [(94, 14), (94, 15), (94, 16), (94, 17)]) (by simp) (by simp)) (chF_m (outB_ch b1 j') (by simp) (by simp))
    exact ⟨fun n f hn => (hI_c (outB_ch b1 j') (S := [53, 61]) (P := []) (by decide) (by simp) (by simp) n f).trans (wI n f hn), fun n u f hn hu => (hA_c (outB_ch b1 j') (S := [53, 62, 63, 64]) (P := []) (t := u) (by decide) (by simp) (by rcases hu with q | q | q <;> subst q <;> simp) n f).trans (wA n u f hn hu), fun u _ => dLS co (S := [43]) (P := []) (s := 43) (by decide) (by simp) 0 u, fun u _ => dLS co (S := [44]) (P := []) (s := 44) (by decide) (by simp) 0 u, fun u => dLS co (S := [46]) (P := []) (s := 46) (by decide) (by simp) 0 u, dI co (S := []) (P := [(94, 12)]) (s := 94) (k := 12) (by decide) (by simp) 0, dI co (S := []) (P := [(94, 13)]) (s := 94) (k := 13) (by decide) (by simp) 0⟩
