/-! ===== the command of a payment ===== -/
theorem x3w {a : TS} {z : Hp} {cd : Nat} {m p : Int32} (hcd : cd < tN a 37) : Ex 3 [aR (some (37, cd)), aI m, aI p] (enc 1 a z) = some (.inl (some (aI (Int32.ofNat (whyN (tI a 37 cd 11) (tI a 37 cd 7) (tI a 37 cd 8) (tI a 37 cd 2) m p false)))), enc 1 (if whyN (tI a 37 cd 11) (tI a 37 cd 7) (tI a 37 cd 8) (tI a 37 cd 2) m p false = 3 then sI a 37 cd 7 (tI a 37 cd 7 - 1) else a) z) := by
  rw [x3 m p hcd]
  unfold whyN
  by_cases e5 : tI a 37 cd 11 = 0
  · rw [if_pos e5, if_pos e5]
    by_cases ep : p = -1
    · rw [if_pos ep, if_pos ep]
      by_cases em : 2500 < m
      · rw [if_pos em, if_pos em]; rfl
      · rw [if_neg em, if_neg em]
        by_cases e2 : tI a 37 cd 8 < 5
        · rw [if_pos e2, if_pos e2]; rfl
        · rw [if_neg e2, if_neg e2]; rfl
    · rw [if_neg ep, if_neg ep]
      by_cases e1 : 0 < tI a 37 cd 7
      · rw [if_pos e1, if_pos e1]
        by_cases e7 : p = tI a 37 cd 2
        · rw [if_pos e7, if_pos e7]; rfl
        · rw [if_neg e7, if_neg e7]; rfl
      · rw [if_neg e1, if_neg e1]; rfl
  · rw [if_neg e5, if_neg e5]; rfl
theorem why_full (x11 x7 x8 x2 m p : Int32) (full : Bool) : whyN x11 x7 x8 x2 m p full = if whyN x11 x7 x8 x2 m p false = 0 then (if full then 5 else 0) else whyN x11 x7 x8 x2 m p false := by
  unfold whyN
  by_cases e5 : x11 = 0
  · rw [if_pos e5, if_pos e5]
    by_cases ep : p = -1
    · rw [if_pos ep, if_pos ep]
      by_cases em : 2500 < m
      · rw [if_pos em, if_pos em]; rfl
      · rw [if_neg em, if_neg em]
        by_cases e2 : x8 < 5
        · rw [if_pos e2, if_pos e2]; rfl
        · rw [if_neg e2, if_neg e2]; rfl
    · rw [if_neg ep, if_neg ep]
      by_cases e1 : 0 < x7
      · rw [if_pos e1, if_pos e1]
        by_cases e7 : p = x2
        · rw [if_pos e7, if_pos e7]; rfl
        · rw [if_neg e7, if_neg e7]; rfl
      · rw [if_neg e1, if_neg e1]; rfl
  · rw [if_neg e5, if_neg e5]; rfl
theorem why_le (x11 x7 x8 x2 m p : Int32) : whyN x11 x7 x8 x2 m p false ≤ 4 := by
  unfold whyN
  (repeat' split) <;> first | omega | (rename_i h; exact absurd h (by decide))
theorem why_3 {x11 x7 x8 x2 m p : Int32} (h : whyN x11 x7 x8 x2 m p false = 3) : 0 < x7 := by
  unfold whyN at h
  by_cases e5 : x11 = 0
  · rw [if_pos e5] at h
    by_cases ep : p = -1
    · rw [if_pos ep] at h
      by_cases em : 2500 < m
      · rw [if_pos em] at h; omega
      · rw [if_neg em] at h
        by_cases e2 : x8 < 5
        · rw [if_pos e2] at h; exact absurd h (by decide)
        · rw [if_neg e2] at h; omega
    · rw [if_neg ep] at h
      by_cases e1 : 0 < x7
      · exact e1
      · rw [if_neg e1] at h; omega
  · rw [if_neg e5] at h; omega
theorem why_0 {x11 x7 x8 x2 m p : Int32} (h : whyN x11 x7 x8 x2 m p false = 0) (hp : p = -1) : x8 ≠ 5 := by
  intro e
  unfold whyN at h
  by_cases e5 : x11 = 0
  · rw [if_pos e5, if_pos hp] at h
    by_cases em : 2500 < m
    · rw [if_pos em] at h; omega
    · rw [if_neg em, if_neg (by rw [e]; decide)] at h; omega
  · rw [if_neg e5] at h; omega
theorem core_try {a b : TS} {C cd : Nat} (h : Core a b C) (hcd : cd < tZ a 28 0) (h0 : 0 < tI a 37 cd 7) : Core (sI a 37 cd 7 (tI a 37 cd 7 - 1)) (sI b 86 0 (10 * cd + 1) (tI b 86 0 (10 * cd + 1) + -1)) C := by
  have hR := h.1.1
  obtain ⟨-, -, d7, -, -, -, -, ⟨-, d8, -⟩, -⟩ := (r_D hR).1 cd hcd
  have ev : tI b 86 0 (10 * cd + 1) + -1 = tI a 37 cd 7 - 1 := by rw [d7, Int32.sub_eq_add_neg]
  rw [ev]
  refine Core_k h (cd1 (f := 7) (g := 1) hR hcd (by decide) ⟨fun q => absurd q (by decide), fun _ => ?_, fun q => absurd q (by decide)⟩).1 (chF_I (D := []) (F := [(37, 7)]) (by simp) (chF_r _ _ _)) (chF_I (D := [86]) (F := []) (by simp) (chF_r _ _ _)) (by decide) (by simp) (by decide) (groQ_c (chF_I (D := [86]) (F := []) (by simp) (chF_r _ _ _)) (by decide +kernel))
  rw [d7] at h0 ⊢
  rcases d8 with q | q | q | q
  · rw [q] at h0; exact absurd h0 (by decide)
  · rw [q]; exact Or.inl rfl
  · rw [q]; exact Or.inr (Or.inl rfl)
  · rw [q]; exact Or.inr (Or.inr (Or.inl rfl))
