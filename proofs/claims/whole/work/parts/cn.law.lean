/-! ===== the law's run, from its start to its end, within its room ===== -/
theorem law_run {w : Hp} {sc : List Int32} (hz : Zk w) (hsc : hG w (some (0, 0)) = some (1000, sc.map aI)) (he : ∀ s, s ≠ 0 → w.1 s = []) (hL : sc.length ≤ 2560) :
    ∃ h', Ru 316 0 [(0, aR (some (0, 0)))] [] w = some (.inl (some (aI 1)), h') ∧ h'.2.1 ≤ w.2.1 + 490306 ∧ h'.2.2 ≤ w.2.2 + 7179766 := by
  obtain ⟨w2, e, hW, hw2⟩ := x316 hz hsc he
  have hQ : ∀ n a b v a' b' v', ((∃ e, e ≤ n ∧ AcP aS0 e a) ∧ AcP bS0 0 b ∧ v.2 = w2.2) → LwS a b v a' b' v' → ((∃ e, e ≤ n + 1 ∧ AcP aS0 e a') ∧ AcP bS0 0 b' ∧ v'.2 = w2.2) := by
    intro n a b v a' b' v' h hS
    obtain ⟨⟨e, he, hA⟩, hB, hv⟩ := h
    obtain ⟨⟨a1, wa, ha⟩, wb, hv'⟩ := hS
    refine ⟨?_, AcP_Wr wb hB, hv'.trans hv⟩
    rcases ha with q | q
    · subst q
      exact ⟨e, by omega, AcP_Wr wa hA⟩
    · subst q
      exact ⟨e + 1, by omega, AcP_e (AcP_Wr wa hA)⟩
  obtain ⟨a', b', w', e2, ⟨⟨x, hx, hA⟩, hB, hv⟩, hI⟩ := law_loop (sc := sc) (by omega) (fun n a b v => (∃ e, e ≤ n ∧ AcP aS0 e a) ∧ AcP bS0 0 b ∧ v.2 = w2.2) hQ (sc.length / 5) 0 aS0 bS0 w2 (by omega) s_IvH hW (by omega) (by omega) ⟨⟨0, Nat.le_refl _, Ac_a⟩, Ac_b, rfl⟩
  obtain ⟨r1, r2⟩ := room_a hI hA (by omega)
  obtain ⟨r3, r4⟩ := room_b hI hB
  refine ⟨_, e.trans e2, ?_, ?_⟩
  · show tc a' + (tc b' + w'.2.1) ≤ _
    rw [show w'.2.1 = w.2.1 + 2 by rw [hv, hw2]]
    omega
  · show tz a' + (tz b' + w'.2.2) ≤ _
    rw [show w'.2.2 = w.2.2 + 2 by rw [hv, hw2]]
    omega
