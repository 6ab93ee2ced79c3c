/-! ===== the law, from its call ===== -/
theorem hG_N {w : Hp} {s n s' i : Nat} {c : OC} (h : s' ≠ s) : hG (hN w s c n) (some (s', i)) = hG w (some (s', i)) := by
  show (match Nat.beq s' s with | true => w.1 s' ++ [c] | false => w.1 s')[i]? = (w.1 s')[i]?
  rw [beq_ff h]
theorem hG_NN {w : Hp} {s n : Nat} {c : OC} (h : w.1 s = []) : hG (hN w s c n) (some (s, 0)) = some c := by
  show (match Nat.beq s s with | true => w.1 s ++ [c] | false => w.1 s)[0]? = some c
  rw [beq_tt rfl, h]
  rfl
theorem N_ot {w : Hp} {s n s' : Nat} {c : OC} (h : s' ≠ s) : (hN w s c n).1 s' = w.1 s' := by
  show (match Nat.beq s' s with | true => w.1 s' ++ [c] | false => w.1 s') = w.1 s'
  rw [beq_ff h]
theorem S_ot {w : Hp} {s i s' : Nat} {c : OC} (h : s' ≠ s) : (hS w (s, i) c).1 s' = w.1 s' := by
  show (match Nat.beq s' s with | true => (w.1 s').set i c | false => w.1 s') = w.1 s'
  rw [beq_ff h]
theorem nwa_N {w : Hp} {s K m : Nat} {n : Int32} (h0 : ¬ n < 0) (hm : n.toNatClampNeg = m) (he : w.1 s = []) : nwa w s K n = some (some (s, 0), hN w s (K, List.replicate m (dfa K)) m) := by
  unfold nwa
  rw [if_neg h0, he, hm]
  rfl
theorem enc_0 {w : Hp} (he : ∀ s, ow s = 1 → w.1 s = []) : enc 1 eS0 w = w := by
  refine Prod.ext ?_ (Prod.ext ?_ ?_)
  · funext s
    by_cases h1 : ow s = 1
    · rw [enc_at _ _ h1, he s h1]
      rfl
    · rw [enc_ot _ _ h1]
  · show 0 + w.2.1 = w.2.1
    omega
  · show 0 + w.2.2 = w.2.2
    omega
/-- the heap while the script is read -/
def WS (w : Hp) (sc : List Int32) (r : Int32) (c : Nat × Nat) : Prop := hG w (some (0, 0)) = some (1000, sc.map aI) ∧ hG w (some (100, 0)) = some (1000, [aI r]) ∧ (∀ s, s ≠ 0 → s ≠ 100 → w.1 s = []) ∧ w.2 = c
theorem WS_g {w : Hp} {sc : List Int32} {r : Int32} {c : Nat × Nat} (h : WS w sc r c) : gaI w (some (100, 0)) 1000 0 = some r := by
  unfold gaI ga
  rw [h.2.1]
  rfl
theorem WS_p {w : Hp} {sc : List Int32} {r r' : Int32} {c : Nat × Nat} (h : WS w sc r c) : ∃ w', pa w (some (100, 0)) 1000 0 (aI r') = some w' ∧ WS w' sc r' c := by
  refine ⟨hS w (100, 0) (1000, [aI r']), ?_, (hGS (by decide)).trans h.1, hGSS h.2.1, fun s h1 h2 => (S_ot h2).trans (h.2.2.1 s h1 h2), h.2.2.2⟩
  unfold pa
  dsimp only
  rw [h.2.1]
  rfl
theorem law_l (H : ALLU) {sc : List Int32} {c : Nat × Nat} (hL : sc.length < 2 ^ 31) : ∀ d k r w, k + d = sc.length → WS w sc r c →
    ∃ a w' j, Ru 333 11 [(0, aR (some (0, 0))), (1, aR (some (100, 0))), (2, aI (Int32.ofNat k))] [] w = some (.inl (some (aI 1)), enc 1 a w') ∧ WrX aS0 a j ∧ j ≤ 145 ∧ w'.2 = (c.1 + 1, c.2 + 60) ∧ ∃ b', Core a b' 70
  | 0, k, r, w, e, h => by
    have ek : k = sc.length := by omega
    subst ek
    have g0 : len w (some (0, 0)) = some (Int32.ofNat sc.length) := by
      unfold len
      rw [h.1]
      show some (Int32.ofNat (sc.map aI).length) = _
      rw [List.length_map]
    have gn := nwa_N (w := w) (s := 101) (K := 1000) (n := 60) (m := 60) (by decide) (by decide) (h.2.2.1 101 (by decide) (by decide))
    have o1 : ow 0 ≠ 1 ∧ ow 100 ≠ 1 ∧ ow 101 ≠ 1 := by decide +kernel
    have e0 := enc_0 (w := hN w 101 (1000, List.replicate 60 (dfa 1000)) 60) (fun s hs => by
      have q1 : s ≠ 101 := fun q => o1.2.2 (q ▸ hs)
      rw [N_ot q1]
      exact h.2.2.1 s (fun q => o1.1 (q ▸ hs)) (fun q => o1.2.1 (q ▸ hs)))
    have er : Int32.ofNat r.toUInt32.toNat = r := by
      apply Int32.toBitVec_inj.mp
      show BitVec.ofNat 32 r.toBitVec.toNat = r.toBitVec
      rw [BitVec.ofNat_toNat]
      exact BitVec.setWidth_eq _
    have hW : WT (hN w 101 (1000, List.replicate 60 (dfa 1000)) 60) r.toUInt32.toNat (List.replicate 60 0) := by
      refine ⟨?_, ?_, r.toUInt32.toNat_lt, rfl⟩
      · rw [hG_N (by decide), h.2.1, er]
      · rw [hG_NN (h.2.2.1 101 (by decide) (by decide))]
        rfl
    obtain ⟨a, w', j, p1, p2, p3, p4, p5⟩ := x332 H hW (fun j => by
      rw [List.getD_eq_getElem?_getD, List.getElem?_replicate]
      by_cases q : j < 60
      · rw [if_pos q]; rfl
      · rw [if_neg q]; rfl)
    rw [e0] at p1
    refine ⟨a, w', j, ?_, p2, p3, p4.trans ?_, p5⟩
    · rw [lf_333_11, g0, Option.bind_some, if_pos (Int32.le_refl _), gn, Option.bind_some]
      dsimp only
      rw [p1, cI_v]
      exact gz_b rfl
    · show (w.2.1 + 1, w.2.2 + 60) = _
      rw [h.2.2.2]
  | d + 1, k, r, w, e, h => by
    have g0 : len w (some (0, 0)) = some (Int32.ofNat sc.length) := by
      unfold len
      rw [h.1]
      show some (Int32.ofNat (sc.map aI).length) = _
      rw [List.length_map]
    have g1 : gaI w (some (0, 0)) 1000 (Int32.ofNat k) = some (sc.getD k 0) := by
      unfold gaI ga
      rw [h.1]
      show oI (if Int32.ofNat k < 0 then none else (sc.map aI)[(Int32.ofNat k).toNatClampNeg]?) = _
      rw [if_neg (by
        have := o_lt (n := k) (k := 0) (by omega) (by decide)
        intro q
        exact absurd (this.mp q) (Nat.not_lt_zero _)), show (Int32.ofNat k).toNatClampNeg = k by
          unfold Int32.toNatClampNeg
          rw [Int32.toInt_ofNat_of_lt (by omega)]
          rfl, List.getElem?_map, List.getElem?_eq_getElem (by omega), List.getD_eq_getElem?_getD, List.getElem?_eq_getElem (by omega)]
      rfl
    obtain ⟨w1, p1, h1⟩ := WS_p (r' := 31 * r + sc.getD k 0) h
    obtain ⟨a, w', j, q1, q2, q3, q4, q5⟩ := law_l H hL d (k + 1) _ w1 (by omega) h1
    refine ⟨a, w', j, ?_, q2, q3, q4, q5⟩
    rw [lf_333_11, g0, Option.bind_some, if_neg (by rw [o_le (by omega) (by omega)]; omega), WS_g h, Option.bind_some, g1, Option.bind_some, p1, Option.bind_some, o_s]
    exact q1
theorem x333 (H : ALLU) {sc : List Int32} {w : Hp} (hL : sc.length < 2 ^ 31) (h0 : hG w (some (0, 0)) = some (1000, sc.map aI)) (he : ∀ s, s ≠ 0 → w.1 s = []) :
    ∃ a w' j, Ru 333 0 [(0, aR (some (0, 0)))] [] w = some (.inl (some (aI 1)), enc 1 a w') ∧ WrX aS0 a j ∧ j ≤ 145 ∧ w'.2 = (w.2.1 + 2, w.2.2 + 61) ∧ ∃ b', Core a b' 70 := by
  have gn := nwa_N (w := w) (s := 100) (K := 1000) (n := 1) (m := 1) (by decide) (by decide) (he 100 (by decide))
  have h1 : WS (hN w 100 (1000, List.replicate 1 (dfa 1000)) 1) sc 0 (w.2.1 + 1, w.2.2 + 1) := ⟨(hG_N (by decide)).trans h0, hG_NN (he 100 (by decide)), fun s q1 q2 => (N_ot q2).trans (he s q1), rfl⟩
  obtain ⟨w1, p1, h2⟩ := WS_p (r' := 59441) h1
  obtain ⟨a, w', j, q1, q2, q3, q4, q5⟩ := law_l H hL sc.length 0 _ w1 (by omega) h2
  refine ⟨a, w', j, ?_, q2, q3, q4, q5⟩
  rw [lf_333_0, gn, Option.bind_some]
  dsimp only
  rw [p1, Option.bind_some]
  exact q1
