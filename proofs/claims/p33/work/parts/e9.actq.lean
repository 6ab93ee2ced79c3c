/-! ===== an act of many at once is an act of each (2) ===== -/
section
variable {n : Nat} {x : Nat → Nat}
theorem lz_rS (hx : ∀ i, x i < 4294967296) : nst (lO n) (lz n x) = lz n (fun i => rS (x i)) := (lz_nst hx).trans (lz_congr (fun _ _ => nst_1))
theorem lz_dv (hx : ∀ i, x i < 4294967296) : ndv (lO n) (lz n x) = lz n (fun i => x i / 512) := (lz_ndv (fun i => Nat.lt_trans (hx i) (by decide))).trans (lz_congr (fun i _ => ndv_1 (hx i)))
theorem dv_lt {v : Nat} (h : v < 4294967296) : v / 512 < 8388608 := by omega
theorem lz_m22 (hx : ∀ i, x i < 4294967296) : n22 (lO n) (ndv (lO n) (lz n x)) = lz n (fun i => x i / 512 % 22) := by
  rw [lz_dv hx, lz_n22 (fun i => dv_lt (hx i))]
  exact lz_congr (fun i _ => (n22_1 (dv_lt (hx i))).2)
theorem lz_m5 (hx : ∀ i, x i < 4294967296) : n5 (lO n) (ndv (lO n) (lz n x)) = lz n (fun i => x i / 512 % 5) := by
  rw [lz_dv hx, lz_n5 (fun i => dv_lt (hx i))]
  exact lz_congr (fun i _ => (n5_1 (dv_lt (hx i))).2)
theorem lz_m3 (hx : ∀ i, x i < 4294967296) : n3 (lO n) (ndv (lO n) (lz n x)) = lz n (fun i => x i / 512 % 3) := by
  rw [lz_dv hx, lz_n3 (fun i => dv_lt (hx i))]
  exact lz_congr (fun i _ => (n3_1 (dv_lt (hx i))).2)
theorem lz_nb1 (k : Nat) (hk : k < 64) (hx : ∀ i, x i < 2 ^ 64) {f : Nat → Bool} (h : ∀ i, nbt 1 k (x i) = ib (f i)) : nbt (lO n) k (lz n x) = lz n (fun i => ib (f i)) := (lz_nbt k hk hx).trans (lz_congr (fun i _ => h i))
end
theorem t4 : ∀ d, d < 4 → ib (d / 2 ^ 0 % 2 == 1 || d / 2 ^ 1 % 2 == 1) = ib (!Nat.beq d 0) := by decide
theorem t5 : ∀ d, d < 5 → (d / 2 ^ 1 % 2 == 1 && !(d / 2 ^ 0 % 2 == 1)) = Nat.beq d 2 ∧ (d / 2 ^ 2 % 2 == 1 || (d / 2 ^ 1 % 2 == 1 && d / 2 ^ 0 % 2 == 1)) = Nat.ble 3 d ∧ ((d / 2 ^ 0 % 2 == 1 || d / 2 ^ 1 % 2 == 1) || d / 2 ^ 2 % 2 == 1) = !Nat.beq d 0 := by decide
theorem t3 : ∀ d, d < 3 → (!(d / 2 ^ 0 % 2 == 1 || d / 2 ^ 1 % 2 == 1)) = Nat.beq d 0 := by decide
theorem b9 (a : Nat) : (a / 2 ^ 9 % 2 == 1 || a / 2 ^ 10 % 2 == 1) = !Nat.beq (a / 512 % 4) 0 := by
  have e1 : a / 2 ^ 9 % 2 = a / 512 % 4 % 2 := by
    show a / 512 % 2 = _
    omega
  have e2 : a / 2 ^ 10 % 2 = a / 512 % 4 / 2 % 2 := by
    show a / 1024 % 2 = _
    omega
  rw [e1, e2]
  have : a / 512 % 4 < 4 := by omega
  revert this
  generalize a / 512 % 4 = d
  revert d
  decide
theorem b9b (a : Nat) : (a / 2 ^ 9 % 2 == 1) = !Nat.beq (a / 512 % 2) 0 := by
  show (a / 512 % 2 == 1) = _
  have : a / 512 % 2 < 2 := by omega
  revert this
  generalize a / 512 % 2 = d
  revert d
  decide
def aKb (r : Nat) : Bool := !Nat.ble 7 (rS r / 512 % 22) && (Nat.ble 3 (rS (rS (rS (rS (rS (rS (rS r)))))) / 512 % 5) && !Nat.beq (rS (rS (rS (rS (rS r)))) / 512 % 5) 0)
def aGb (r : Nat) : Bool := Nat.beq (rS r / 512 % 22) 20 || Nat.beq (rS r / 512 % 22) 21
theorem ite_b {α : Type} (p : Prop) [Decidable p] (b : Bool) (h : (b = true) ↔ p) (u v : α) : (if b = true then u else v) = if p then u else v := by
  by_cases e : p
  · rw [if_pos e, if_pos (h.mpr e)]
  · rw [if_neg e, if_neg (fun q => e (h.mp q))]
theorem beq_iff {a b : Nat} : Nat.beq a b = true ↔ a = b := ⟨Nat.eq_of_beq_eq_true, fun h => by rw [h]; exact Nat.beq_refl b⟩
theorem aN_sel (th any : Bool) (r : Nat) : selB th any (rS r / 512 % 22) (Nat.beq (rS (rS (rS r)) / 512 % 4) 0) (Nat.beq (rS (rS (rS (rS r))) / 512 % 2) 0) (Nat.beq (rS (rS (rS (rS (rS (rS (rS r)))))) / 512 % 5) 2) (rS (rS r)) (rS (rS (rS r))) (rS (rS (rS (rS r)))) (rS (rS (rS (rS (rS r))))) (rS (rS (rS (rS (rS (rS r)))))) (rS (rS (rS (rS (rS (rS (rS r))))))) (rS (rS (rS (rS (rS (rS (rS (rS r)))))))) = aN th any r := by
  unfold selB aN
  dsimp only
  rw [ite_b _ _ beq_iff, ite_b _ _ beq_iff, ite_b _ _ beq_iff]
section
variable {n : Nat}
theorem lz_vP3 {m a3 : Nat → Nat} (hm : ∀ i, m i < 22) (h3 : ∀ i, a3 i < 4294967296) : vP3 (lO n) (lz n (fun i => nH 1 (nT 1 (m i)))) (lz n a3) = lz n (fun i => ib (Nat.beq (m i) 18 && !Nat.beq (a3 i / 512 % 4) 0)) := by
  have h64 : ∀ i, a3 i < 2 ^ 64 := fun i => Nat.lt_trans (h3 i) (by decide)
  unfold vP3
  rw [lz_nb1 35 (by decide) (fun i => nH_lt _ (nT_lt _)) (fun i => (tabT (m i) (hm i)).2.2.2.2.2.1), lz_nb1 9 (by decide) h64 (fun i => nbt_ib 9 (a3 i)), lz_nb1 10 (by decide) h64 (fun i => nbt_ib 10 (a3 i)), iv_or, iv_and]
  exact lz_congr (fun i _ => by rw [b9])
theorem lz_vE2 {d : Nat → Nat} (hd : ∀ i, d i < 5) : vE2 (lO n) (lz n d) = lz n (fun i => ib (Nat.beq (d i) 2)) := by
  have h64 : ∀ i, d i < 2 ^ 64 := fun i => Nat.lt_trans (hd i) (by decide)
  unfold vE2
  rw [lz_nb1 1 (by decide) h64 (fun i => nbt_ib 1 (d i)), lz_nb1 0 (by decide) h64 (fun i => nbt_ib 0 (d i)), iv_not, iv_and]
  exact lz_congr (fun i _ => by rw [(t5 (d i) (hd i)).1])
theorem lz_vK {d c : Nat → Nat} {l : Nat → Bool} (hd : ∀ i, d i < 5) (hc : ∀ i, c i < 5) : vK (lO n) (lz n (fun i => ib (l i))) (lz n d) (lz n c) = lz n (fun i => ib (l i && (Nat.ble 3 (d i) && !Nat.beq (c i) 0))) := by
  have h64 : ∀ i, d i < 2 ^ 64 := fun i => Nat.lt_trans (hd i) (by decide)
  have c64 : ∀ i, c i < 2 ^ 64 := fun i => Nat.lt_trans (hc i) (by decide)
  unfold vK
  rw [lz_nb1 2 (by decide) h64 (fun i => nbt_ib 2 (d i)), lz_nb1 1 (by decide) h64 (fun i => nbt_ib 1 (d i)), lz_nb1 0 (by decide) h64 (fun i => nbt_ib 0 (d i)), lz_nb1 2 (by decide) c64 (fun i => nbt_ib 2 (c i)), lz_nb1 1 (by decide) c64 (fun i => nbt_ib 1 (c i)), lz_nb1 0 (by decide) c64 (fun i => nbt_ib 0 (c i)), iv_and, iv_or, iv_or, iv_or, iv_and, iv_and]
  exact lz_congr (fun i _ => by rw [(t5 (d i) (hd i)).2.1, (t5 (c i) (hc i)).2.2])
theorem w3 : ∀ w, w < 4 → ∀ b : Bool, Nat.land w (Nat.mul (ib b) 3) = cond b w 0 := by decide
theorem lz_vW {m a4 a5 : Nat → Nat} (hm : ∀ i, m i < 22) (h4 : ∀ i, a4 i < 4294967296) (h5 : ∀ i, a5 i < 4294967296) : vW (lO n) (lz n (fun i => nH 1 (nT 1 (m i)))) (lz n a4) (lz n a5) = lz n (fun i => cond (Nat.beq (m i) 15 && Nat.beq (a4 i / 512 % 3) 0) (a5 i / 512 % 4) 0) := by
  have h64 : ∀ i, a5 i < 2 ^ 64 := fun i => Nat.lt_trans (h5 i) (by decide)
  have d64 : ∀ i, a4 i / 512 % 3 < 2 ^ 64 := fun i => Nat.lt_trans (Nat.mod_lt _ (by decide)) (by decide)
  unfold vW
  dsimp only
  rw [lz_m3 h4, lz_c, lz_shr 9 3 (by decide) (by decide) n _ h64, lz_nb1 17 (by decide) (fun i => nH_lt _ (nT_lt _)) (fun i => (tabT (m i) (hm i)).2.2.1), lz_nb1 0 (by decide) d64 (fun i => nbt_ib 0 _), lz_nb1 1 (by decide) d64 (fun i => nbt_ib 1 _), iv_or, iv_not, iv_and, lz_mul, lz_and n _ _ (fun i => Nat.lt_of_le_of_lt (and_le_r _ _) (by decide)) (fun i => by have := ib_le (Nat.beq (m i) 15 && !(a4 i / 512 % 3 / 2 ^ 0 % 2 == 1 || a4 i / 512 % 3 / 2 ^ 1 % 2 == 1)); show _ * 3 < 2 ^ 64; omega)]
  refine lz_congr (fun i _ => ?_)
  rw [t3 _ (Nat.mod_lt _ (by decide)), show Nat.land (Nat.shiftRight (a5 i) 9) 3 = a5 i / 512 % 4 from (and_m _ 2).trans (congrArg (· % 2 ^ 2) (shr_d _ 9))]
  exact w3 _ (Nat.mod_lt _ (by decide)) _
theorem lz_b9 {x : Nat → Nat} (hx : ∀ i, x i < 4294967296) : nbt (lO n) 9 (lz n x) = lz n (fun i => ib (!Nat.beq (x i / 512 % 2) 0)) := (lz_nb1 9 (by decide) (fun i => Nat.lt_trans (hx i) (by decide)) (fun i => nbt_ib 9 _)).trans (lz_congr (fun i _ => by rw [b9b]))
theorem iv_cond (b : Bool) (p : Nat → Bool) : cond b (lz n (fun i => ib (p i))) 0 = lz n (fun i => ib (b && p i)) := by
  cases b
  · exact iv_0
  · rfl
theorem beq_f {m a b : Nat} (h : a ≠ b) : Nat.beq m a = true → Nat.beq m b = true → False := fun h1 h2 => h ((Nat.eq_of_beq_eq_true h1).symm.trans (Nat.eq_of_beq_eq_true h2))
end
theorem ble_iff {a b : Nat} : Nat.ble a b = true ↔ a ≤ b := by rw [Nat.ble_eq]
theorem ble_f {a b : Nat} : Nat.ble a b = false ↔ b < a := by
  cases e : Nat.ble a b
  · exact ⟨fun _ => Nat.lt_of_not_le (fun h => by rw [ble_iff.mpr h] at e; cases e), fun _ => rfl⟩
  · exact ⟨fun h => (nomatch h), fun h => absurd (ble_iff.mp e) (Nat.not_le_of_lt h)⟩
theorem iv_condn {n : Nat} (b : Bool) (p : Nat → Bool) : cond b 0 (lz n (fun i => ib (p i))) = lz n (fun i => ib (!b && p i)) := by
  cases b
  · rfl
  · exact iv_0
theorem dj34 : ∀ m, m < 22 → ∀ th an z3 z4 : Bool, ((Nat.beq m 16 || (Nat.beq m 18 && !z3)) || (an && Nat.beq m 21)) = true → ((Nat.ble 10 m && Nat.ble m 14) || (an && (!th && Nat.beq m 20))) = true → False := by decide +kernel
theorem dj56 : ∀ m, m < 22 → ∀ th an z3 z4 : Bool, ((Nat.beq m 15 || Nat.beq m 17) || ((Nat.beq m 18 && !(Nat.beq m 18 && !z3)) && !((Nat.beq m 18 && !(Nat.beq m 18 && !z3)) && !z4))) = true → (((Nat.beq m 18 && !(Nat.beq m 18 && !z3)) && !z4) || (an && (th && Nat.beq m 20))) = true → False := by decide +kernel
theorem dj7 : ∀ m, m < 22 → ∀ th an z3 z4 : Bool, (((Nat.beq m 15 || Nat.beq m 17) || ((Nat.beq m 18 && !(Nat.beq m 18 && !z3)) && !((Nat.beq m 18 && !(Nat.beq m 18 && !z3)) && !z4))) || (((Nat.beq m 18 && !(Nat.beq m 18 && !z3)) && !z4) || (an && (th && Nat.beq m 20)))) = true → (!Nat.ble 7 m) = true → False := by decide +kernel
theorem dj8 : ∀ m, m < 22 → ∀ th an z3 z4 : Bool, (((Nat.beq m 16 || (Nat.beq m 18 && !z3)) || (an && Nat.beq m 21)) || ((Nat.ble 10 m && Nat.ble m 14) || (an && (!th && Nat.beq m 20)))) = true → ((((Nat.beq m 15 || Nat.beq m 17) || ((Nat.beq m 18 && !(Nat.beq m 18 && !z3)) && !((Nat.beq m 18 && !(Nat.beq m 18 && !z3)) && !z4))) || (((Nat.beq m 18 && !(Nat.beq m 18 && !z3)) && !z4) || (an && (th && Nat.beq m 20)))) || (!Nat.ble 7 m)) = true → False := by decide +kernel
theorem aWf_c (m d w : Nat) : cond (Nat.beq m 15 && Nat.beq d 0) w 0 = aWf m d w := by
  unfold aWf
  by_cases h : m = 15 ∧ d = 0
  · rw [if_pos h, h.1, h.2]
    exact Eq.refl w
  · rw [if_neg h]
    cases z1 : Nat.beq m 15
    · exact Eq.refl 0
    · cases z2 : Nat.beq d 0
      · exact Eq.refl 0
      · exact absurd ⟨beq_iff.mp z1, beq_iff.mp z2⟩ h
theorem aW_c (r : Nat) : cond (Nat.beq (rS r / 512 % 22) 15 && Nat.beq (rS (rS (rS (rS r))) / 512 % 3) 0) (rS (rS (rS (rS (rS r)))) / 512 % 4) 0 = aW r := aWf_c _ _ _
theorem aK_c (r : Nat) : (!Nat.ble 7 (rS r / 512 % 22) && (Nat.ble 3 (rS (rS (rS (rS (rS (rS (rS r)))))) / 512 % 5) && !Nat.beq (rS (rS (rS (rS (rS r)))) / 512 % 5) 0)) = aKb r := by unfold aKb; exact Eq.refl _
theorem aG_c (r : Nat) : (Nat.beq (rS r / 512 % 22) 20 || Nat.beq (rS r / 512 % 22) 21) = aGb r := by unfold aGb; exact Eq.refl _
theorem lz_vAct (th any : Bool) (k : Nat → Nat → Nat → Nat → Bool) {n : Nat} {r : Nat → Nat} (hr : ∀ i, r i < 4294967296) :
    vAct th any (lO n) (lz n r) k = k (lz n (fun i => aN th any (r i))) (lz n (fun i => aW (r i))) (lz n (fun i => ib (aKb (r i)))) (lz n (fun i => ib (aGb (r i)))) := by
  have hs : ∀ {x : Nat → Nat}, ∀ i, rS (x i) < 4294967296 := fun i => rS_lt _
  have hm : ∀ i, rS (r i) / 512 % 22 < 22 := fun i => Nat.mod_lt _ (by decide)
  have hH : ∀ i, nH 1 (nT 1 (rS (r i) / 512 % 22)) < 2 ^ 64 := fun i => nH_lt _ (nT_lt _)
  have hT : ∀ i, nT 1 (rS (r i) / 512 % 22) < 2 ^ 64 := fun i => Nat.lt_of_le_of_lt (nT_lt _) (by decide)
  unfold vAct
  rw [lz_rS hr]
  unfold vA1
  rw [lz_rS hs]
  unfold vA2
  rw [lz_rS hs]
  unfold vA3
  rw [lz_rS hs]
  unfold vA4
  rw [lz_rS hs]
  unfold vA5
  rw [lz_rS hs]
  unfold vA6
  rw [lz_rS hs]
  unfold vA7
  rw [lz_rS hs, lz_m22 hs, lz_nT hm]
  unfold vU
  rw [lz_nH (fun i => nT_lt _)]
  unfold qvL
  rw [lz_nb1 5 (by decide) hT (fun i => (tabT _ (hm i)).1), iv_not]
  unfold vV
  rw [lz_vP3 hm hs]
  unfold vX
  rw [lz_nb1 35 (by decide) hH (fun i => (tabT _ (hm i)).2.2.2.2.2.1), iv_sub _ _ (fun i h => by cases e : Nat.beq (rS (r i) / 512 % 22) 18; rw [e] at h; cases h; rfl)]
  unfold vY vQ4
  rw [lz_m5 hs, lz_b9 hs, iv_and]
  unfold vZ
  rw [lz_vE2 (fun i => Nat.mod_lt _ (by decide)), iv_and, lz_m5 hs, lz_vK (fun i => Nat.mod_lt _ (by decide)) (fun i => Nat.mod_lt _ (by decide)), lz_vW hm hs hs,
    lz_nb1 53 (by decide) hH (fun i => (tabT _ (hm i)).2.2.2.2.2.2.2), lz_nb1 47 (by decide) hH (fun i => (tabT _ (hm i)).2.2.2.2.2.2.1), iv_add _ _ (fun i => beq_f (by decide))]
  rw [iv_condn th, iv_cond th, iv_cond any, iv_cond any, iv_cond any]
  unfold qvR
  rw [lz_nb1 23 (by decide) hH (fun i => (tabT _ (hm i)).2.2.2.1), lz_nb1 11 (by decide) hH (fun i => (tabT _ (hm i)).2.1), lz_nb1 17 (by decide) hH (fun i => (tabT _ (hm i)).2.2.1), lz_nb1 29 (by decide) hH (fun i => (tabT _ (hm i)).2.2.2.2.1)]
  rw [iv_add (fun i => Nat.beq (rS (r i) / 512 % 22) 16) _ (fun i h1 h2 => by simp only [Bool.or_eq_true, Bool.and_eq_true, Bool.not_eq_true', beq_iff, ble_iff, ble_f] at h1 h2; omega)]
  rw [iv_add _ (fun i => any && Nat.beq (rS (r i) / 512 % 22) 21) (fun i h1 h2 => by simp only [Bool.or_eq_true, Bool.and_eq_true, Bool.not_eq_true', beq_iff, ble_iff, ble_f] at h1 h2; omega)]
  rw [iv_add _ (fun i => any && (!th && Nat.beq (rS (r i) / 512 % 22) 20)) (fun i h1 h2 => by simp only [Bool.or_eq_true, Bool.and_eq_true, Bool.not_eq_true', beq_iff, ble_iff, ble_f] at h1 h2; omega)]
  rw [iv_add (fun i => Nat.beq (rS (r i) / 512 % 22) 15) (fun i => Nat.beq (rS (r i) / 512 % 22) 17) (fun i h1 h2 => by simp only [Bool.or_eq_true, Bool.and_eq_true, Bool.not_eq_true', beq_iff, ble_iff, ble_f] at h1 h2; omega)]
  rw [iv_sub _ _ (fun i h => by simp only [Bool.and_eq_true] at h; rw [Bool.and_eq_true]; exact h.1)]
  rw [iv_add _ _ (fun i h1 h2 => by simp only [Bool.or_eq_true, Bool.and_eq_true, Bool.not_eq_true', beq_iff, ble_iff, ble_f] at h1 h2; omega)]
  rw [iv_add _ (fun i => any && (th && Nat.beq (rS (r i) / 512 % 22) 20)) (fun i h1 h2 => by simp only [Bool.or_eq_true, Bool.and_eq_true, Bool.not_eq_true', beq_iff, ble_iff, ble_f] at h1 h2; omega)]
  unfold vRb
  rw [iv_add _ _ (fun i => dj34 _ (hm i) th any _ false)]
  rw [iv_add _ _ (fun i => dj56 _ (hm i) th any _ _)]
  rw [iv_add _ _ (fun i => dj7 _ (hm i) th any _ _)]
  rw [iv_add _ _ (fun i => dj8 _ (hm i) th any _ _)]
  rw [iv_not, iv_sub _ _ (fun i h => by simp only [Bool.and_eq_true] at h; exact h.1)]
  rw [iv_nsl _ _ hs, iv_nsl _ _ hs, iv_nsl _ _ hs, iv_nsl _ _ hs, iv_nsl _ _ hs, iv_nsl _ _ hs, iv_nsl _ _ hs]
  rw [lz_add, lz_add, lz_add, lz_add, lz_add, lz_add]
  refine congr (congr (congr (congrArg k ?_) ?_) ?_) ?_
  · refine lz_congr (fun i _ => ?_)
    have h1 := selB_eq th any (Nat.beq (rS (rS (rS (r i))) / 512 % 4) 0) (Nat.beq (rS (rS (rS (rS (r i)))) / 512 % 2) 0) (Nat.beq (rS (rS (rS (rS (rS (rS (rS (r i))))))) / 512 % 5) 2) (rS (r i) / 512 % 22) (hm i) (rS (rS (r i))) (rS (rS (rS (r i)))) (rS (rS (rS (rS (r i))))) (rS (rS (rS (rS (rS (r i)))))) (rS (rS (rS (rS (rS (rS (r i))))))) (rS (rS (rS (rS (rS (rS (rS (r i)))))))) (rS (rS (rS (rS (rS (rS (rS (rS (r i)))))))))
    unfold sumB at h1
    exact h1.trans (aN_sel th any (r i))
  · exact lz_congr (fun i _ => aW_c (r i))
  · exact lz_congr (fun i _ => congrArg ib (aK_c (r i)))
  · exact lz_congr (fun i _ => congrArg ib (aG_c (r i)))
