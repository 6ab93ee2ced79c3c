/-! ===== a payment: the reference's row from the card's yes on ===== -/
noncomputable def askT (p sh cd : Nat) (m : Int32) (h : Hp) : Res :=
  cV (Ex 230 [aR (some (93, 0)), aI (Int32.ofNat p), aI (0 : Int32), aI (1 : Int32)] h) (fun h26 =>
                cI (Ex 237 [aR (some (93, 0)), aI (Int32.ofNat p), aI (2 : Int32)] h26) (fun x28 h27 =>
                cV (Ex 230 [aR (some (93, 0)), aI (Int32.ofNat p), aI (5 : Int32), aI x28] h27) (fun h29 =>
                (gfR h29 (some (93, 0)) 19 11).bind (fun x30 =>
                cI (Ex 226 [aR (some (93, 0)), aI (Int32.ofNat cd), aI (0 : Int32)] h29) (fun x32 h31 =>
                cI (Ex 229 [aR (some (93, 0)), aI (Int32.ofNat p), aI (5 : Int32)] h31) (fun x34 h33 =>
                cV (Ex 196 [aR x30, aI (Int32.ofNat sh), aI (Int32.ofNat p), aI (Int32.ofNat cd), aI x32, aI m, aI x34] h33) (fun h35 =>
                some (.inl (some (aI (Int32.ofNat p))), h35)) xT) xT) xT)) xT) xT) xT
theorem y242_go {b : TS} {p cd sh : Nat} {m pin T q : Int32} {R : Res} {z : Hp} (hF : FxR b) (hp : p < 200) (hcd : cd < 8) (hsh : sh < 4) (h8 : tI b 93 0 8 = Int32.ofNat p) (hT : tI b 93 0 9 = T)
    (f239 : Ex 239 [aR (some (93, 0)), aI (Int32.ofNat cd), aI m, aI pin] (enc 2 (sI b 93 0 10 0) z) = some (.inl (some (aI 0)), enc 2 (sI b 93 0 10 0) z)) (hq : q = mAsk (tI b 88 0 sh) (tI b 89 0 sh) (tI b 90 0 sh) m)
    (hR : (if q = 0 then
              cI (Ex 240 [aR (some (93, 0)), aI (Int32.ofNat p)] (enc 2 (pyB (cuB (sI b 93 0 10 0) cd pin) p cd sh m T (if pin = -1 then 1 else 0)) z)) (fun x25 h24 => if x25 = 0 then askT p sh cd m h24 else some (.inl (some (aI (Int32.ofNat p))), h24)) xT
            else askT p sh cd m (enc 2 (pyB (cuB (sI b 93 0 10 0) cd pin) p cd sh m T (if pin = -1 then 1 else 0)) z)) = R) :
    Ru 242 61 [(0, aR (some (93, 0))), (1, aI (Int32.ofNat cd)), (2, aI (Int32.ofNat sh)), (3, aI m), (4, aI pin)] [aI 0, aI 0, aR (some (93, 0))] (enc 2 b z) = R := by
  have z0 : (0 : Int32) = 0 := rfl
  have zle : (0 : Int32) ≤ 0 := by decide
  have F1 : FxR (sI b 93 0 10 0) := FxR_s hF ((Wr.rf _).cI _ _ _ _) (chF_I (D := []) (F := [(93, 10)]) (by simp) (chF_r _ _ _)) (by decide)
  obtain ⟨-, -, cB, wB⟩ := cu_eq (sI b 93 0 10 0) (sI b 93 0 10 0) cd pin
  have FB : FxR (cuB (sI b 93 0 10 0) cd pin) := FxR_s F1 wB cB (by decide)
  have e8 : tI (cuB (sI b 93 0 10 0) cd pin) 93 0 8 = Int32.ofNat p := by rw [dIS cB (S := [93]) (P := []) (s := 93) (by decide) (by simp), tI_sI, if_neg (fun q => absurd q.2.2 (by decide))]; exact h8
  have e9 : tI (cuB (sI b 93 0 10 0) cd pin) 93 0 9 = T := by rw [dIS cB (S := [93]) (P := []) (s := 93) (by decide) (by simp), tI_sI, if_neg (fun q => absurd q.2.2 (by decide))]; exact hT
  have eo : ∀ s, s = 88 ∨ s = 89 ∨ s = 90 → tI (pyB0 (cuB (sI b 93 0 10 0) cd pin) p cd sh m T) s 0 sh = tI b s 0 sh := fun s hs => by
    unfold pyB0
    rw [tI_sI, if_neg (fun q => by omega), tI_sI, if_neg (fun q => by omega), tI_sI, if_neg (fun q => by omega), tI_sI, if_neg (fun q => by omega), tI_sI, if_neg (fun q => by omega), tI_sI, if_neg (fun q => by omega), (cB s (by simp; omega)).1 0 sh (by simp), tI_sI, if_neg (fun q => by omega)]
  have eB : tI (cuB (sI b 93 0 10 0) cd pin) 90 0 sh = tI b 90 0 sh := by rw [dIS cB (S := [90]) (P := []) (s := 90) (by decide) (by simp), tI_sI, if_neg (fun q => absurd q.1 (by decide))]
  have FP : FxR (pyB0 (cuB (sI b 93 0 10 0) cd pin) p cd sh m T) := by
    unfold pyB0
    exact s87_F (s87_F (s87_F (s87_F (s87_F (FxR_s FB ((Wr.rf _).cI _ _ _ _) (chF_I (D := []) (F := [(93, 8)]) (by simp) (chF_r _ _ _)) (by decide))))))
  have eP : ∀ tch, sI (sI (pyB0 (cuB (sI b 93 0 10 0) cd pin) p cd sh m T) 87 0 (10 * p + 9) tch) 90 0 sh (tI b 90 0 sh + 1) = pyB (cuB (sI b 93 0 10 0) cd pin) p cd sh m T tch := fun tch => by
    unfold pyB pyB0
    rw [eB]
  rw [lf_242_61, y225_0 hF, cI_v, if_pos z0, f239, cI_v, if_pos zle]
  by_cases ep : pin = -1
  · have eC : cuB (sI b 93 0 10 0) cd pin = sI (sI (sI b 93 0 10 0) 86 0 (10 * cd + 2) (tI (sI b 93 0 10 0) 86 0 (10 * cd + 2) + 1)) 86 0 (10 * cd + 0) (tI (sI b 93 0 10 0) 86 0 (10 * cd + 0) + 1) := by
      unfold cuB
      rw [if_pos ep]
    have e2 : tI (sI (sI b 93 0 10 0) 86 0 (10 * cd + 2) (tI (sI b 93 0 10 0) 86 0 (10 * cd + 2) + 1)) 86 0 (10 * cd + 0) = tI (sI b 93 0 10 0) 86 0 (10 * cd + 0) := by
      rw [tI_sI (sI b 93 0 10 0), if_neg (fun q => by omega)]
    rw [if_pos ep, y228_2 1 F1 hcd, cV_v, y228_0 1 (s86_F F1) hcd, cV_v, e2, ← eC, y242_reg (sh := sh) (m := m) FB hp hcd e8 e9, if_pos ep, y242_must FP hp hsh, eo 88 (by simp), eo 89 (by simp), eo 90 (by simp), ← hq, eP]
    rw [if_pos ep] at hR
    exact hR
  · have eC : cuB (sI b 93 0 10 0) cd pin = sI (sI (sI (sI b 93 0 10 0) 86 0 (10 * cd + 1) 3) 86 0 (10 * cd + 2) 0) 86 0 (10 * cd + 0) (tI (sI b 93 0 10 0) 86 0 (10 * cd + 0) + 1) := by
      unfold cuB
      rw [if_neg ep]
    have e2 : tI (sI (sI (sI b 93 0 10 0) 86 0 (10 * cd + 1) 3) 86 0 (10 * cd + 2) 0) 86 0 (10 * cd + 0) = tI (sI b 93 0 10 0) 86 0 (10 * cd + 0) := by
      rw [tI_sI (sI (sI b 93 0 10 0) 86 0 (10 * cd + 1) 3), if_neg (fun q => by omega), tI_sI (sI b 93 0 10 0), if_neg (fun q => by omega)]
    rw [if_neg ep, y227_1 3 F1 hcd, cV_v, y227_2 0 (s86_F F1) hcd, cV_v, y228_0 1 (s86_F (s86_F F1)) hcd, cV_v, e2, ← eC, y242_reg (sh := sh) (m := m) FB hp hcd e8 e9, if_neg ep, y242_must FP hp hsh, eo 88 (by simp), eo 89 (by simp), eo 90 (by simp), ← hq, eP]
    rw [if_neg ep] at hR
    exact hR
