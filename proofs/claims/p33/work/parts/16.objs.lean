section OBJ
variable {G : Geo} {p : Program} {l : Launch} {e e0 : Env} {R : Room} {s : State} {m : MethodId} {args : Array Value} {below : List Frame} {meth : Method} {c : Code} {Q : State → Prop} {k : Nat} {φ0 : Nat × Nat → Nat} {h0 : Hp} {res : Out × Hp} {K : KT} {C : CT} {X : XT}
variable {φ ψ : Nat × Nat → Nat} {L : LV} {st : List AV} {h : Hp} {H : Heap} {locs : List Loc} {cells slots : Nat} {ls : Array Slot} {pc a b : Nat} {ts : List Nat}
theorem Ctx.sta (hX : Ctx G p s m meth c k) : Sta G s s.heap := hX.2.2.2.2.2.2.2
theorem tyK_obj {kd : Nat} {ty : FieldType} (h : tyK kd = some ty) (h1 : 1010 ≤ kd) (h2 : kd < 1900) : ∃ C, ty = .object C := by
  unfold tyK at h
  split at h <;> first | omega | exact ⟨_, (Option.some.inj h).symm⟩ | (cases h)
theorem tyK_cls {kd a : Nat} {ty : FieldType} (h : tyK kd = some ty) (ha : a < 24) (e : kd = 1011 + a) : ty = .object (cAt a).1 := by
  subst e
  have key : ∀ a, a < 24 → ∀ ty, tyK (1011 + a) = some ty → ty = .object (cAt a).1 := by
    intro a ha ty h
    match a, ha with
    | 4, _ => exact (Option.some.inj h).symm
    | 0, _ | 1, _ | 2, _ | 3, _ | 5, _ | 6, _ | 7, _ | 8, _ | 9, _ | 10, _ | 11, _ | 12, _ | 13, _ | 14, _ | 15, _ | 16, _ | 17, _ | 18, _ | 19, _ | 20, _ | 21, _ | 22, _ | 23, _ => cases h
    | n + 24, hn => exact absurd hn (by omega)
  exact key a ha ty h
theorem sn_aastore (hX : Ctx G p s m meth c k) (hK : KOK G p l e R s m args below meth c Q k φ0 h0 res K) (I : IV G s k φ0 h0 φ ψ L st h H locs cells slots ls) (hd : decode (bT k) pc = .ok (.aastore, 1)) (hr : F K C X .aastore (pc + 1) a b ts L st h = some res) : W p l e R s m args below meth c H locs cells slots Q (F0 m pc ls (st.map (vv φ))) := by
  have hs := I.2.2.1
  unfold F at hr
  dsimp only at hr
  split at hr
  · rename_i v i o rest
    simp only [List.forall_mem_cons] at hs
    obtain ⟨h1, e1, hr2⟩ := bind_some hr
    clear hr
    unfold paR at e1
    cases hx : hG h o with
    | none => rw [hx] at e1; cases e1
    | some x =>
      rw [hx] at e1
      dsimp only at e1
      split at e1
      · rename_i hb
        rw [Bool.and_eq_true, Bool.and_eq_true] at hb
        obtain ⟨⟨b1, b2⟩, b3⟩ := hb
        have b1 := Nat.le_of_ble_eq_true b1
        have b2 : x.1 < 2000 := by have := Nat.le_of_ble_eq_true b2; omega
        obtain ⟨q, y, rfl, hy, hkd, hq0, hi, rfl⟩ := pa_spec e1
        cases hx.symm.trans hy
        obtain ⟨ty, cell, t1, c1, c2, c3, c4, c7, kk⟩ := wr_arr (v := aR v) I hx (by omega) b2 hq0 hi hs.1 hs.2.2.2
        have hlt : i.toNatClampNeg < cell.slots.size := Nat.not_le.mp fun z => c4 (Or.inr z)
        cases v with
        | none =>
          unfold okS at b3
          have b3 := Nat.le_of_ble_eq_true b3
          obtain ⟨Cn, rfl⟩ := tyK_obj t1 b1 (by omega)
          refine va_WaastN hX.1 hX.2.1 c1 c2 c3 c4 rfl rfl hd (fun H' e1 e2 e3 => ?_)
          obtain ⟨ψ', I'⟩ := kk H' e1 e2 e3
          exact hK _ _ _ _ _ _ _ _ _ _ _ hr2 I'
        | some w =>
          unfold okS at b3
          dsimp only at b3
          cases hw : hG h (some w) with
          | none => rw [hw] at b3; cases b3
          | some z =>
            rw [hw] at b3
            dsimp only at b3
            have hA := hX.sta.1.2.2.1 x.1 ty t1
            have hcc : cell.cls = G.2.1 x.1 := c7 _ (by unfold acl; rw [Nat.ble_eq_true_of_le b1])
            have fin : ∀ (ca : Nat) (cv : Cell), ca < 24 → ty = .object (cAt ca).1 → H[φ w]? = some cv → cv.vm.isStatics = false → cv.cls = G.1.1 ca → W p l e R s m args below meth c H locs cells slots Q (F0 m pc ls (.ref (φ w) :: .int i :: .ref (φ q) :: rest.map (vv φ))) := by
              intro ca cv hca hty hv hst hcl
              rw [hty] at hA
              obtain ⟨kA, comp, k1, k2, k3, -⟩ := hA.2
              have hcls := (hX.kn.1 ca _ (kcl_at hca)).2
              have hcomp : comp = G.1.1 ca := Option.some.inj (k3.symm.trans hcls.1)
              subst hcomp
              obtain ⟨kC, hkC, -⟩ := id hcls.2
              refine W.aast hX.1 hX.2.1 c1 (fun q' h' => c2.1 q' h') c3 (by rw [hcc]; exact k1) k2 rfl hkC ⟨fun z => hi (Or.inl z), hlt⟩ hv (fun q h => by rw [h] at hst; cases hst) (by rw [hcl]; exact hkC) (by rw [hcl]; exact va_assign hcls) rfl rfl hd (fun H' e1 e2 e3 => ?_)
              obtain ⟨ψ', I'⟩ := kk H' e1 e2 e3
              exact hK _ _ _ _ _ _ _ _ _ _ _ hr2 I'
            rw [Bool.or_eq_true] at b3
            rcases b3 with b3 | b3
            · rw [Bool.and_eq_true] at b3
              have z1 := Nat.eq_of_beq_eq_true b3.1
              have z2 : z.1 < 24 := Nat.le_of_ble_eq_true b3.2
              obtain ⟨-, ⟨cv, q1, q2, q3, -⟩, -⟩ := I.2.2.2.1.obj hw z2
              exact fin z.1 cv z2 (tyK_cls t1 z2 z1) q1 (by rw [q3]; rfl) q2
            · rw [Bool.and_eq_true] at b3
              have z1 := Nat.eq_of_beq_eq_true b3.1
              have z2 := Nat.eq_of_beq_eq_true b3.2
              have hrep := I.2.2.2.1.1 w z hw
              unfold cellRep at hrep
              rw [if_neg (by omega), if_neg (by omega), if_pos (by omega)] at hrep
              obtain ⟨-, e9, ⟨cv, q1, q2, q3, -⟩, -⟩ := hrep
              rw [z1] at t1
              cases t1
      · cases e1
  · cases hr
end OBJ
