/-! what is counted only grows -/
def mon (h : Hp) (a : Res) : Prop := ∀ r, a = some r → h.2.1 ≤ r.2.2.1 ∧ h.2.2 ≤ r.2.2.2
theorem mon_n (h : Hp) : mon h none := fun _ e => nomatch e
theorem mon_r {h h' : Hp} (o : Out) (e : h.2.1 ≤ h'.2.1 ∧ h.2.2 ≤ h'.2.2) : mon h (some (o, h')) := fun _ q => by cases q; exact e
theorem mon_s (h : Hp) (o : Out) : mon h (some (o, h)) := mon_r o ⟨Nat.le_refl _, Nat.le_refl _⟩
theorem mon_tr {h h' : Hp} {a : Res} (e : h.2.1 ≤ h'.2.1 ∧ h.2.2 ≤ h'.2.2) (m : mon h' a) : mon h a := fun r q => ⟨Nat.le_trans e.1 (m r q).1, Nat.le_trans e.2 (m r q).2⟩
theorem mon_bind {h : Hp} {α : Type} (o : Option α) {f : α → Res} (H : ∀ x, mon h (f x)) : mon h (o.bind f) := by
  cases o with
  | none => exact mon_n h
  | some x => exact H x
theorem pf_cnt {h h' : Hp} {o : Option (Nat × Nat)} {c k : Nat} {v : AV} (e : pf h o c k v = some h') : h'.2 = h.2 := by
  unfold pf at e
  repeat' (split at e)
  all_goals first | (cases e; rfl) | cases e
theorem pa_cnt {h h' : Hp} {o : Option (Nat × Nat)} {c : Nat} {i : Int32} {v : AV} (e : pa h o c i v = some h') : h'.2 = h.2 := by
  unfold pa at e
  repeat' (split at e)
  all_goals first | (cases e; rfl) | cases e
theorem paR_cnt {h h' : Hp} {o v : Option (Nat × Nat)} {i : Int32} (e : paR h o i v = some h') : h'.2 = h.2 := by
  unfold paR at e
  repeat' (split at e)
  all_goals first | exact pa_cnt e | cases e
theorem mon_eq {h h' : Hp} {a : Res} (e : h'.2 = h.2) (m : mon h' a) : mon h a := mon_tr (by rw [e]; exact ⟨Nat.le_refl _, Nat.le_refl _⟩) m
theorem mon_pf {h : Hp} {o : Option (Nat × Nat)} {c k : Nat} {v : AV} {f : Hp → Res} (H : ∀ h', mon h' (f h')) : mon h ((pf h o c k v).bind f) := by
  cases e : pf h o c k v with
  | none => exact mon_n h
  | some h' => exact mon_eq (pf_cnt e) (H h')
theorem mon_pa {h : Hp} {o : Option (Nat × Nat)} {c : Nat} {i : Int32} {v : AV} {f : Hp → Res} (H : ∀ h', mon h' (f h')) : mon h ((pa h o c i v).bind f) := by
  cases e : pa h o c i v with
  | none => exact mon_n h
  | some h' => exact mon_eq (pa_cnt e) (H h')
theorem mon_paR {h : Hp} {o v : Option (Nat × Nat)} {i : Int32} {f : Hp → Res} (H : ∀ h', mon h' (f h')) : mon h ((paR h o i v).bind f) := by
  cases e : paR h o i v with
  | none => exact mon_n h
  | some h' => exact mon_eq (paR_cnt e) (H h')
theorem mon_nwa {h : Hp} {site c : Nat} {n : Int32} {f : Option (Nat × Nat) × Hp → Res} (H : ∀ q, mon q.2 (f q)) : mon h ((nwa h site c n).bind f) := by
  unfold nwa
  split
  · exact mon_n h
  · exact mon_tr ⟨Nat.le_add_right _ _, Nat.le_add_right _ _⟩ (H _)
theorem mon_nob {h : Hp} {site c : Nat} {fs : List Nat} {a : Res} (H : mon (nob h site c fs).2 a) : mon h a := mon_tr ⟨Nat.le_add_right _ _, Nat.le_add_right _ _⟩ H
theorem mon_hC {h : Hp} {c n : Nat} {a : Res} (H : mon (hC h c n) a) : mon h a := mon_tr ⟨Nat.le_add_right _ _, Nat.le_add_right _ _⟩ H
theorem mon_nmu {h : Hp} {s c c' n k : Nat} {a : Res} (H : mon (nmu h s c c' n k) a) : mon h a := mon_tr ⟨Nat.le_add_right _ _, Nat.le_add_right _ _⟩ H
theorem mon_gz {h : Hp} (x : Int32) {a : Res} (m : mon h a) : mon h (gz x a) := by
  unfold gz; split
  · exact m
  · exact mon_n h
theorem mon_acc {h : Hp} (o : Option (Nat × Nat)) (c : Nat) (h' : Hp) {a : Res} (m : mon h a) : mon h (acc o c h' a) := by
  unfold acc; repeat' split
  all_goals first | exact m | exact mon_n h
theorem mon_aq {h : Hp} (h' : Hp) (x y : Option (Nat × Nat)) {a : Res} (m : mon h a) : mon h (aq h' x y a) := by
  unfold aq; split
  · exact m
  · exact mon_n h
theorem mon_swT {h : Hp} (x : Int) {k : Nat → Res} (m : ∀ q, mon h (k q)) (d : Nat) (l : List Nat) : ∀ lo : Int, mon h (swT x lo k d l) := by
  induction l with
  | nil => exact fun lo => m d
  | cons t l ih =>
    intro lo
    show mon h (if x = lo then k t else swT x (lo + 1) k d l)
    split
    · exact m t
    · exact ih _
theorem mon_cI {h : Hp} {a : Res} {k : Int32 → Hp → Res} {x : XT} (m : mon h a) (hk : ∀ v h, mon h (k v h)) (hx : ∀ e h, mon h (x e h)) : mon h (cI a k x) := by
  unfold cI; split
  · exact mon_tr (m _ rfl) (hk _ _)
  · exact mon_tr (m _ rfl) (hx _ _)
  · exact mon_n h
theorem mon_cL {h : Hp} {a : Res} {k : Int64 → Hp → Res} {x : XT} (m : mon h a) (hk : ∀ v h, mon h (k v h)) (hx : ∀ e h, mon h (x e h)) : mon h (cL a k x) := by
  unfold cL; split
  · exact mon_tr (m _ rfl) (hk _ _)
  · exact mon_tr (m _ rfl) (hx _ _)
  · exact mon_n h
theorem mon_cF {h : Hp} {a : Res} {k : UInt32 → Hp → Res} {x : XT} (m : mon h a) (hk : ∀ v h, mon h (k v h)) (hx : ∀ e h, mon h (x e h)) : mon h (cF a k x) := by
  unfold cF; split
  · exact mon_tr (m _ rfl) (hk _ _)
  · exact mon_tr (m _ rfl) (hx _ _)
  · exact mon_n h
theorem mon_cD {h : Hp} {a : Res} {k : UInt64 → Hp → Res} {x : XT} (m : mon h a) (hk : ∀ v h, mon h (k v h)) (hx : ∀ e h, mon h (x e h)) : mon h (cD a k x) := by
  unfold cD; split
  · exact mon_tr (m _ rfl) (hk _ _)
  · exact mon_tr (m _ rfl) (hx _ _)
  · exact mon_n h
theorem mon_cR {h : Hp} {a : Res} {k : Option (Nat × Nat) → Hp → Res} {x : XT} (m : mon h a) (hk : ∀ v h, mon h (k v h)) (hx : ∀ e h, mon h (x e h)) : mon h (cR a k x) := by
  unfold cR; split
  · exact mon_tr (m _ rfl) (hk _ _)
  · exact mon_tr (m _ rfl) (hx _ _)
  · exact mon_n h
theorem mon_cV {h : Hp} {a : Res} {k : Hp → Res} {x : XT} (m : mon h a) (hk : ∀ h, mon h (k h)) (hx : ∀ e h, mon h (x e h)) : mon h (cV a k x) := by
  unfold cV; split
  · exact mon_tr (m _ rfl) (hk _)
  · exact mon_tr (m _ rfl) (hx _ _)
  · exact mon_n h
set_option maxHeartbeats 4000000 in
theorem F_mon {K : KT} {C : CT} {X : XT} (hK : ∀ pc L st h, mon h (K pc L st h)) (hC : ∀ m a h, mon h (C m a h)) (hX : ∀ e h, mon h (X e h))
    (ins : Instr) (np a b : Nat) (ts : List Nat) (L : LV) (st : List AV) (h : Hp) : mon h (F K C X ins np a b ts L st h) := by
  cases ins <;> unfold F <;> dsimp only <;> repeat' (first | with_reducible exact mon_n _ | with_reducible exact hK _ _ _ _ | with_reducible exact hX _ _ | with_reducible exact mon_hC (hX _ _) | with_reducible exact mon_nob (hK _ _ _ _) | with_reducible exact mon_nmu (hK _ _ _ _) | with_reducible refine mon_pf (fun _ => ?_) | with_reducible refine mon_pa (fun _ => ?_) | with_reducible refine mon_paR (fun _ => ?_) | with_reducible refine mon_nwa (fun _ => ?_) | with_reducible refine mon_bind _ (fun _ => ?_) | with_reducible refine mon_gz _ ?_ | with_reducible refine mon_acc _ _ _ ?_ | with_reducible refine mon_aq _ _ _ ?_ | with_reducible refine mon_swT _ (fun _ => ?_) _ _ _ | with_reducible refine mon_cI (hC _ _ _) (fun _ _ => ?_) (fun _ _ => hX _ _) | with_reducible refine mon_cL (hC _ _ _) (fun _ _ => ?_) (fun _ _ => hX _ _) | with_reducible refine mon_cF (hC _ _ _) (fun _ _ => ?_) (fun _ _ => hX _ _) | with_reducible refine mon_cD (hC _ _ _) (fun _ _ => ?_) (fun _ _ => hX _ _) | with_reducible refine mon_cR (hC _ _ _) (fun _ _ => ?_) (fun _ _ => hX _ _) | with_reducible refine mon_cV (hC _ _ _) (fun _ => ?_) (fun _ _ => hX _ _) | with_reducible exact mon_s _ _ | split)
theorem kc_mon {cuts : List (Nat × List Nat)} {R K : KT} (hR : ∀ pc L st h, mon h (R pc L st h)) (hK : ∀ pc L st h, mon h (K pc L st h)) : ∀ pc L st h, mon h (kc cuts R K pc L st h) := by
  intro pc L st h
  unfold kc
  split
  · exact hR _ _ _ _
  · exact hK _ _ _ _
theorem xc_mon {hs : List (Nat × Nat × Nat × Nat)} {K : KT} (hK : ∀ pc L st h, mon h (K pc L st h)) (pc : Nat) (L : LV) : ∀ e h, mon h (xc hs K pc L e h) := by
  induction hs with
  | nil => exact fun e h => mon_s _ _
  | cons t hs ih =>
    intro e h
    show mon h ((match Nat.ble t.1 pc with | true => (match Nat.ble t.2.1 pc with | true => xc hs K pc L | false => fun e h => xif e t.2.2.2 (K t.2.2.1 L [aR (some (300, (h.1 300).length))] (hX h e)) (xc hs K pc L e h)) | false => xc hs K pc L) e h)
    cases Nat.ble t.1 pc
    · exact ih _ _
    · cases Nat.ble t.2.1 pc
      · unfold xif; dsimp only; split
        · exact mon_eq (h' := hX h e) rfl (hK _ _ _ _)
        · exact ih _ _
      · exact ih _ _
set_option maxHeartbeats 2000000 in
theorem prim_mon (m : Nat) (a : List AV) (h : Hp) : mon h (prim m a h) := by
  unfold prim
  repeat' (first | with_reducible exact mon_n _ | exact mon_r _ ⟨Nat.le_refl _, Nat.le_refl _⟩ | exact mon_r _ ⟨Nat.le_add_right _ _, Nat.le_add_right _ _⟩ | with_reducible refine mon_bind _ (fun _ => ?_) | split)
theorem minP_mon (a : List AV) (h : Hp) : mon h (minP a h) := by
  unfold minP
  split
  · exact mon_s _ _
  · exact mon_n _
theorem run_mon (n : Nat) : ∀ m pc L st h, mon h (run n m pc L st h) := by
  induction n with
  | zero => exact fun _ _ _ _ _ => mon_n _
  | succ n ih =>
    intro m pc L st h
    show mon h (stepK (run n) m pc L st h)
    unfold stepK; split
    · refine F_mon (kc_mon (ih m) (ih m)) (fun m a h => ?_) (xc_mon (kc_mon (ih m) (ih m)) pc L) _ _ _ _ _ _ _ _
      unfold call; split
      · exact prim_mon _ _ _
      · split
        · exact minP_mon _ _
        · split
          · exact ih _ _ _ _ _
          · exact mon_n _
    · exact mon_n _
