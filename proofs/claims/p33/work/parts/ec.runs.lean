/-! ===== runs of many at once, and of each ===== -/
def itF (N : Nat → Nat) : Nat → Nat → Nat
  | 0, r => r
  | t + 1, r => itF N t (N r)
def smF (N W : Nat → Nat) : Nat → Nat → Nat
  | 0, _ => 0
  | t + 1, r => W r + smF N W t (N r)
def capF (N W : Nat → Nat) : List Nat → Nat → Nat → Prop
  | [], _, _ => True
  | c :: cs, r, s => s + W r ≤ c ∧ capF N W cs (N r) (s + W r)
def zF (N W : Nat → Nat) (K G : Nat → Bool) : List Nat → Nat → Nat → Bool → Prop
  | [], _, _, _ => True
  | c :: cs, r, s, al => (G r = true → al = true → s ≤ c) ∧ zF N W K G cs (N r) (s + W r) (al && !K r)
/-- nobody paid by touching for sure in the first acts -/
def alF (N : Nat → Nat) (K : Nat → Bool) : Nat → Nat → Bool → Bool
  | 0, _, al => al
  | t + 1, r, al => alF N K t (N r) (al && !K r)
theorem aN_lt (th any : Bool) (r : Nat) : aN th any r < 4294967296 := by
  unfold aN
  dsimp only
  repeat' split
  all_goals exact rS_lt _
theorem aWf_le {m d w : Nat} (h : w ≤ 3) : aWf m d w ≤ 3 := by
  unfold aWf
  split
  · exact h
  · exact Nat.zero_le _
theorem mod4 (x : Nat) : x % 4 ≤ 3 := Nat.le_of_lt_succ (Nat.mod_lt _ (by decide))
theorem aW_le (r : Nat) : aW r ≤ 3 := aWf_le (mod4 _)
/-- an act of all, each by N, W, K, G -/
def ActF (th any : Bool) (n : Nat) (N W : Nat → Nat) (K G : Nat → Bool) : Prop := (∀ r, N r < 4294967296) ∧ (∀ r, W r ≤ 3) ∧ ∀ (k : Nat → Nat → Nat → Nat → Bool) (r : Nat → Nat), (∀ i, r i < 4294967296) → vAct th any (lO n) (lz n r) k = k (lz n (fun i => N (r i))) (lz n (fun i => W (r i))) (lz n (fun i => ib (K (r i)))) (lz n (fun i => ib (G (r i))))
theorem actF (th any : Bool) (n : Nat) : ActF th any n (aN th any) aW aKb aGb := ⟨aN_lt th any, aW_le, fun k _ hr => lz_vAct th any k hr⟩
theorem l256 : ∀ x, x < 512 → Nat.land x 256 = 0 → x < 256 := by decide +kernel
theorem l256b : ∀ x, x < 512 → (x / 2 ^ 8 % 2 == 1) = Nat.ble 256 x := by decide +kernel
theorem runM_c (th : Bool) (o : Nat) (k : Nat → Nat → Bool) (c : Nat) (cs : List Nat) (R S : Nat) : runM th o k (c :: cs) R S = vAct th true o R (fun R' W _ _ => (fun S' => bif Nat.ble R' (Nat.mul 4294967296 o) then (bif Nat.beq (Nat.land (Nat.add S' (Nat.mul (Nat.sub 255 c) o)) (Nat.mul 256 o)) 0 then runM th o k cs R' S' else false) else false) (Nat.add S W)) := rfl
theorem runZ_c (o : Nat) (k : Nat → Nat → Nat → Bool) (c : Nat) (cs : List Nat) (R S A : Nat) : runZ o k (c :: cs) R S A = vAct false false o R (fun R' W K G => bif Nat.ble R' (Nat.mul 4294967296 o) then (bif Nat.beq (Nat.land (Nat.land G A) (nbt o 8 (Nat.add S (Nat.mul (Nat.sub 255 c) o)))) 0 then runZ o k cs R' (Nat.add S W) (Nat.sub A (Nat.land A K)) else false) else false) := rfl
section
variable {n : Nat}
theorem chk_cap {c : Nat} {s : Nat → Nat} (hc : c ≤ 255) (hs : ∀ i, s i ≤ 255) (h : Nat.beq (Nat.land (Nat.add (lz n s) (Nat.mul (Nat.sub 255 c) (lO n))) (Nat.mul 256 (lO n))) 0 = true) : ∀ i, i < n → s i ≤ c := by
  have h2 := Nat.eq_of_beq_eq_true h
  have b : ∀ i, Nat.add (s i) (Nat.sub 255 c) < 512 := fun i => by
    have := hs i
    show s i + (255 - c) < 512
    omega
  rw [lz_c, lz_c, lz_add, lz_and n _ _ (fun i => Nat.lt_trans (b i) (by decide)) (fun _ => by decide)] at h2
  intro i hi
  have h3 := l256 _ (b i) (lz_zero h2 i hi)
  have h3 : s i + (255 - c) < 256 := h3
  omega
theorem runM_ok {N W : Nat → Nat} {K G : Nat → Bool} (th : Bool) (hA : ActF th true n N W K G) (k : Nat → Nat → Bool) : ∀ (cs : List Nat) (r s : Nat → Nat), (∀ c ∈ cs, c ≤ 250) → (∀ i, r i < 4294967296) → (∀ i, s i ≤ 250) → runM th (lO n) k cs (lz n r) (lz n s) = true →
    (∀ i, i < n → capF N W cs (r i) (s i)) ∧ ∃ (r' s' : Nat → Nat), (∀ i, r' i < 4294967296) ∧ (∀ i, s' i ≤ 250) ∧ (∀ i, i < n → r' i = itF N cs.length (r i) ∧ s' i = s i + smF N W cs.length (r i)) ∧ k (lz n r') (lz n s') = true := by
  intro cs
  induction cs with
  | nil => exact fun r s _ hr hs h => ⟨fun _ _ => trivial, r, s, hr, hs, fun i _ => ⟨rfl, (Nat.add_zero _).symm⟩, h⟩
  | cons c cs ih =>
    intro r s hc hr hs h
    rw [runM_c, hA.2.2 _ _ hr] at h
    dsimp only at h
    rw [lz_add] at h
    have hc0 : c ≤ 250 := hc c (List.mem_cons_self ..)
    have hs' : ∀ i, Nat.add (s i) (W (r i)) ≤ 255 := fun i => by
      have h1 := hs i
      have h2 := hA.2.1 (r i)
      show s i + W (r i) ≤ 255
      omega
    cases e1 : Nat.ble (lz n (fun i => N (r i))) (Nat.mul 4294967296 (lO n)) with
    | false => rw [e1] at h; cases h
    | true =>
      rw [e1] at h
      cases e2 : Nat.beq (Nat.land (Nat.add (lz n (fun i => Nat.add (s i) (W (r i)))) (Nat.mul (Nat.sub 255 c) (lO n))) (Nat.mul 256 (lO n))) 0 with
      | false => rw [e2] at h; cases h
      | true =>
        rw [e2] at h
        have h : runM th (lO n) k cs (lz n (fun i => N (r i))) (lz n (fun i => Nat.add (s i) (W (r i)))) = true := h
        have hb := chk_cap (by omega) hs' e2
        rw [lz_cut n (fun i => Nat.add (s i) (W (r i)))] at h
        obtain ⟨g1, r', s', g2, g3, g4, g5⟩ := ih _ _ (fun c' h' => hc c' (List.mem_cons_of_mem _ h')) (fun i => hA.1 _) (fun i => by
          unfold cut
          split
          · rename_i hi
            exact Nat.le_trans (hb i hi) hc0
          · exact Nat.zero_le _) h
        have ec : ∀ i, i < n → cut n (fun i => Nat.add (s i) (W (r i))) i = s i + W (r i) := fun i hi => if_pos hi
        refine ⟨fun i hi => ⟨hb i hi, ?_⟩, r', s', g2, g3, fun i hi => ⟨(g4 i hi).1, ?_⟩, g5⟩
        · have := g1 i hi
          rw [ec i hi] at this
          exact this
        · rw [(g4 i hi).2, ec i hi]
          exact Nat.add_assoc _ _ _
theorem runZ_ok {N W : Nat → Nat} {K G : Nat → Bool} (hA : ActF false false n N W K G) (k : Nat → Nat → Nat → Bool) : ∀ (cs : List Nat) (r s : Nat → Nat) (al : Nat → Bool), (∀ c ∈ cs, c ≤ 250) → (∀ i, r i < 4294967296) → (∀ i, s i + 3 * cs.length ≤ 250) → runZ (lO n) k cs (lz n r) (lz n s) (lz n (fun i => ib (al i))) = true →
    (∀ i, i < n → zF N W K G cs (r i) (s i) (al i)) ∧ ∃ (r' s' : Nat → Nat) (al' : Nat → Bool), (∀ i, r' i < 4294967296) ∧ (∀ i, s' i ≤ 250) ∧ (∀ i, i < n → r' i = itF N cs.length (r i) ∧ s' i = s i + smF N W cs.length (r i) ∧ al' i = alF N K cs.length (r i) (al i)) ∧ k (lz n r') (lz n s') (lz n (fun i => ib (al' i))) = true := by
  intro cs
  induction cs with
  | nil => exact fun r s al _ hr hs h => ⟨fun _ _ => trivial, r, s, al, hr, fun i => by have h2 : s i + 0 ≤ 250 := hs i; omega, fun i _ => ⟨rfl, (Nat.add_zero _).symm, rfl⟩, h⟩
  | cons c cs ih =>
    intro r s al hc hr hs h
    rw [runZ_c, hA.2.2 _ _ hr] at h
    have hc0 : c ≤ 250 := hc c (List.mem_cons_self ..)
    have hsb : ∀ i, s i ≤ 250 := fun i => by have := hs i; omega
    have b : ∀ i, Nat.add (s i) (Nat.sub 255 c) < 512 := fun i => by
      have := hsb i
      show s i + (255 - c) < 512
      omega
    rw [lz_add, iv_and, iv_and, iv_sub _ _ (fun i h => by simp only [Bool.and_eq_true] at h; exact h.1), lz_c, lz_c, lz_add, lz_nb1 8 (by decide) (fun i => Nat.lt_trans (b i) (by decide)) (fun i => nbt_ib 8 _), iv_and] at h
    cases e1 : Nat.ble (lz n (fun i => N (r i))) (lz n (fun _ => 4294967296)) with
    | false => rw [e1] at h; cases h
    | true =>
      rw [e1] at h
      cases e2 : Nat.beq (lz n (fun i => ib ((G (r i) && al i) && (Nat.add (s i) (Nat.sub 255 c) / 2 ^ 8 % 2 == 1)))) 0 with
      | false => rw [e2] at h; cases h
      | true =>
        rw [e2] at h
        have h : runZ (lO n) k cs (lz n (fun i => N (r i))) (lz n (fun i => Nat.add (s i) (W (r i)))) (lz n (fun i => ib (al i && !(al i && K (r i))))) = true := h
        obtain ⟨g1, r', s', al', g2, g3, g4, g5⟩ := ih _ _ (fun i => al i && !(al i && K (r i))) (fun c' h' => hc c' (List.mem_cons_of_mem _ h')) (fun i => hA.1 _) (fun i => by
          have h1 : s i + 3 * (cs.length + 1) ≤ 250 := hs i
          have h2 := hA.2.1 (r i)
          show s i + W (r i) + 3 * cs.length ≤ 250
          omega) h
        have ea : ∀ i, (al i && !(al i && K (r i))) = (al i && !K (r i)) := fun i => by cases al i <;> cases K (r i) <;> rfl
        refine ⟨fun i hi => ⟨fun q1 q2 => ?_, ?_⟩, r', s', al', g2, g3, fun i hi => ⟨(g4 i hi).1, ?_, ?_⟩, g5⟩
        · have h3 := lz_zero (Nat.eq_of_beq_eq_true e2) i hi
          rw [q1, q2, l256b _ (b i)] at h3
          cases e3 : Nat.ble 256 (Nat.add (s i) (Nat.sub 255 c)) with
          | true => rw [e3] at h3; cases h3
          | false =>
            have h4 : s i + (255 - c) < 256 := ble_f.mp e3
            omega
        · have := g1 i hi
          rw [ea i] at this
          exact this
        · rw [(g4 i hi).2.1]
          exact Nat.add_assoc _ _ _
        · rw [(g4 i hi).2.2, ea i]
          rfl
end
