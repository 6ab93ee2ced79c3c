/-! ===== money and holds: the calls ===== -/
theorem MonI_B {a a' b b' : TS} {D : Nat} {put : Nat → Int64} (hE : EvB a b a' b') (h : MonI a b D put) : MonI a' b' D put := by
  obtain ⟨sh, p, m, o, q, g, -, -, -, -, ca, cb, hA, hA'⟩ := hE
  exact MonI_fr hA.1 hA'.1 h ca cb (PM_c ca cb (by decide) (by decide)) (by decide) (by decide)
theorem MonI_S {a a' b b' : TS} {D : Nat} {put : Nat → Int64} (hE : EvS a b a' b') (h : MonI a b D put) : MonI a' b' D put := by
  obtain ⟨sh, p, o, q, g, -, -, -, -, -, -, -, -, ca, cb, hA, hA'⟩ := hE
  exact MonI_fr hA.1 hA'.1 h ca cb (PM_c ca cb (by decide) (by decide)) (by decide) (by decide)
theorem MonI_F {a a' b b' : TS} {D : Nat} {put : Nat → Int64} (hE : EvF a b a' b') (h : MonI a b D put) : MonI a' b' D put := by
  obtain ⟨sh, g, -, -, -, -, ca, cb, hA, hA'⟩ := hE
  exact MonI_fr hA.1 hA'.1 h ca cb (PM_c ca cb (by decide) (by decide)) (by decide) (by decide)
theorem MonI_pay {a a' b b' : TS} {D cd sh : Nat} {m pin : Int32} {put : Nat → Int64} (hR : R0 a b) (hR' : R0 a' b') (hE : PayP a b a' b' cd sh m pin) (h : MonI a b D put) : MonI a' b' D put := by
  obtain ⟨c, -, -, z29, v87, -, -, -, -, ca, cb, -⟩ := hE
  have hPM : PM a a' b b' := ⟨by omega, Nat.le_of_eq (dZ ca (S := [28]) (P := []) (s := 28) (by decide) (by simp) 0).symm, Nat.le_of_eq (dZ ca (S := [27]) (P := []) (s := 27) (by decide) (by simp) 0).symm, fun p hp => ⟨v87 _ (by omega), v87 _ (by omega), v87 _ (by omega), v87 _ (by omega)⟩⟩
  exact MonI_fr hR hR' h ca cb hPM (by decide) (by decide)
theorem MonI_any {a a' b b' : TS} {D : Nat} {put : Nat → Int64} {Da Db : List Nat} {Fa Fb : List (Nat × Nat)} (hR : R0 a b) (hR' : R0 a' b') (h : MonI a b D put) (ca : chF Da Fa a a') (cb : chF Db Fb b b') (hd : dpk Da [] [26, 27, 28, 29, 37] [] = true) (hd' : dpk Db Fb [43, 44, 45, 46, 53, 61, 64, 87] [(97, 6), (94, 12), (91, 7), (91, 8)] = true) : MonI a' b' D put :=
  MonI_fr hR hR' h ca cb (PM_c ca cb (dpk_sub hd (by decide) (by simp)) (dpk_sub hd' (by decide) (by simp))) (dpk_sub hd (by decide) (by simp)) (dpk_sub hd' (by decide) (by decide))
theorem MonI_dispute {a a' b b' : TS} {D p : Nat} {put : Nat → Int64} (hR : R0 a b) (hR' : R0 a' b') (h : MonI a b D put) (hp : p < tZ a 29 0) (hd : dsC b p) (ca : chF [4] [(35, 0), (36, 12)] a a') (cb : chF [43, 46, 61] [] b b') (hP : DspP b b' p) : MonI a' b' D put := by
  have hP200 := (r_P' hR).1
  have hs := StaP_c hR hR' ca cb (PM_c ca cb (by decide) (by decide)) (by decide)
  exact MonI_dsp hR h ⟨hs, dZ ca (S := [29]) (P := []) (s := 29) (by decide) (by simp) 0, dI cb (S := []) (P := [(97, 6)]) (s := 97) (k := 6) (by decide) (by simp) 0, ⟨dL cb (S := []) (P := [(91, 8)]) (s := 91) (k := 8) (by decide) (by simp) 0, dL cb (S := []) (P := [(91, 7)]) (s := 91) (k := 7) (by decide) (by simp) 0⟩, dLS cb (S := [45]) (P := []) (s := 45) (by decide) (by simp) 0⟩ (by omega) hd.1 hP (dLS cb (S := [44]) (P := []) (s := 44) (by decide) (by simp) 0) (dI cb (S := []) (P := [(94, 12)]) (s := 94) (k := 12) (by decide) (by simp) 0)
/-- only a changes, and not how many there are -/
theorem MonI_a {a a' b : TS} {D : Nat} {put : Nat → Int64} (h : MonI a b D put) (z : tZ a' 26 0 = tZ a 26 0 ∧ tZ a' 27 0 = tZ a 27 0 ∧ tZ a' 29 0 = tZ a 29 0) : MonI a' b D put := by
  unfold MonI MaA MaE MaG at *
  rw [z.1, z.2.1, z.2.2]
  exact h
theorem MonI_settles {a a' b b' : TS} {D : Nat} {put : Nat → Int64} (hE : StpE EvE a b a' b') (hf : FeeI b) (h : MonI a b D put) : MonI a' b' D put :=
  (hE (fun x y => MonI x y D put ∧ FeeI y) (fun x y x' y' e h => ⟨MonI_settle h.1 h.2 e, by
    obtain ⟨s, -, -, cb, -⟩ := e
    unfold FeeI
    rw [dI cb (S := []) (P := [(97, 7)]) (s := 97) (k := 7) (by decide) (by simp) 0]
    exact h.2⟩) ⟨h, hf⟩).1
theorem MonI_day {a a1 b b1 : TS} {D : Nat} {put : Nat → Int64} (h : MonI a b D put) (hf : FeeI b) (hE : StpE EvE a b a1 b1) (v : Int32) :
    MonI (sI a1 25 0 1 v) (sI (sI b1 97 0 6 (Int32.ofNat (D + 1))) 94 0 11 v) (D + 1) put := by
  have h1 := MonI_settles hE hf h
  obtain ⟨m1, m2, ⟨-, m3'⟩, m4, m5, m6, m7⟩ := h1
  refine ⟨m1, fun n hn => ⟨(m2 n hn).1, fun h8 => ?_⟩, ⟨?_, m3'⟩, m4, m5, m6, m7⟩
  · obtain ⟨⟨d, d1, d2⟩, w⟩ := (m2 n hn).2 h8
    exact ⟨⟨d, d1, by omega⟩, w⟩
  · rw [tI_sI, if_neg (by decide), tI_sI, if_pos ⟨rfl, rfl, rfl⟩]
theorem MonI_open {a a' b b' : TS} {D : Nat} {put : Nat → Int64} (hR' : R0 a' b') (h : MonI a b D put) {a1 a2 b2 : TS} (c1 : chF [] [(31, 2)] a a1) (hE : StpE EvN a1 b a2 b2) (c2 : chF [15] [] a2 a') (c3 : chF [73] [(95, 4), (95, 5)] b2 b') : MonI a' b' D put := by
  have h1 : MonI a1 b D put := MonI_a h ⟨dZ c1 (S := [26]) (P := []) (s := 26) (by decide) (by simp) 0, dZ c1 (S := [27]) (P := []) (s := 27) (by decide) (by simp) 0, dZ c1 (S := [29]) (P := []) (s := 29) (by decide) (by simp) 0⟩
  have h2 := hE (fun x y => MonI x y D put) (fun _ _ _ _ e h => MonI_N e h) h1
  exact MonI_b (MonI_a h2 ⟨dZ c2 (S := [26]) (P := []) (s := 26) (by decide) (by simp) 0, dZ c2 (S := [27]) (P := []) (s := 27) (by decide) (by simp) 0, dZ c2 (S := [29]) (P := []) (s := 29) (by decide) (by simp) 0⟩) c3 (by decide)
/-- at the start -/
def MBl (a b : TS) : Prop := (∀ n f, n < 1000 → hI b n f = if f = 15 then -1 else 0) ∧ (tI b 97 0 6 = 0 ∧ tI b 94 0 12 = 0) ∧ (∀ t, tL b 44 0 t = 0) ∧ (tL b 91 0 7 = 0 ∧ ∀ s, tL b 45 0 s = 0 ∧ tL b 46 0 s = 0) ∧ S64 (fun u => tL b 43 0 u) (tZ a 26 0) = tL b 91 0 8
theorem S_0 {f : Nat → Int} : ∀ n, (∀ k, k < n → f k = 0) → SI f n = 0
  | 0, _ => rfl
  | n + 1, h => by
    show SI f n + f n = 0
    rw [S_0 n (fun k hk => h k (by omega)), h n (by omega)]
    rfl
theorem MonI_blank {a b : TS} (h : MBl a b) : MonI a b 0 (fun u => tL b 43 0 u) := by
  obtain ⟨h1, ⟨h2, h3⟩, h4, ⟨h5, h6⟩, h7⟩ := h
  have k8 : ∀ n, n < 1000 → hI b n 8 = 0 := fun n hn => by rw [h1 n 8 hn]; rfl
  have k12 : ∀ n, n < 1000 → hI b n 12 = 0 := fun n hn => by rw [h1 n 12 hn]; rfl
  have k16 : ∀ n, n < 1000 → hI b n 16 = 0 := fun n hn => by rw [h1 n 16 hn]; rfl
  have e1 : SI (pmI b) 1000 = 0 := S_0 _ (fun n hn => by unfold pmI; rw [if_neg (fun q => q (k8 n hn))])
  have e2 : SI (lmI b) 1000 = 0 := S_0 _ (fun n hn => by unfold lmI; rw [k16 n hn]; rfl)
  have z : (0 : Int64).toInt = 0 := rfl
  have e3 : SI (shU b) (tZ a 27 0) = 0 := S_0 _ (fun n _ => by unfold shU psI; rw [(h6 n).1, (h6 n).2, z]; rfl)
  have e4 : SI (shD b) (tZ a 27 0) = 0 := S_0 _ (fun n _ => by unfold shD psI; rw [(h6 n).2, z]; rfl)
  refine ⟨fun n hn q => absurd (k12 n hn) q, fun n hn => ⟨fun _ => ⟨?_, k16 n hn⟩, fun q => absurd (k8 n hn) q⟩, ⟨h2, ?_⟩, fun t _ => ?_, ?_, fun t _ => ?_, ?_, fun s _ => ?_, ?_, ?_⟩
  · rw [h1 n 15 hn]; rfl
  · have : pcN b 1000 = 0 := List.countP_eq_zero.mpr (fun n hn => by simpa using k8 n (List.mem_range.mp hn))
    rw [h3, this]; rfl
  · rw [h4]; exact S64_0 _ (fun n hn => ctH_old (k12 n hn))
  · unfold MaE
    rw [h5, h7, S64_0 _ (fun n _ => by rw [(h6 n).1, (h6 n).2]; rfl)]
    grind
  · rw [S64_0 1000 (f := ctL b t) (fun n hn => by unfold ctL; rw [k16 n hn]; split <;> rfl)]
    grind
  · rw [h5, z]; exact Int.le_refl _
  · rw [(h6 s).1, z]; exact Int.le_refl _
  · rw [h5, e3, e1, z]; exact Int.le_refl _
  · rw [e4, e2, e1]; exact Int.le_refl _
