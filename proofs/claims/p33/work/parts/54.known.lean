/-! ===== names for the fixed pointers ===== -/
theorem fcN_3 {m : TS} (h : FxC m) : 0 < tN m 3 := fc0 h
theorem fcN_13 {m : TS} (h : FxC m) : 0 < tN m 13 := fc1 h
theorem fcN_14 {m : TS} (h : FxC m) : 0 < tN m 14 := fc2 h
theorem fcN_15 {m : TS} (h : FxC m) : 0 < tN m 15 := fc3 h
theorem fcN_24 {m : TS} (h : FxC m) : 0 < tN m 24 := fc4 h
theorem fcN_25 {m : TS} (h : FxC m) : 0 < tN m 25 := fc5 h
theorem fcN_26 {m : TS} (h : FxC m) : 0 < tN m 26 := fc6 h
theorem fcN_27 {m : TS} (h : FxC m) : 0 < tN m 27 := fc7 h
theorem fcN_28 {m : TS} (h : FxC m) : 0 < tN m 28 := fc8 h
theorem fcN_29 {m : TS} (h : FxC m) : 0 < tN m 29 := fc9 h
theorem fcN_30 {m : TS} (h : FxC m) : 0 < tN m 30 := fc10 h
theorem fcN_31 {m : TS} (h : FxC m) : 0 < tN m 31 := fc11 h
theorem fcN_96 {m : TS} (h : FxC m) : 0 < tN m 96 := fc12 h
theorem fcR_96_0 {m : TS} (h : FxC m) : tR m 96 0 0 = some (24, 0) := fc13 h
theorem fcR_96_1 {m : TS} (h : FxC m) : tR m 96 0 1 = some (25, 0) := fc14 h
theorem fcR_96_2 {m : TS} (h : FxC m) : tR m 96 0 2 = some (26, 0) := fc15 h
theorem fcR_96_3 {m : TS} (h : FxC m) : tR m 96 0 3 = some (27, 0) := fc16 h
theorem fcR_96_4 {m : TS} (h : FxC m) : tR m 96 0 4 = some (28, 0) := fc17 h
theorem fcR_96_5 {m : TS} (h : FxC m) : tR m 96 0 5 = some (29, 0) := fc18 h
theorem fcR_96_6 {m : TS} (h : FxC m) : tR m 96 0 6 = some (30, 0) := fc19 h
theorem fcR_96_7 {m : TS} (h : FxC m) : tR m 96 0 7 = some (31, 0) := fc20 h
theorem fcR_24_0 {m : TS} (h : FxC m) : tR m 24 0 0 = some (13, 0) := fc21 h
theorem fcR_24_3 {m : TS} (h : FxC m) : tR m 24 0 3 = some (14, 0) := fc22 h
theorem fcZ_14 {m : TS} (h : FxC m) : tZ m 14 0 = 4 := fc23 h
theorem fcR_30_0 {m : TS} (h : FxC m) : tR m 30 0 0 = some (28, 0) := fc24 h
theorem fcR_30_1 {m : TS} (h : FxC m) : tR m 30 0 1 = some (25, 0) := fc25 h
theorem fcR_30_2 {m : TS} (h : FxC m) : tR m 30 0 2 = some (3, 0) := fc26 h
theorem fcZ_3 {m : TS} (h : FxC m) : tZ m 3 0 = 1000 := fc27 h
theorem fcR_31_0 {m : TS} (h : FxC m) : tR m 31 0 0 = some (15, 0) := fc28 h
theorem frN_43 {m : TS} (h : FxR m) : 0 < tN m 43 := fr0 h
theorem frN_44 {m : TS} (h : FxR m) : 0 < tN m 44 := fr1 h
theorem frN_45 {m : TS} (h : FxR m) : 0 < tN m 45 := fr2 h
theorem frN_46 {m : TS} (h : FxR m) : 0 < tN m 46 := fr3 h
theorem frN_47 {m : TS} (h : FxR m) : 0 < tN m 47 := fr4 h
theorem frN_53 {m : TS} (h : FxR m) : 0 < tN m 53 := fr5 h
theorem frN_54 {m : TS} (h : FxR m) : 0 < tN m 54 := fr6 h
theorem frN_55 {m : TS} (h : FxR m) : 0 < tN m 55 := fr7 h
theorem frN_56 {m : TS} (h : FxR m) : 0 < tN m 56 := fr8 h
theorem frN_57 {m : TS} (h : FxR m) : 0 < tN m 57 := fr9 h
theorem frN_58 {m : TS} (h : FxR m) : 0 < tN m 58 := fr10 h
theorem frN_59 {m : TS} (h : FxR m) : 0 < tN m 59 := fr11 h
theorem frN_65 {m : TS} (h : FxR m) : 0 < tN m 65 := fr12 h
theorem frN_66 {m : TS} (h : FxR m) : 0 < tN m 66 := fr13 h
theorem frN_67 {m : TS} (h : FxR m) : 0 < tN m 67 := fr14 h
theorem frN_68 {m : TS} (h : FxR m) : 0 < tN m 68 := fr15 h
theorem frN_69 {m : TS} (h : FxR m) : 0 < tN m 69 := fr16 h
theorem frN_70 {m : TS} (h : FxR m) : 0 < tN m 70 := fr17 h
theorem frN_71 {m : TS} (h : FxR m) : 0 < tN m 71 := fr18 h
theorem frN_72 {m : TS} (h : FxR m) : 0 < tN m 72 := fr19 h
theorem frN_73 {m : TS} (h : FxR m) : 0 < tN m 73 := fr20 h
theorem frN_82 {m : TS} (h : FxR m) : 0 < tN m 82 := fr21 h
theorem frN_83 {m : TS} (h : FxR m) : 0 < tN m 83 := fr22 h
theorem frN_84 {m : TS} (h : FxR m) : 0 < tN m 84 := fr23 h
theorem frN_85 {m : TS} (h : FxR m) : 0 < tN m 85 := fr24 h
theorem frN_86 {m : TS} (h : FxR m) : 0 < tN m 86 := fr25 h
theorem frN_87 {m : TS} (h : FxR m) : 0 < tN m 87 := fr26 h
theorem frN_88 {m : TS} (h : FxR m) : 0 < tN m 88 := fr27 h
theorem frN_89 {m : TS} (h : FxR m) : 0 < tN m 89 := fr28 h
theorem frN_90 {m : TS} (h : FxR m) : 0 < tN m 90 := fr29 h
theorem frN_91 {m : TS} (h : FxR m) : 0 < tN m 91 := fr30 h
theorem frN_92 {m : TS} (h : FxR m) : 0 < tN m 92 := fr31 h
theorem frN_93 {m : TS} (h : FxR m) : 0 < tN m 93 := fr32 h
theorem frN_94 {m : TS} (h : FxR m) : 0 < tN m 94 := fr33 h
theorem frN_95 {m : TS} (h : FxR m) : 0 < tN m 95 := fr34 h
theorem frN_96 {m : TS} (h : FxR m) : 0 < tN m 96 := fr35 h
theorem frN_97 {m : TS} (h : FxR m) : 0 < tN m 97 := fr36 h
theorem frR_97_0 {m : TS} (h : FxR m) : tR m 97 0 0 = some (91, 0) := fr38 h
theorem frR_97_1 {m : TS} (h : FxR m) : tR m 97 0 1 = some (92, 0) := fr39 h
theorem frR_97_2 {m : TS} (h : FxR m) : tR m 97 0 2 = some (93, 0) := fr40 h
theorem frR_97_3 {m : TS} (h : FxR m) : tR m 97 0 3 = some (94, 0) := fr41 h
theorem frR_97_4 {m : TS} (h : FxR m) : tR m 97 0 4 = some (95, 0) := fr42 h
theorem frR_91_0 {m : TS} (h : FxR m) : tR m 91 0 0 = some (43, 0) := fr43 h
theorem frR_91_1 {m : TS} (h : FxR m) : tR m 91 0 1 = some (44, 0) := fr44 h
theorem frR_91_2 {m : TS} (h : FxR m) : tR m 91 0 2 = some (45, 0) := fr45 h
theorem frR_91_3 {m : TS} (h : FxR m) : tR m 91 0 3 = some (46, 0) := fr46 h
theorem frR_91_4 {m : TS} (h : FxR m) : tR m 91 0 4 = some (47, 0) := fr47 h
theorem frZ_43 {m : TS} (h : FxR m) : tZ m 43 0 = 8 := fr48 h
theorem frZ_44 {m : TS} (h : FxR m) : tZ m 44 0 = 8 := fr49 h
theorem frZ_45 {m : TS} (h : FxR m) : tZ m 45 0 = 4 := fr50 h
theorem frZ_46 {m : TS} (h : FxR m) : tZ m 46 0 = 4 := fr51 h
theorem frZ_47 {m : TS} (h : FxR m) : tZ m 47 0 = 8 := fr52 h
theorem frZ_53 {m : TS} (h : FxR m) : tZ m 53 0 = 1000 := fr53 h
theorem frZ_54 {m : TS} (h : FxR m) : tZ m 54 0 = 200 := fr54 h
theorem frZ_55 {m : TS} (h : FxR m) : tZ m 55 0 = 200 := fr55 h
theorem frZ_56 {m : TS} (h : FxR m) : tZ m 56 0 = 200 := fr56 h
theorem frZ_57 {m : TS} (h : FxR m) : tZ m 57 0 = 8 := fr57 h
theorem frZ_58 {m : TS} (h : FxR m) : tZ m 58 0 = 8 := fr58 h
theorem frZ_59 {m : TS} (h : FxR m) : tZ m 59 0 = 4 := fr59 h
theorem frZ_65 {m : TS} (h : FxR m) : tZ m 65 0 = 8 := fr60 h
theorem frZ_66 {m : TS} (h : FxR m) : tZ m 66 0 = 2000 := fr61 h
theorem frZ_67 {m : TS} (h : FxR m) : tZ m 67 0 = 2000 := fr62 h
theorem frZ_68 {m : TS} (h : FxR m) : tZ m 68 0 = 4 := fr63 h
theorem frZ_69 {m : TS} (h : FxR m) : tZ m 69 0 = 4 := fr64 h
theorem frZ_70 {m : TS} (h : FxR m) : tZ m 70 0 = 200 := fr65 h
theorem frZ_71 {m : TS} (h : FxR m) : tZ m 71 0 = 200 := fr66 h
theorem frZ_72 {m : TS} (h : FxR m) : tZ m 72 0 = 200 := fr67 h
theorem frZ_73 {m : TS} (h : FxR m) : tZ m 73 0 = 8 := fr68 h
theorem frZ_82 {m : TS} (h : FxR m) : tZ m 82 0 = 16 := fr69 h
theorem frZ_83 {m : TS} (h : FxR m) : tZ m 83 0 = 16 := fr70 h
theorem frZ_84 {m : TS} (h : FxR m) : tZ m 84 0 = 600 := fr71 h
theorem frZ_85 {m : TS} (h : FxR m) : tZ m 85 0 = 800 := fr72 h
theorem frZ_86 {m : TS} (h : FxR m) : tZ m 86 0 = 80 := fr73 h
theorem frZ_87 {m : TS} (h : FxR m) : tZ m 87 0 = 2000 := fr74 h
theorem frZ_88 {m : TS} (h : FxR m) : tZ m 88 0 = 4 := fr75 h
theorem frZ_89 {m : TS} (h : FxR m) : tZ m 89 0 = 4 := fr76 h
theorem frZ_90 {m : TS} (h : FxR m) : tZ m 90 0 = 4 := fr77 h
theorem frR_93_0 {m : TS} (h : FxR m) : tR m 93 0 0 = some (91, 0) := fr78 h
theorem frR_93_1 {m : TS} (h : FxR m) : tR m 93 0 1 = some (86, 0) := fr79 h
theorem frR_93_2 {m : TS} (h : FxR m) : tR m 93 0 2 = some (87, 0) := fr80 h
theorem frR_93_3 {m : TS} (h : FxR m) : tR m 93 0 3 = some (88, 0) := fr81 h
theorem frR_93_4 {m : TS} (h : FxR m) : tR m 93 0 4 = some (89, 0) := fr82 h
theorem frR_93_5 {m : TS} (h : FxR m) : tR m 93 0 5 = some (90, 0) := fr83 h
theorem frR_93_11 {m : TS} (h : FxR m) : tR m 93 0 11 = some (95, 0) := fr84 h
theorem frR_94_0 {m : TS} (h : FxR m) : tR m 94 0 0 = some (93, 0) := fr85 h
theorem frR_94_1 {m : TS} (h : FxR m) : tR m 94 0 1 = some (91, 0) := fr86 h
theorem frR_94_2 {m : TS} (h : FxR m) : tR m 94 0 2 = some (53, 0) := fr87 h
theorem frR_94_3 {m : TS} (h : FxR m) : tR m 94 0 3 = some (54, 0) := fr88 h
theorem frR_94_4 {m : TS} (h : FxR m) : tR m 94 0 4 = some (55, 0) := fr89 h
theorem frR_94_5 {m : TS} (h : FxR m) : tR m 94 0 5 = some (56, 0) := fr90 h
theorem frR_94_7 {m : TS} (h : FxR m) : tR m 94 0 7 = some (57, 0) := fr91 h
theorem frR_94_8 {m : TS} (h : FxR m) : tR m 94 0 8 = some (58, 0) := fr92 h
theorem frR_94_9 {m : TS} (h : FxR m) : tR m 94 0 9 = some (59, 0) := fr93 h
theorem frR_95_7 {m : TS} (h : FxR m) : tR m 95 0 7 = some (93, 0) := fr94 h
theorem frR_95_8 {m : TS} (h : FxR m) : tR m 95 0 8 = some (94, 0) := fr95 h
theorem frR_95_10 {m : TS} (h : FxR m) : tR m 95 0 10 = some (65, 0) := fr96 h
theorem frR_95_11 {m : TS} (h : FxR m) : tR m 95 0 11 = some (66, 0) := fr97 h
theorem frR_95_12 {m : TS} (h : FxR m) : tR m 95 0 12 = some (67, 0) := fr98 h
theorem frR_95_13 {m : TS} (h : FxR m) : tR m 95 0 13 = some (68, 0) := fr99 h
theorem frR_95_14 {m : TS} (h : FxR m) : tR m 95 0 14 = some (69, 0) := fr100 h
theorem frR_95_15 {m : TS} (h : FxR m) : tR m 95 0 15 = some (70, 0) := fr101 h
theorem frR_95_16 {m : TS} (h : FxR m) : tR m 95 0 16 = some (71, 0) := fr102 h
theorem frR_95_17 {m : TS} (h : FxR m) : tR m 95 0 17 = some (72, 0) := fr103 h
theorem frR_95_18 {m : TS} (h : FxR m) : tR m 95 0 18 = some (73, 0) := fr104 h
theorem frR_92_0 {m : TS} (h : FxR m) : tR m 92 0 0 = some (82, 0) := fr105 h
theorem frR_92_1 {m : TS} (h : FxR m) : tR m 92 0 1 = some (83, 0) := fr106 h
theorem frR_92_2 {m : TS} (h : FxR m) : tR m 92 0 2 = some (84, 0) := fr107 h
theorem frR_92_9 {m : TS} (h : FxR m) : tR m 92 0 9 = some (85, 0) := fr108 h
/-! ===== numbers: what is known of them, made when first asked for ===== -/
/-- the class's view of a number: its ints, its references -/
def kI (a : TS) (n f : Nat) : Int32 := match tR a 3 0 n with | some q => tI a 4 q.2 f | none => if f = 12 then -1 else 0
def kR (a : TS) (n f : Nat) : Option (Nat × Nat) := match tR a 3 0 n with | some q => tR a 4 q.2 f | none => none
/-- the reference's: its ints, its rows -/
def hI (b : TS) (n f : Nat) : Int32 := match tR b 53 0 n with | some q => tI b 61 q.2 f | none => if f = 15 then -1 else 0
def hA (b : TS) (n t f : Nat) : Int32 := match tR b 53 0 n with | some q => tI b t q.2 f | none => if f = 0 then -1 else 0
def KsA (a : TS) : Prop := (∀ n, n < 1000 → tR a 3 0 n = none ∨ ∃ j, j < tN a 4 ∧ tR a 3 0 n = some (4, j)) ∧ (∀ n n', n < 1000 → n' < 1000 → tR a 3 0 n = tR a 3 0 n' → tR a 3 0 n ≠ none → n = n') ∧ (∀ j, j < tN a 4 → ∃ n, n < 1000 ∧ tR a 3 0 n = some (4, j))
def KsB (b : TS) : Prop := (∀ n, n < 1000 → tR b 53 0 n = none ∨ ∃ j, j < tN b 61 ∧ tR b 53 0 n = some (61, j)) ∧ (∀ n n', n < 1000 → n' < 1000 → tR b 53 0 n = tR b 53 0 n' → tR b 53 0 n ≠ none → n = n') ∧ (tN b 62 = tN b 61 ∧ tN b 63 = tN b 61 ∧ tN b 64 = tN b 61) ∧ (∀ j, j < tN b 61 → tR b 61 j 4 = some (62, j) ∧ tR b 61 j 5 = some (63, j) ∧ tR b 61 j 6 = some (64, j) ∧ tZ b 62 j = 3 ∧ tZ b 63 j = 3 ∧ tZ b 64 j = 3) ∧ (∀ j, j < tN b 61 → ∃ n, n < 1000 ∧ tR b 53 0 n = some (61, j))
theorem kI_at {a : TS} {n j f : Nat} (h : tR a 3 0 n = some (4, j)) : kI a n f = tI a 4 j f := by unfold kI; rw [h]
theorem kR_at {a : TS} {n j f : Nat} (h : tR a 3 0 n = some (4, j)) : kR a n f = tR a 4 j f := by unfold kR; rw [h]
theorem hI_at {b : TS} {n j f : Nat} (h : tR b 53 0 n = some (61, j)) : hI b n f = tI b 61 j f := by unfold hI; rw [h]
theorem hA_at {b : TS} {n j t f : Nat} (h : tR b 53 0 n = some (61, j)) : hA b n t f = tI b t j f := by unfold hA; rw [h]
theorem ksA_ne {a : TS} (hK : KsA a) {n n' j : Nat} (hn : n < 1000) (hn' : n' < 1000) (h : tR a 3 0 n = some (4, j)) (e : n' ≠ n) {q : Nat × Nat} (hq : tR a 3 0 n' = some q) : q.2 ≠ j := fun e2 => by
  rcases hK.1 n' hn' with h1 | ⟨j', h1, h2⟩
  · rw [h1] at hq; cases hq
  · rw [h2] at hq
    have hq := Option.some.inj hq
    subst hq
    dsimp only at e2
    subst e2
    exact e (hK.2.1 n' n hn' hn (by rw [h2, h]) (by rw [h2]; exact fun z => nomatch z))
theorem ksB_ne {b : TS} (hK : KsB b) {n n' j : Nat} (hn : n < 1000) (hn' : n' < 1000) (h : tR b 53 0 n = some (61, j)) (e : n' ≠ n) {q : Nat × Nat} (hq : tR b 53 0 n' = some q) : q.2 ≠ j := fun e2 => by
  rcases hK.1 n' hn' with h1 | ⟨j', h1, h2⟩
  · rw [h1] at hq; cases hq
  · rw [h2] at hq
    have hq := Option.some.inj hq
    subst hq
    dsimp only at e2
    subst e2
    exact e (hK.2.1 n' n hn' hn (by rw [h2, h]) (by rw [h2]; exact fun z => nomatch z))
/-! the views behind writes -/
theorem kI_sI {a : TS} {n j : Nat} (hK : KsA a) (hn : n < 1000) (h : tR a 3 0 n = some (4, j)) (f : Nat) (v : Int32) {n' : Nat} (hn' : n' < 1000) (f' : Nat) : kI (sI a 4 j f v) n' f' = if n' = n ∧ f' = f then v else kI a n' f' := by
  by_cases e : n' = n
  · subst e
    rw [kI_at (a := sI a 4 j f v) h, kI_at h, tI_sI]
    by_cases e2 : f' = f
    · rw [if_pos ⟨rfl, rfl, e2⟩, if_pos ⟨rfl, e2⟩]
    · rw [if_neg (fun q => e2 q.2.2), if_neg (fun q => e2 q.2)]
  · rw [if_neg (fun q => e q.1)]
    unfold kI
    rw [tR_sI]
    split
    · rename_i q hq
      rw [tI_sI, if_neg (fun z => ksA_ne hK hn hn' h e hq z.2.1)]
    · rfl
theorem kR_sR {a : TS} {n j : Nat} (hK : KsA a) (hn : n < 1000) (h : tR a 3 0 n = some (4, j)) (f : Nat) (v : Option (Nat × Nat)) {n' : Nat} (hn' : n' < 1000) (f' : Nat) : kR (sR a 4 j f v) n' f' = if n' = n ∧ f' = f then v else kR a n' f' := by
  have e0 : ∀ k, tR (sR a 4 j f v) 3 0 k = tR a 3 0 k := fun k => by rw [tR_sR, if_neg (fun q => absurd q.1 (by decide))]
  by_cases e : n' = n
  · subst e
    rw [kR_at (a := sR a 4 j f v) (by rw [e0]; exact h), kR_at h, tR_sR]
    by_cases e2 : f' = f
    · rw [if_pos ⟨rfl, rfl, e2⟩, if_pos ⟨rfl, e2⟩]
    · rw [if_neg (fun q => e2 q.2.2), if_neg (fun q => e2 q.2)]
  · rw [if_neg (fun q => e q.1)]
    unfold kR
    rw [e0]
    split
    · rename_i q hq
      rw [tR_sR, if_neg (fun z => ksA_ne hK hn hn' h e hq z.2.1)]
    · rfl
theorem kI_sR {a : TS} {j f : Nat} {v : Option (Nat × Nat)} (n' f' : Nat) : kI (sR a 4 j f v) n' f' = kI a n' f' := by
  unfold kI
  rw [tR_sR, if_neg (fun q => absurd q.1 (by decide))]
  rfl
theorem kR_sI {a : TS} {j f : Nat} {v : Int32} (n' f' : Nat) : kR (sI a 4 j f v) n' f' = kR a n' f' := rfl
theorem KsA_sI {a : TS} {s i k : Nat} {v : Int32} (h : KsA a) : KsA (sI a s i k v) := h
theorem KsA_sL {a : TS} {s i k : Nat} {v : Int64} (h : KsA a) : KsA (sL a s i k v) := h
theorem KsA_sR {a : TS} {j f : Nat} {v : Option (Nat × Nat)} (h : KsA a) : KsA (sR a 4 j f v) := by
  have e0 : ∀ k, tR (sR a 4 j f v) 3 0 k = tR a 3 0 k := fun k => by rw [tR_sR, if_neg (fun q => absurd q.1 (by decide))]
  obtain ⟨h1, h2, h3⟩ := h
  exact ⟨fun n hn => by rw [e0]; exact h1 n hn, fun n n' hn hn' => by rw [e0, e0]; exact h2 n n' hn hn', fun j hj => by
    obtain ⟨n, n1, n2⟩ := h3 j hj
    exact ⟨n, n1, by rw [e0]; exact n2⟩⟩
theorem hI_sI {b : TS} {n j : Nat} (hK : KsB b) (hn : n < 1000) (h : tR b 53 0 n = some (61, j)) (f : Nat) (v : Int32) {n' : Nat} (hn' : n' < 1000) (f' : Nat) : hI (sI b 61 j f v) n' f' = if n' = n ∧ f' = f then v else hI b n' f' := by
  by_cases e : n' = n
  · subst e
    rw [hI_at (b := sI b 61 j f v) h, hI_at h, tI_sI]
    by_cases e2 : f' = f
    · rw [if_pos ⟨rfl, rfl, e2⟩, if_pos ⟨rfl, e2⟩]
    · rw [if_neg (fun q => e2 q.2.2), if_neg (fun q => e2 q.2)]
  · rw [if_neg (fun q => e q.1)]
    unfold hI
    rw [tR_sI]
    split
    · rename_i q hq
      rw [tI_sI, if_neg (fun z => ksB_ne hK hn hn' h e hq z.2.1)]
    · rfl
theorem hA_sI {b : TS} {n j t : Nat} (hK : KsB b) (hn : n < 1000) (h : tR b 53 0 n = some (61, j)) (f : Nat) (v : Int32) {n' : Nat} (hn' : n' < 1000) (t' f' : Nat) : hA (sI b t j f v) n' t' f' = if n' = n ∧ t' = t ∧ f' = f then v else hA b n' t' f' := by
  by_cases e : n' = n
  · subst e
    rw [hA_at (b := sI b t j f v) h, hA_at h, tI_sI]
    by_cases e2 : t' = t ∧ f' = f
    · rw [if_pos ⟨e2.1, rfl, e2.2⟩, if_pos ⟨rfl, e2.1, e2.2⟩]
    · rw [if_neg (fun q => e2 ⟨q.1, q.2.2⟩), if_neg (fun q => e2 q.2)]
  · rw [if_neg (fun q => e q.1)]
    unfold hA
    rw [tR_sI]
    split
    · rename_i q hq
      rw [tI_sI, if_neg (fun z => ksB_ne hK hn hn' h e hq z.2.1)]
    · rfl
theorem hI_o {b : TS} {s i k : Nat} {v : Int32} (h : s ≠ 61) (n' f' : Nat) : hI (sI b s i k v) n' f' = hI b n' f' := by
  unfold hI
  rw [tR_sI]
  split
  · rw [tI_sI, if_neg (fun z => h z.1.symm)]
  · rfl
theorem hA_o {b : TS} {s i k : Nat} {v : Int32} (n' : Nat) {t' : Nat} (h : s ≠ t') (f' : Nat) : hA (sI b s i k v) n' t' f' = hA b n' t' f' := by
  unfold hA
  rw [tR_sI]
  split
  · rw [tI_sI, if_neg (fun z => h z.1.symm)]
  · rfl
theorem kI_o {a : TS} {s i k : Nat} {v : Int32} (h : s ≠ 4) (n' f' : Nat) : kI (sI a s i k v) n' f' = kI a n' f' := by
  unfold kI
  rw [tR_sI]
  split
  · rw [tI_sI, if_neg (fun z => h z.1.symm)]
  · rfl
/-! a number is looked up, or made -/
theorem x28 {a : TS} {z : Hp} {j : Nat} (hj : j < tN a 4) : Ex 28 [aR (some (4, j))] (enc 1 a z) = some (.inl none, enc 1 (sI (sI (sR (sR (sR (sI (sI (sI (sR (sI (sR (sR (sR a 4 j 0 none) 4 j 1 none) 4 j 2 none) 4 j 3 0) 4 j 4 none) 4 j 5 0) 4 j 6 0) 4 j 7 0) 4 j 8 none) 4 j 9 none) 4 j 10 none) 4 j 11 0) 4 j 12 (-1)) z) := by
  refine (X_in (by decide +kernel) (hj) rfl).trans ((lf_28_0 ..).trans ?_)
  simp (config := {decide := true}) only [gfI_enc, gfL_enc, gfR_enc, pfI_enc, pfL_enc, pfR_enc, Option.bind_some, cI_v, cL_v, cF_v, cD_v, cR_v, cV_v, cI_x, cL_x, cR_x, cV_x, gz_0, gz_1, acc_enc, tI_sI, tL_sI, tR_sI, tN_sI, tZ_sI, tC_sI, tc_sI, tz_sI, tI_sL, tL_sL, tR_sL, tN_sL, tZ_sL, tC_sL, tc_sL, tz_sL, tI_sR, tL_sR, tR_sR, tN_sR, tZ_sR, tC_sR, tc_sR, tz_sR, tI_sZ, tL_sZ, tR_sZ, tN_sZ, tZ_sZ, tC_sZ, tc_sZ, tz_sZ, tI_sC, tL_sC, tR_sC, tN_sC, tZ_sC, tC_sC, tc_sC, tz_sC, tI_aC, tL_aC, tR_aC, tN_aC, tZ_aC, tC_aC, tc_aC, tz_aC, tI_rmL, tL_rmL, tR_rmL, tN_rmL, tZ_rmL, tC_rmL, tc_rmL, tz_rmL, tI_mk, tL_mk, tR_mk, tN_mk, tZ_mk, tC_mk, tc_mk, tz_mk, tI_pushL, tL_pushL, tR_pushL, tN_pushL, tZ_pushL, tC_pushL, tc_pushL, tz_pushL, tI_pushB, tL_pushB, tR_pushB, tN_pushB, tZ_pushB, tC_pushB, tc_pushB, tz_pushB, tI_cpL, tL_cpL, tR_cpL, tN_cpL, tZ_cpL, tC_cpL, tc_cpL, tz_cpL, eq_self, true_and, and_true, false_and, and_false, if_true, if_false, reduceIte, ite_true, ite_false, not_true_eq_false, not_false_eq_true, X420, hj]
theorem okV_s {w s t i : Nat} {m : TS} (h1 : ow t = w) (h2 : i < tN m t) (h3 : kd t < 24) (h4 : kd s = 1011 + kd t) : okV w m s (some (t, i)) := ⟨h1, h2, h3, h4⟩
/-- what a lookup leaves -/
def KnA (a a' : TS) (n j : Nat) : Prop := tR a' 3 0 n = some (4, j) ∧ j < tN a' 4 ∧ KsA a' ∧ (∀ n' f, n' < 1000 → kI a' n' f = kI a n' f) ∧ (∀ n' f, n' < 1000 → kR a' n' f = kR a n' f) ∧ chg [3, 4] a a' ∧ (∀ i, tZ a' 3 i = tZ a 3 i) ∧ tN a' 3 = tN a 3 ∧ tN a' 4 = tN a 4 + (if tR a 3 0 n = none then 1 else 0) ∧ Wr a a'
/-- a new number's cell -/
def newK (a : TS) : TS := sI (sI (sR (sR (sR (sI (sI (sI (sR (sI (sR (sR (sR (mk a 4 0 0 13) 4 (tN a 4) 0 none) 4 (tN a 4) 1 none) 4 (tN a 4) 2 none) 4 (tN a 4) 3 0) 4 (tN a 4) 4 none) 4 (tN a 4) 5 0) 4 (tN a 4) 6 0) 4 (tN a 4) 7 0) 4 (tN a 4) 8 none) 4 (tN a 4) 9 none) 4 (tN a 4) 10 none) 4 (tN a 4) 11 0) 4 (tN a 4) 12 (-1)
theorem newK_N (a : TS) (s : Nat) : tN (newK a) s = if s = 4 then tN a 4 + 1 else tN a s := rfl
theorem newK_Z (a : TS) (s i : Nat) (h : s ≠ 4) : tZ (newK a) s i = tZ a s i := by
  unfold newK
  simp only [tZ_sI, tZ_sR, tZ_mk, h, false_and, if_false]
theorem newK_I (a : TS) (s i k : Nat) (h : ¬ (s = 4 ∧ i = tN a 4)) : tI (newK a) s i k = tI a s i k := by
  have h' : ∀ p : Prop, ¬ (s = 4 ∧ i = tN a 4 ∧ p) := fun p q => h ⟨q.1, q.2.1⟩
  unfold newK
  simp only [tI_sI, tI_sR, tI_mk, h, h', if_false]
theorem newK_R (a : TS) (s i k : Nat) (h : ¬ (s = 4 ∧ i = tN a 4)) : tR (newK a) s i k = tR a s i k := by
  have h' : ∀ p : Prop, ¬ (s = 4 ∧ i = tN a 4 ∧ p) := fun p q => h ⟨q.1, q.2.1⟩
  unfold newK
  simp only [tR_sI, tR_sR, tR_mk, h, h', if_false]
theorem newK_I0 (a : TS) (f : Nat) : tI (newK a) 4 (tN a 4) f = if f = 12 then -1 else 0 := by
  unfold newK
  simp only [tI_sI, tI_sR, tI_mk, true_and, and_self, if_true]
  repeat' split
  all_goals first | rfl | (exfalso; omega)
theorem newK_R0 (a : TS) (f : Nat) : tR (newK a) 4 (tN a 4) f = none := by
  unfold newK
  simp only [tR_sI, tR_sR, tR_mk, true_and, and_self, if_true]
  repeat' split
  all_goals rfl
theorem newK_chg (a : TS) : chg [3, 4] a (newK a) := by
  unfold newK
  exact chg_sI (by simp) (chg_sI (by simp) (chg_sR (by simp) (chg_sR (by simp) (chg_sR (by simp) (chg_sI (by simp) (chg_sI (by simp) (chg_sI (by simp) (chg_sR (by simp) (chg_sI (by simp) (chg_sR (by simp) (chg_sR (by simp) (chg_sR (by simp) (chg_mk (by simp) (chg_r _ _))))))))))))))
theorem x28n {a : TS} {z : Hp} : Ex 28 [aR (some (4, tN a 4))] (enc 1 (mk a 4 0 0 13) z) = some (.inl none, enc 1 (newK a) z) := x28 (a := mk a 4 0 0 13) (by rw [tN_mk, if_pos rfl]; omega)
set_option maxHeartbeats 4000000 in
theorem x15 {a : TS} {n : Nat} (hF : FxC a) (hK : KsA a) (hn : n < 1000) : ∃ a' j, (∀ z, Ex 15 [aR (some (30, 0)), aI (Int32.ofNat n)] (enc 1 a z) = some (.inl (some (aR (some (4, j)))), enc 1 a' z)) ∧ KnA a a' n j := by
  have g1 : ¬ Int32.ofNat n < 0 := o_lt0 (by omega)
  have g2 : (Int32.ofNat n).toNatClampNeg = n := o_ix (by omega)
  have g3 : Int32.ofNat n < Int32.ofNat 1000 := by rw [o_lt (by omega) (by omega)]; exact hn
  rcases hK.1 n hn with h | ⟨j, h1, h2⟩
  · have e3 : ∀ k, tR (sR (newK a) 3 0 n (some (4, tN a 4))) 3 0 k = if k = n then some (4, tN a 4) else tR a 3 0 k := fun k => by
      rw [tR_sR, newK_R _ _ _ _ (fun q => absurd q.1 (by decide))]
      by_cases e : k = n
      · rw [if_pos ⟨rfl, rfl, e⟩, if_pos e]
      · rw [if_neg (fun q => e q.2.2), if_neg e]
    have e4 : ∀ s, tN (sR (newK a) 3 0 n (some (4, tN a 4))) s = if s = 4 then tN a 4 + 1 else tN a s := fun s => by rw [tN_sR, newK_N]
    have eI : ∀ s i f, ¬ (s = 4 ∧ i = tN a 4) → tI (sR (newK a) 3 0 n (some (4, tN a 4))) s i f = tI a s i f := fun s i f h => by rw [tI_sR, newK_I _ _ _ _ h]
    have eR : ∀ s i f, ¬ (s = 4 ∧ i = tN a 4) → s ≠ 3 → tR (sR (newK a) 3 0 n (some (4, tN a 4))) s i f = tR a s i f := fun s i f h h3 => by rw [tR_sR, if_neg (fun q => h3 q.1), newK_R _ _ _ _ h]
    have eI0 : ∀ f, tI (sR (newK a) 3 0 n (some (4, tN a 4))) 4 (tN a 4) f = if f = 12 then -1 else 0 := fun f => by rw [tI_sR, newK_I0]
    have eR0 : ∀ f, tR (sR (newK a) 3 0 n (some (4, tN a 4))) 4 (tN a 4) f = none := fun f => by rw [tR_sR, if_neg (fun q => absurd q.1 (by decide)), newK_R0]
    have eZ : ∀ s i, s ≠ 4 → tZ (sR (newK a) 3 0 n (some (4, tN a 4))) s i = tZ a s i := fun s i h => by rw [tZ_sR, newK_Z _ _ _ h]
    have eC : chg [3, 4] a (sR (newK a) 3 0 n (some (4, tN a 4))) := chg_sR (by simp) (newK_chg a)
    have ev : ∀ z, Ex 15 [aR (some (30, 0)), aI (Int32.ofNat n)] (enc 1 a z) = some (.inl (some (aR (some (4, tN a 4)))), enc 1 (sR (newK a) 3 0 n (some (4, tN a 4))) z) := fun z => by
      refine (X_in (by decide +kernel) (fcN_30 hF) rfl).trans ((lf_15_0 ..).trans ?_)
      simp (config := {decide := true}) only [gfI_enc, gfL_enc, gfR_enc, pfI_enc, pfL_enc, pfR_enc, Option.bind_some, cI_v, cL_v, cF_v, cD_v, cR_v, cV_v, cI_x, cL_x, cR_x, cV_x, gz_0, gz_1, acc_enc, tI_sI, tL_sI, tR_sI, tN_sI, tZ_sI, tC_sI, tc_sI, tz_sI, tI_sL, tL_sL, tR_sL, tN_sL, tZ_sL, tC_sL, tc_sL, tz_sL, tI_sR, tL_sR, tR_sR, tN_sR, tZ_sR, tC_sR, tc_sR, tz_sR, tI_sZ, tL_sZ, tR_sZ, tN_sZ, tZ_sZ, tC_sZ, tc_sZ, tz_sZ, tI_sC, tL_sC, tR_sC, tN_sC, tZ_sC, tC_sC, tc_sC, tz_sC, tI_aC, tL_aC, tR_aC, tN_aC, tZ_aC, tC_aC, tc_aC, tz_aC, tI_rmL, tL_rmL, tR_rmL, tN_rmL, tZ_rmL, tC_rmL, tc_rmL, tz_rmL, tI_mk, tL_mk, tR_mk, tN_mk, tZ_mk, tC_mk, tc_mk, tz_mk, tI_pushL, tL_pushL, tR_pushL, tN_pushL, tZ_pushL, tC_pushL, tc_pushL, tz_pushL, tI_pushB, tL_pushB, tR_pushB, tN_pushB, tZ_pushB, tC_pushB, tc_pushB, tz_pushB, tI_cpL, tL_cpL, tR_cpL, tN_cpL, tZ_cpL, tC_cpL, tc_cpL, tz_cpL, eq_self, true_and, and_true, false_and, and_false, if_true, if_false, reduceIte, ite_true, ite_false, not_true_eq_false, not_false_eq_true, fcN_30 hF, fcN_3 hF, fcR_30_2 hF, fcZ_3 hF, len_enc, gaR_enc, g1, g2, g3, hn, h]
      rw [nob_enc (by decide +kernel)]
      have hnF : nF 4 = 13 := rfl
      have v1 : okV 1 (newK a) 3 (some (4, tN a 4)) := okV_s (by decide +kernel) (by rw [newK_N, if_pos rfl]; omega) (by decide +kernel) (by decide +kernel)
      have k1 : 0 < tN (newK a) 30 := by rw [newK_N, if_neg (by decide)]; exact fcN_30 hF
      have k2 : 0 < tN (newK a) 3 := by rw [newK_N, if_neg (by decide)]; exact fcN_3 hF
      have k3 : tR (newK a) 30 0 2 = some (3, 0) := by rw [newK_R _ _ _ _ (fun q => absurd q.1 (by decide))]; exact fcR_30_2 hF
      have k4 : tZ (newK a) 3 0 = 1000 := by rw [newK_Z _ _ _ (by decide)]; exact fcZ_3 hF
      rw [hnF]
      dsimp only
      rw [x28n, cV_v]
      generalize newK a = mm at *
      simp (config := {decide := true}) only [gfI_enc, gfL_enc, gfR_enc, pfI_enc, pfL_enc, pfR_enc, Option.bind_some, cI_v, cL_v, cF_v, cD_v, cR_v, cV_v, cI_x, cL_x, cR_x, cV_x, gz_0, gz_1, acc_enc, tI_sI, tL_sI, tR_sI, tN_sI, tZ_sI, tC_sI, tc_sI, tz_sI, tI_sL, tL_sL, tR_sL, tN_sL, tZ_sL, tC_sL, tc_sL, tz_sL, tI_sR, tL_sR, tR_sR, tN_sR, tZ_sR, tC_sR, tc_sR, tz_sR, tI_sZ, tL_sZ, tR_sZ, tN_sZ, tZ_sZ, tC_sZ, tc_sZ, tz_sZ, tI_sC, tL_sC, tR_sC, tN_sC, tZ_sC, tC_sC, tc_sC, tz_sC, tI_aC, tL_aC, tR_aC, tN_aC, tZ_aC, tC_aC, tc_aC, tz_aC, tI_rmL, tL_rmL, tR_rmL, tN_rmL, tZ_rmL, tC_rmL, tc_rmL, tz_rmL, tI_mk, tL_mk, tR_mk, tN_mk, tZ_mk, tC_mk, tc_mk, tz_mk, tI_pushL, tL_pushL, tR_pushL, tN_pushL, tZ_pushL, tC_pushL, tc_pushL, tz_pushL, tI_pushB, tL_pushB, tR_pushB, tN_pushB, tZ_pushB, tC_pushB, tc_pushB, tz_pushB, tI_cpL, tL_cpL, tR_cpL, tN_cpL, tZ_cpL, tC_cpL, tc_cpL, tz_cpL, eq_self, true_and, and_true, false_and, and_false, if_true, if_false, reduceIte, ite_true, ite_false, not_true_eq_false, not_false_eq_true, k1, k2, k3, k4, paR_enc, gaR_enc, g1, g2, hn, v1]
    have hst : Wr a (sR (newK a) 3 0 n (some (4, tN a 4))) := by
      unfold newK
      repeat' first | apply Wr.cR | apply Wr.cI
      exact Wr.cM _ _ _ (by decide +kernel) (by decide) (Wr.rf _)
    generalize sR (newK a) 3 0 n (some (4, tN a 4)) = a' at *
    refine ⟨a', tN a 4, ev, by rw [e3, if_pos rfl], by rw [e4, if_pos rfl]; omega, ⟨fun n' hn' => ?_, fun n1 n2 h1 h2 he hz => ?_, fun j hj => ?_⟩, fun n' f hn' => ?_, fun n' f hn' => ?_, eC, fun i => eZ 3 i (by decide), by rw [e4, if_neg (by decide)], by rw [e4, if_pos rfl, if_pos h], hst⟩
    · rw [e3, e4, if_pos rfl]
      by_cases e : n' = n
      · rw [if_pos e]; exact Or.inr ⟨_, by omega, rfl⟩
      · rw [if_neg e]
        rcases hK.1 n' hn' with g | ⟨j, g1, g2⟩
        · exact Or.inl g
        · exact Or.inr ⟨j, by omega, g2⟩
    · have nn : ∀ k, k < 1000 → tR a 3 0 k ≠ some (4, tN a 4) := fun k hk e => by
        rcases hK.1 k hk with g | ⟨j, g1, g2⟩
        · rw [g] at e; cases e
        · rw [g2] at e
          have := (Prod.mk.inj (Option.some.inj e)).2
          omega
      rw [e3, e3] at he
      rw [e3] at hz
      by_cases e1 : n1 = n
      · by_cases e2 : n2 = n
        · omega
        · rw [if_pos e1, if_neg e2] at he
          exact absurd he.symm (nn n2 h2)
      · by_cases e2 : n2 = n
        · rw [if_neg e1, if_pos e2] at he
          exact absurd he (nn n1 h1)
        · rw [if_neg e1, if_neg e2] at he
          rw [if_neg e1] at hz
          exact hK.2.1 n1 n2 h1 h2 he hz
    · rw [e4, if_pos rfl] at hj
      by_cases e : j = tN a 4
      · exact ⟨n, hn, by rw [e3, if_pos rfl, e]⟩
      · obtain ⟨n', n1, n2⟩ := hK.2.2 j (by omega)
        refine ⟨n', n1, ?_⟩
        rw [e3, if_neg (fun q => by rw [q, h] at n2; cases n2)]
        exact n2
    · unfold kI
      rw [e3]
      by_cases e : n' = n
      · subst e
        rw [if_pos rfl, h]
        exact eI0 f
      · rw [if_neg e]
        rcases hK.1 n' hn' with g | ⟨j, g1, g2⟩
        · rw [g]
        · rw [g2]
          exact eI 4 j f (fun q => by omega)
    · unfold kR
      rw [e3]
      by_cases e : n' = n
      · subst e
        rw [if_pos rfl, h]
        exact eR0 f
      · rw [if_neg e]
        rcases hK.1 n' hn' with g | ⟨j, g1, g2⟩
        · rw [g]
        · rw [g2]
          exact eR 4 j f (fun q => by omega) (by decide)
  · refine ⟨a, j, fun z => ?_, h2, h1, hK, fun _ _ _ => rfl, fun _ _ _ => rfl, chg_r _ _, fun _ => rfl, rfl, by rw [h2, if_neg (fun z => nomatch z)]; rfl, Wr.rf _⟩
    refine (X_in (by decide +kernel) (fcN_30 hF) rfl).trans ((lf_15_0 ..).trans ?_)
    simp (config := {decide := true}) only [gfI_enc, gfL_enc, gfR_enc, pfI_enc, pfL_enc, pfR_enc, Option.bind_some, cI_v, cL_v, cF_v, cD_v, cR_v, cV_v, cI_x, cL_x, cR_x, cV_x, gz_0, gz_1, acc_enc, tI_sI, tL_sI, tR_sI, tN_sI, tZ_sI, tC_sI, tc_sI, tz_sI, tI_sL, tL_sL, tR_sL, tN_sL, tZ_sL, tC_sL, tc_sL, tz_sL, tI_sR, tL_sR, tR_sR, tN_sR, tZ_sR, tC_sR, tc_sR, tz_sR, tI_sZ, tL_sZ, tR_sZ, tN_sZ, tZ_sZ, tC_sZ, tc_sZ, tz_sZ, tI_sC, tL_sC, tR_sC, tN_sC, tZ_sC, tC_sC, tc_sC, tz_sC, tI_aC, tL_aC, tR_aC, tN_aC, tZ_aC, tC_aC, tc_aC, tz_aC, tI_rmL, tL_rmL, tR_rmL, tN_rmL, tZ_rmL, tC_rmL, tc_rmL, tz_rmL, tI_mk, tL_mk, tR_mk, tN_mk, tZ_mk, tC_mk, tc_mk, tz_mk, tI_pushL, tL_pushL, tR_pushL, tN_pushL, tZ_pushL, tC_pushL, tc_pushL, tz_pushL, tI_pushB, tL_pushB, tR_pushB, tN_pushB, tZ_pushB, tC_pushB, tc_pushB, tz_pushB, tI_cpL, tL_cpL, tR_cpL, tN_cpL, tZ_cpL, tC_cpL, tc_cpL, tz_cpL, eq_self, true_and, and_true, false_and, and_false, if_true, if_false, reduceIte, ite_true, ite_false, not_true_eq_false, not_false_eq_true, fcN_30 hF, fcN_3 hF, fcR_30_2 hF, fcZ_3 hF, len_enc, gaR_enc, g1, g2, g3, hn, h2, reduceCtorEq]
