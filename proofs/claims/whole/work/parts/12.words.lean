/-! ===== the links are words of the tables: each list is picked out of the tables in their order (gaps by program) ===== -/
/-- handlers as the class files have them -/
def rhT (m : Nat) : List (Nat × Nat × Nat × Nat) := match m with
  | 293 => [(0, 9, 12, 13), (0, 9, 16, 15)]
  | 294 => [(0, 8, 11, 13)]
  | 295 => [(0, 9, 12, 13), (0, 9, 15, 15)]
  | 296 => [(0, 10, 13, 13), (0, 10, 17, 15)]
  | 297 => [(0, 14, 17, 33), (0, 14, 21, 13), (0, 14, 25, 15)]
  | 298 => [(0, 12, 15, 13)]
  | 299 => [(0, 14, 17, 33), (0, 14, 21, 13)]
  | 300 => [(0, 9, 12, 33)]
  | 301 => [(0, 12, 15, 33), (0, 12, 19, 13), (0, 12, 23, 15)]
  | 302 => [(0, 12, 15, 33), (0, 12, 19, 13)]
  | 303 => [(0, 9, 12, 13), (0, 9, 15, 15)]
  | 304 => [(0, 14, 17, 33), (0, 14, 21, 13)]
  | 305 => [(0, 10, 13, 33), (0, 10, 17, 13)]
  | 306 => [(0, 16, 19, 33)]
  | 307 => [(0, 17, 20, 33)]
  | 308 => [(0, 9, 12, 33), (0, 9, 15, 15)]
  | 309 => [(0, 10, 13, 33), (0, 10, 17, 13)]
  | 310 => [(0, 10, 13, 33), (0, 10, 17, 13)]
  | 311 => [(0, 10, 13, 33), (0, 10, 17, 13)]
  | 312 => [(0, 9, 12, 33), (0, 9, 16, 13)]
  | 313 => [(0, 9, 12, 33), (0, 9, 16, 13)]
  | 314 => [(0, 9, 12, 13)]
  | 315 => [(0, 8, 11, 33)]
  | _ => []
/-- by gaps: leave out g, take one, and so on -/
def pickP : List Nat → List Cond → List Cond
  | [], _ => []
  | g :: gs, t => match t.drop g with
    | [] => []
    | w :: t => w :: pickP gs t
theorem pickP_in (gs : List Nat) : ∀ (t : List Cond) (w : Cond), w ∈ pickP gs t → w ∈ t := by
  induction gs with
  | nil => exact fun _ _ h => nomatch h
  | cons g gs ih =>
    intro t w h
    unfold pickP at h
    split at h
    · cases h
    · rename_i a b e
      have hm : ∀ x ∈ a :: b, x ∈ t := fun x hx => List.mem_of_mem_drop (i := g) (e ▸ hx)
      rcases List.mem_cons.mp h with z | z
      · exact hm _ (by rw [z]; exact List.mem_cons_self)
      · exact hm _ (List.mem_cons_of_mem _ (ih b w z))
theorem in_of {gs : List Nat} {ws : List Cond} (h : ws = pickP gs lw_tbl) : ∀ w ∈ ws, w ∈ lw_tbl := fun w hw => pickP_in gs _ w (h ▸ hw)
def fldW (c : Nat) (e : Nat × Nat × Nat × Nat × Nat) : Cond := match e.2.2.2.2 with
  | 0 => .fieldLink (ownS c) e.1 ((cAt e.2.1).2.1 e.2.2.1).1 ((cAt e.2.1).2.1 e.2.2.1).2.1 ((cAt e.2.1).2.1 e.2.2.1).2.2.1
  | 1 => .fieldLinkNest (ownS c) e.1 ((cAt e.2.1).2.1 e.2.2.1).1 ((cAt e.2.1).2.1 e.2.2.1).2.1 ((cAt e.2.1).2.1 e.2.2.1).2.2.1 "Chipcardhouse"
  | _ => .fieldLinkNest (ownS c) e.1 ((cAt e.2.1).2.1 e.2.2.1).1 ((cAt e.2.1).2.1 e.2.2.1).2.1 ((cAt e.2.1).2.1 e.2.2.1).2.2.1 "ChipcardhouseModel"
def mthW (c : Nat) (e : Nat × Nat × Nat × Nat) : Cond := match e.2.2.2 with
  | 0 => .methodLink (ownS c) e.1 (yT e.2.1)
  | 1 => .methodLinkNest (ownS c) e.1 (yT e.2.1) "Chipcardhouse"
  | _ => .methodLinkNest (ownS c) e.1 (yT e.2.1) "ChipcardhouseModel"
def clsW (c : Nat) (e : Nat × Nat × Nat) : Cond := .classLink (ownS c) e.1 (match Nat.blt e.2.1 24 with | true => (cAt e.2.1).1 | false => excN e.2.1)
def calWA (m : Nat) : Cond := match kdT m with
  | 1 => .static (yT m)
  | 3 => .static (yT m)
  | _ => .instanceMethod (yT m)
def calWB (m : Nat) : Cond := match kdT m with
  | 3 => .codeWith (yT m) (bT m) (mlT m) (rT m) (rhT m)
  | _ => .code (yT m) (bT m) (mlT m) (rT m)
def calWC (m : Nat) : Cond := .selects (yT m).cls (yT m) (yT m)
set_option maxRecDepth 100000 in
theorem fld_p_0 : fldE_0.map (fldW 0) = pickP [1142, 3, 3] lw_tbl := rfl
set_option maxRecDepth 100000 in
theorem fld_p_1 : fldE_1.map (fldW 1) = pickP [1321, 3, 1, 0, 1, 1, 1, 2, 1, 1, 1, 1, 2, 2, 2, 1, 0, 149, 12] lw_tbl := rfl
set_option maxRecDepth 100000 in
theorem fld_p_2 : fldE_2.map (fldW 2) = pickP [223, 3, 2] lw_tbl := rfl
set_option maxRecDepth 100000 in
theorem fld_p_3 : fldE_3.map (fldW 3) = pickP [228, 45, 0, 0, 0, 1, 241, 1, 2, 2, 2, 1, 2, 4, 1, 1, 1, 2, 592, 3, 2, 130, 40, 2, 22, 2, 61, 2, 2, 2, 2, 73, 4, 6, 2, 3, 4, 5, 5, 5, 4, 2, 1] lw_tbl := rfl
set_option maxRecDepth 100000 in
theorem fld_p_4 : fldE_4.map (fldW 4) = pickP [520, 1, 2, 2, 2, 1, 2, 2, 1, 1, 1, 1, 2, 592, 3, 133, 229, 6, 6, 9, 4] lw_tbl := rfl
set_option maxRecDepth 100000 in
theorem fld_p_5 : fldE_5.map (fldW 5) = pickP [224, 6, 1008, 0, 1, 2, 309] lw_tbl := rfl
set_option maxRecDepth 100000 in
theorem fld_p_6 : fldE_6.map (fldW 6) = pickP [1499, 3, 5, 4, 2, 4, 5, 3, 5, 5, 3, 2, 3, 3, 1] lw_tbl := rfl
set_option maxRecDepth 100000 in
theorem fld_p_7 : fldE_7.map (fldW 7) = pickP [1260, 2, 58, 12, 10, 63, 2, 2, 2, 2, 2, 2, 2, 2, 1, 1, 1, 72, 7, 4, 2, 4, 6, 4, 2] lw_tbl := rfl
set_option maxRecDepth 100000 in
theorem fld_p_8 : fldE_8.map (fldW 8) = pickP [199, 1, 1, 1] lw_tbl := rfl
set_option maxRecDepth 100000 in
theorem fld_p_9 : fldE_9.map (fldW 9) = pickP [300, 1, 1, 1199, 5, 12, 9, 5, 5] lw_tbl := rfl
set_option maxRecDepth 100000 in
theorem fld_p_10 : fldE_10.map (fldW 10) = pickP [225, 1018, 2, 11, 2, 1, 0, 0, 1, 1, 0, 1, 0, 1, 1, 1, 130, 17, 2, 68, 4, 46, 3, 2, 1] lw_tbl := rfl
set_option maxRecDepth 100000 in
theorem fld_p_11 : fldE_11.map (fldW 11) = pickP [200, 1, 1, 1, 19, 2, 2, 45, 1, 20, 1, 1, 7, 0, 0, 0, 0, 0, 0, 0, 0, 0, 0, 0, 199, 2, 2, 4, 2, 1, 8, 2, 592, 3, 2, 89, 2, 2, 12, 5, 1, 2, 2, 1, 1, 3, 40, 4, 1, 1, 2, 1, 1, 1, 1, 2, 2, 2, 1, 56, 2, 2, 2, 2, 2, 2, 2, 1, 1, 1, 1, 60, 5, 7, 10, 3, 5, 5, 10, 3, 4] lw_tbl := rfl
set_option maxRecDepth 100000 in
theorem fld_p_12 : fldE_12.map (fldW 12) = pickP [1983, 1, 0, 1, 1, 3, 2, 0, 1] lw_tbl := rfl
set_option maxRecDepth 100000 in
theorem fld_p_13 : fldE_13.map (fldW 13) = pickP [2405, 1, 1, 0] lw_tbl := rfl
set_option maxRecDepth 100000 in
theorem fld_p_14 : fldE_14.map (fldW 14) = pickP [1995, 100, 5, 42, 0, 0, 0, 0, 0, 0, 0, 0, 0, 1, 0, 1, 1, 1, 1, 1, 1, 489, 0, 0, 0, 1, 1, 1, 0, 0, 0, 0, 0, 0, 0, 0, 1, 0] lw_tbl := rfl
set_option maxRecDepth 100000 in
theorem fld_p_15 : fldE_15.map (fldW 15) = pickP [2663, 1, 1, 9] lw_tbl := rfl
set_option maxRecDepth 100000 in
theorem fld_p_16 : fldE_16.map (fldW 16) = pickP [2100, 63, 1, 1, 1, 47, 1, 1, 1, 1, 1, 1, 1, 0, 0, 0, 0, 0, 0, 0, 0, 0, 0, 0, 162, 1, 104, 1, 0, 0, 0, 0, 0, 0, 0, 0, 0, 0, 0, 0] lw_tbl := rfl
set_option maxRecDepth 100000 in
theorem fld_p_17 : fldE_17.map (fldW 17) = pickP [2512, 1] lw_tbl := rfl
set_option maxRecDepth 100000 in
theorem fld_p_18 : fldE_18.map (fldW 18) = pickP [2046, 0, 0, 1, 1, 0, 0, 0, 0, 0, 1] lw_tbl := rfl
set_option maxRecDepth 100000 in
theorem fld_p_19 : fldE_19.map (fldW 19) = pickP [1993, 96, 0, 0, 0, 0, 0, 1, 1, 1, 2, 1, 2] lw_tbl := rfl
set_option maxRecDepth 100000 in
theorem fld_p_20 : fldE_20.map (fldW 20) = pickP [1984, 2, 1, 1, 0, 3, 2, 1, 47, 1, 6, 1, 37, 4, 1, 1, 0, 46, 2, 1, 1, 56, 1, 1, 1, 1, 1, 1, 51, 0, 0, 0, 0, 0, 0, 0, 0] lw_tbl := rfl
theorem fld_in : ∀ c, c < 28 → ∀ e ∈ fldE c, fldW c e ∈ lw_tbl := by
  intro k hk
  match k, hk with
  | 0, _ => exact fun e he => in_of fld_p_0 _ (List.mem_map.mpr ⟨e, he, rfl⟩)
  | 1, _ => exact fun e he => in_of fld_p_1 _ (List.mem_map.mpr ⟨e, he, rfl⟩)
  | 2, _ => exact fun e he => in_of fld_p_2 _ (List.mem_map.mpr ⟨e, he, rfl⟩)
  | 3, _ => exact fun e he => in_of fld_p_3 _ (List.mem_map.mpr ⟨e, he, rfl⟩)
  | 4, _ => exact fun e he => in_of fld_p_4 _ (List.mem_map.mpr ⟨e, he, rfl⟩)
  | 5, _ => exact fun e he => in_of fld_p_5 _ (List.mem_map.mpr ⟨e, he, rfl⟩)
  | 6, _ => exact fun e he => in_of fld_p_6 _ (List.mem_map.mpr ⟨e, he, rfl⟩)
  | 7, _ => exact fun e he => in_of fld_p_7 _ (List.mem_map.mpr ⟨e, he, rfl⟩)
  | 8, _ => exact fun e he => in_of fld_p_8 _ (List.mem_map.mpr ⟨e, he, rfl⟩)
  | 9, _ => exact fun e he => in_of fld_p_9 _ (List.mem_map.mpr ⟨e, he, rfl⟩)
  | 10, _ => exact fun e he => in_of fld_p_10 _ (List.mem_map.mpr ⟨e, he, rfl⟩)
  | 11, _ => exact fun e he => in_of fld_p_11 _ (List.mem_map.mpr ⟨e, he, rfl⟩)
  | 12, _ => exact fun e he => in_of fld_p_12 _ (List.mem_map.mpr ⟨e, he, rfl⟩)
  | 13, _ => exact fun e he => in_of fld_p_13 _ (List.mem_map.mpr ⟨e, he, rfl⟩)
  | 14, _ => exact fun e he => in_of fld_p_14 _ (List.mem_map.mpr ⟨e, he, rfl⟩)
  | 15, _ => exact fun e he => in_of fld_p_15 _ (List.mem_map.mpr ⟨e, he, rfl⟩)
  | 16, _ => exact fun e he => in_of fld_p_16 _ (List.mem_map.mpr ⟨e, he, rfl⟩)
  | 17, _ => exact fun e he => in_of fld_p_17 _ (List.mem_map.mpr ⟨e, he, rfl⟩)
  | 18, _ => exact fun e he => in_of fld_p_18 _ (List.mem_map.mpr ⟨e, he, rfl⟩)
  | 19, _ => exact fun e he => in_of fld_p_19 _ (List.mem_map.mpr ⟨e, he, rfl⟩)
  | 20, _ => exact fun e he => in_of fld_p_20 _ (List.mem_map.mpr ⟨e, he, rfl⟩)
  | 21, _ => exact fun e he => nomatch he
  | 22, _ => exact fun e he => nomatch he
  | 23, _ => exact fun e he => nomatch he
  | 24, _ => exact fun e he => nomatch he
  | 25, _ => exact fun e he => nomatch he
  | 26, _ => exact fun e he => nomatch he
  | 27, _ => exact fun e he => nomatch he
  | n + 28, h => exact absurd h (by omega)
set_option maxRecDepth 100000 in
theorem mth_p_0 : mthE_0.map (mthW 0) = pickP [1141] lw_tbl := rfl
set_option maxRecDepth 100000 in
theorem mth_p_1 : mthE_1.map (mthW 1) = pickP [1320] lw_tbl := rfl
set_option maxRecDepth 100000 in
theorem mth_p_2 : mthE_2.map (mthW 2) = pickP [222] lw_tbl := rfl
set_option maxRecDepth 100000 in
theorem mth_p_3 : mthE_3.map (mthW 3) = pickP [271, 239, 4, 63, 3, 0, 1, 3, 6, 3, 3, 48, 12, 0, 7, 967, 3, 0, 19, 8, 3, 3, 0, 3, 3] lw_tbl := rfl
set_option maxRecDepth 100000 in
theorem mth_p_4 : mthE_4.map (mthW 4) = pickP [519, 1154, 0, 24] lw_tbl := rfl
set_option maxRecDepth 100000 in
theorem mth_p_5 : mthE_5.map (mthW 5) = pickP [1237, 1, 363, 3, 1, 0, 0, 0, 95] lw_tbl := rfl
set_option maxRecDepth 100000 in
theorem mth_p_6 : mthE_6.map (mthW 6) = pickP [1498] lw_tbl := rfl
set_option maxRecDepth 100000 in
theorem mth_p_7 : mthE_7.map (mthW 7) = pickP [1409, 69, 15, 99, 132, 3, 26, 0] lw_tbl := rfl
set_option maxRecDepth 100000 in
theorem mth_p_8 : mthE_8.map (mthW 8) = pickP [165, 2, 189, 3, 3, 3, 6, 29, 3, 5, 18, 3, 8, 19, 3, 4] lw_tbl := rfl
set_option maxRecDepth 100000 in
theorem mth_p_9 : mthE_9.map (mthW 9) = pickP [297, 1, 1356, 0, 3, 0, 0, 0] lw_tbl := rfl
set_option maxRecDepth 100000 in
theorem mth_p_10 : mthE_10.map (mthW 10) = pickP [1229, 1, 2, 253, 0, 109, 116, 1, 3, 1, 11, 8, 3, 4, 0, 5, 0] lw_tbl := rfl
set_option maxRecDepth 100000 in
theorem mth_p_11 : mthE_11.map (mthW 11) = pickP [157, 4, 56, 22, 25, 25, 59, 131, 3, 3, 12, 102, 7, 5, 11, 3, 10, 12, 8, 7, 3, 4, 3, 3, 13, 68, 15, 79, 197, 0, 0, 3, 4, 4, 4, 3, 2, 3, 3, 3, 3, 3, 3, 0, 0, 3, 4, 21, 60, 4, 84, 5, 75, 3, 3, 4, 60, 3, 3, 4, 3, 131, 3, 3, 3, 3, 0, 3, 3, 9, 13, 0, 37, 7, 37, 12, 3, 3, 3, 3, 5, 3, 3, 3, 7, 67, 52] lw_tbl := rfl
set_option maxRecDepth 100000 in
theorem mth_p_12 : mthE_12.map (mthW 12) = pickP [1982, 824, 94] lw_tbl := rfl
set_option maxRecDepth 100000 in
theorem mth_p_13 : mthE_13.map (mthW 13) = pickP [2403, 161] lw_tbl := rfl
set_option maxRecDepth 100000 in
theorem mth_p_14 : mthE_14.map (mthW 14) = pickP [2140, 509, 4, 59, 3, 3, 3, 0, 0, 3, 3, 3, 3, 3, 3, 3, 2, 3, 7, 3, 7, 3, 2, 3, 7, 107, 118, 3, 4] lw_tbl := rfl
set_option maxRecDepth 100000 in
theorem mth_p_15 : mthE_15.map (mthW 15) = pickP [2658] lw_tbl := rfl
set_option maxRecDepth 100000 in
theorem mth_p_16 : mthE_16.map (mthW 16) = pickP [2213, 186, 103, 3, 48, 3, 15, 3, 3, 3, 3, 15, 16, 3, 3, 3, 3, 3, 121, 11, 18, 8, 3, 7, 36] lw_tbl := rfl
set_option maxRecDepth 100000 in
theorem mth_p_17 : mthE_17.map (mthW 17) = pickP [2511] lw_tbl := rfl
set_option maxRecDepth 100000 in
theorem mth_p_18 : mthE_18.map (mthW 18) = pickP [2027, 311, 3, 3, 3, 0, 0, 3, 3] lw_tbl := rfl
set_option maxRecDepth 100000 in
theorem mth_p_19 : mthE_19.map (mthW 19) = pickP [2089, 298, 2, 41, 11, 3, 3, 3, 3, 3, 3, 3, 3, 7, 2, 327] lw_tbl := rfl
set_option maxRecDepth 100000 in
theorem mth_p_20 : mthE_20.map (mthW 20) = pickP [1976, 2, 44, 61, 50, 72, 109, 2, 3, 7, 34, 3, 4, 3, 11, 24, 3, 3, 8, 3, 127, 3, 23, 3, 3, 8, 3, 3, 201, 12, 3, 3, 3, 3, 7, 3, 3, 3, 3, 3, 3, 3, 3, 3, 5, 3, 18, 15, 3, 7, 3, 4, 7, 0, 0, 4, 3, 3, 15, 14, 8, 8, 4, 3, 3, 3] lw_tbl := rfl
set_option maxRecDepth 100000 in
theorem mth_p_21 : mthE_21.map (mthW 21) = pickP [154, 195, 131, 131, 12, 3, 12, 15, 41, 4, 162, 2, 924, 2, 21, 2, 3, 3, 3, 2, 3, 2, 3, 2, 3, 2, 3, 2, 7, 2, 3, 2, 3, 2, 3, 2, 3, 2, 3, 2, 3, 2, 6, 2, 3, 2, 3, 2, 3, 2, 3, 2, 3, 2, 5, 337, 3, 15, 34, 548, 0, 0, 0, 0, 0, 0, 0, 7, 0, 0, 0, 0, 0, 0, 0, 0, 11, 8, 7, 6, 15, 3, 3, 7, 3, 11] lw_tbl := rfl
theorem mth_in : ∀ c, c < 28 → ∀ e ∈ mthE c, mthW c e ∈ lw_tbl := by
  intro k hk
  match k, hk with
  | 0, _ => exact fun e he => in_of mth_p_0 _ (List.mem_map.mpr ⟨e, he, rfl⟩)
  | 1, _ => exact fun e he => in_of mth_p_1 _ (List.mem_map.mpr ⟨e, he, rfl⟩)
  | 2, _ => exact fun e he => in_of mth_p_2 _ (List.mem_map.mpr ⟨e, he, rfl⟩)
  | 3, _ => exact fun e he => in_of mth_p_3 _ (List.mem_map.mpr ⟨e, he, rfl⟩)
  | 4, _ => exact fun e he => in_of mth_p_4 _ (List.mem_map.mpr ⟨e, he, rfl⟩)
  | 5, _ => exact fun e he => in_of mth_p_5 _ (List.mem_map.mpr ⟨e, he, rfl⟩)
  | 6, _ => exact fun e he => in_of mth_p_6 _ (List.mem_map.mpr ⟨e, he, rfl⟩)
  | 7, _ => exact fun e he => in_of mth_p_7 _ (List.mem_map.mpr ⟨e, he, rfl⟩)
  | 8, _ => exact fun e he => in_of mth_p_8 _ (List.mem_map.mpr ⟨e, he, rfl⟩)
  | 9, _ => exact fun e he => in_of mth_p_9 _ (List.mem_map.mpr ⟨e, he, rfl⟩)
  | 10, _ => exact fun e he => in_of mth_p_10 _ (List.mem_map.mpr ⟨e, he, rfl⟩)
  | 11, _ => exact fun e he => in_of mth_p_11 _ (List.mem_map.mpr ⟨e, he, rfl⟩)
  | 12, _ => exact fun e he => in_of mth_p_12 _ (List.mem_map.mpr ⟨e, he, rfl⟩)
  | 13, _ => exact fun e he => in_of mth_p_13 _ (List.mem_map.mpr ⟨e, he, rfl⟩)
  | 14, _ => exact fun e he => in_of mth_p_14 _ (List.mem_map.mpr ⟨e, he, rfl⟩)
  | 15, _ => exact fun e he => in_of mth_p_15 _ (List.mem_map.mpr ⟨e, he, rfl⟩)
  | 16, _ => exact fun e he => in_of mth_p_16 _ (List.mem_map.mpr ⟨e, he, rfl⟩)
  | 17, _ => exact fun e he => in_of mth_p_17 _ (List.mem_map.mpr ⟨e, he, rfl⟩)
  | 18, _ => exact fun e he => in_of mth_p_18 _ (List.mem_map.mpr ⟨e, he, rfl⟩)
  | 19, _ => exact fun e he => in_of mth_p_19 _ (List.mem_map.mpr ⟨e, he, rfl⟩)
  | 20, _ => exact fun e he => in_of mth_p_20 _ (List.mem_map.mpr ⟨e, he, rfl⟩)
  | 21, _ => exact fun e he => in_of mth_p_21 _ (List.mem_map.mpr ⟨e, he, rfl⟩)
  | 22, _ => exact fun e he => nomatch he
  | 23, _ => exact fun e he => nomatch he
  | 24, _ => exact fun e he => nomatch he
  | 25, _ => exact fun e he => nomatch he
  | 26, _ => exact fun e he => nomatch he
  | 27, _ => exact fun e he => nomatch he
  | n + 28, h => exact absurd h (by omega)
set_option maxRecDepth 100000 in
theorem cls_p_3 : clsE_3.map (clsW 3) = pickP [272, 313, 85, 975] lw_tbl := rfl
set_option maxRecDepth 100000 in
theorem cls_p_5 : clsE_5.map (clsW 5) = pickP [1238, 369] lw_tbl := rfl
set_option maxRecDepth 100000 in
theorem cls_p_7 : clsE_7.map (clsW 7) = pickP [1493] lw_tbl := rfl
set_option maxRecDepth 100000 in
theorem cls_p_8 : clsE_8.map (clsW 8) = pickP [166] lw_tbl := rfl
set_option maxRecDepth 100000 in
theorem cls_p_9 : clsE_9.map (clsW 9) = pickP [298, 1356] lw_tbl := rfl
set_option maxRecDepth 100000 in
theorem cls_p_10 : clsE_10.map (clsW 10) = pickP [1230, 1, 484, 5] lw_tbl := rfl
set_option maxRecDepth 100000 in
theorem cls_p_11 : clsE_11.map (clsW 11) = pickP [160, 56, 22, 25, 25, 213, 115, 12, 53, 25, 66, 532, 492] lw_tbl := rfl
set_option maxRecDepth 100000 in
theorem cls_p_14 : clsE_14.map (clsW 14) = pickP [2141] lw_tbl := rfl
set_option maxRecDepth 100000 in
theorem cls_p_16 : clsE_16.map (clsW 16) = pickP [2214, 1] lw_tbl := rfl
set_option maxRecDepth 100000 in
theorem cls_p_20 : clsE_20.map (clsW 20) = pickP [1977, 44, 61, 50, 72] lw_tbl := rfl
set_option maxRecDepth 100000 in
theorem cls_p_21 : clsE_21.map (clsW 21) = pickP [152, 1818] lw_tbl := rfl
theorem cls_in : ∀ c, c < 28 → ∀ e ∈ clsE c, clsW c e ∈ lw_tbl := by
  intro k hk
  match k, hk with
  | 0, _ => exact fun e he => nomatch he
  | 1, _ => exact fun e he => nomatch he
  | 2, _ => exact fun e he => nomatch he
  | 3, _ => exact fun e he => in_of cls_p_3 _ (List.mem_map.mpr ⟨e, he, rfl⟩)
  | 4, _ => exact fun e he => nomatch he
  | 5, _ => exact fun e he => in_of cls_p_5 _ (List.mem_map.mpr ⟨e, he, rfl⟩)
  | 6, _ => exact fun e he => nomatch he
  | 7, _ => exact fun e he => in_of cls_p_7 _ (List.mem_map.mpr ⟨e, he, rfl⟩)
  | 8, _ => exact fun e he => in_of cls_p_8 _ (List.mem_map.mpr ⟨e, he, rfl⟩)
  | 9, _ => exact fun e he => in_of cls_p_9 _ (List.mem_map.mpr ⟨e, he, rfl⟩)
  | 10, _ => exact fun e he => in_of cls_p_10 _ (List.mem_map.mpr ⟨e, he, rfl⟩)
  | 11, _ => exact fun e he => in_of cls_p_11 _ (List.mem_map.mpr ⟨e, he, rfl⟩)
  | 12, _ => exact fun e he => nomatch he
  | 13, _ => exact fun e he => nomatch he
  | 14, _ => exact fun e he => in_of cls_p_14 _ (List.mem_map.mpr ⟨e, he, rfl⟩)
  | 15, _ => exact fun e he => nomatch he
  | 16, _ => exact fun e he => in_of cls_p_16 _ (List.mem_map.mpr ⟨e, he, rfl⟩)
  | 17, _ => exact fun e he => nomatch he
  | 18, _ => exact fun e he => nomatch he
  | 19, _ => exact fun e he => nomatch he
  | 20, _ => exact fun e he => in_of cls_p_20 _ (List.mem_map.mpr ⟨e, he, rfl⟩)
  | 21, _ => exact fun e he => in_of cls_p_21 _ (List.mem_map.mpr ⟨e, he, rfl⟩)
  | 22, _ => exact fun e he => nomatch he
  | 23, _ => exact fun e he => nomatch he
  | 24, _ => exact fun e he => nomatch he
  | 25, _ => exact fun e he => nomatch he
  | 26, _ => exact fun e he => nomatch he
  | 27, _ => exact fun e he => nomatch he
  | n + 28, h => exact absurd h (by omega)
set_option maxRecDepth 100000 in
theorem calA_p : calA.map calWA = pickP [155, 7, 5, 50, 22, 25, 25, 55, 3, 3, 4, 3, 2, 6, 29, 4, 4, 19, 2, 8, 20, 3, 4, 2, 4, 2, 3, 12, 4, 3, 64, 5, 3, 6, 3, 3, 3, 3, 4, 4, 2, 3, 4, 3, 3, 6, 3, 4, 3, 4, 3, 3, 4, 3, 3, 3, 4, 2, 4, 4, 84, 72, 2, 3, 200, 3, 4, 4, 4, 2, 3, 3, 3, 3, 3, 3, 5, 3, 3, 21, 61, 3, 7, 77, 4, 76, 2, 3, 4, 60, 3, 3, 4, 3, 4, 5, 100, 2, 4, 7, 4, 2, 3, 4, 4, 3, 2, 3, 5, 6, 7, 3, 4, 4, 2, 4, 3, 3, 3, 3, 3, 3, 6, 4, 3, 3, 3, 9, 3, 4, 7, 4, 3, 3, 2, 6, 3, 3, 3, 2, 3, 17, 2, 3, 3, 3, 2, 3, 2, 3, 2, 3, 2, 3, 2, 4, 2, 2, 3, 2, 3, 2, 3, 2, 3, 2, 3, 2, 3, 2, 3, 2, 2, 3, 2, 3, 2, 3, 2, 3, 2, 3, 2, 5, 5, 44, 61, 50, 72, 100, 3, 4, 3, 3, 2, 3, 4, 3, 3, 5, 3, 3, 3, 4, 2, 4, 3, 4, 3, 2, 4, 20, 2, 3, 5, 2, 3, 4, 3, 3, 3, 3, 3, 3, 3, 2, 7, 2, 11, 3, 3, 49, 2, 4, 2, 3, 4, 3, 2, 4, 3, 3, 2, 3, 4, 3, 4, 2, 3, 4, 3, 3, 3, 2, 4, 3, 60, 3, 3, 5, 3, 3, 2, 3, 3, 3, 3, 3, 2, 3, 4, 2, 3, 4, 2, 3, 2, 3, 3, 5, 2, 4, 3, 2, 8, 3, 3, 3, 3, 3, 3, 3, 3, 3, 4, 2, 3, 3, 4, 2, 3, 5, 3, 3, 10, 3, 11, 3, 3, 3, 3, 4, 3, 3, 6, 4, 3, 2, 3, 3, 3, 4, 2, 3, 6, 4, 3, 4, 3, 5, 2, 3, 3] lw_tbl := rfl
theorem calA_in : ∀ m ∈ calA, calWA m ∈ lw_tbl := fun m hm => in_of calA_p _ (List.mem_map.mpr ⟨m, hm, rfl⟩)
set_option maxRecDepth 100000 in
theorem calB_p : calB.map calWB = pickP [156, 7, 5, 50, 22, 25, 25, 56, 3, 3, 3, 3, 3, 6, 29, 3, 4, 19, 3, 8, 19, 3, 4, 3, 3, 3, 3, 12, 3, 3, 64, 6, 3, 6, 3, 3, 3, 3, 3, 4, 3, 3, 4, 3, 3, 6, 3, 4, 3, 3, 4, 3, 3, 3, 4, 3, 3, 2, 5, 3, 85, 71, 3, 3, 199, 3, 4, 4, 4, 2, 3, 3, 3, 3, 3, 3, 5, 3, 3, 22, 60, 3, 7, 77, 4, 76, 3, 3, 3, 61, 3, 3, 4, 3, 4, 4, 100, 3, 3, 8, 3, 3, 3, 3, 4, 3, 3, 2, 6, 5, 8, 3, 4, 3, 3, 4, 3, 3, 3, 3, 3, 3, 5, 5, 3, 3, 3, 8, 4, 4, 7, 3, 3, 3, 2, 6, 3, 3, 3, 3, 2, 17, 3, 2, 4, 2, 3, 2, 3, 2, 3, 2, 3, 2, 3, 3, 2, 3, 2, 3, 2, 3, 2, 3, 2, 3, 2, 3, 2, 3, 2, 2, 3, 2, 3, 2, 3, 2, 3, 2, 3, 2, 3, 4, 5, 44, 61, 50, 72, 101, 3, 3, 3, 3, 3, 3, 3, 3, 3, 5, 3, 3, 4, 3, 3, 4, 3, 3, 3, 3, 3, 20, 3, 3, 4, 3, 3, 3, 3, 3, 3, 3, 3, 3, 3, 3, 6, 2, 12, 2, 3, 49, 3, 3, 3, 3, 3, 3, 3, 3, 3, 3, 3, 3, 3, 4, 3, 3, 3, 3, 3, 3, 3, 3, 3, 3, 60, 3, 3, 5, 3, 3, 3, 3, 3, 3, 2, 3, 3, 3, 3, 3, 3, 3, 2, 3, 3, 3, 3, 4, 3, 3, 3, 3, 8, 3, 3, 3, 3, 3, 3, 3, 3, 3, 3, 3, 3, 3, 3, 3, 3, 5, 3, 3, 10, 3, 11, 3, 3, 3, 3, 4, 3, 3, 6, 3, 3, 3, 3, 3, 3, 3, 3, 3, 6, 4, 3, 3, 4, 4, 3, 3, 3] lw_tbl := rfl
theorem calB_in : ∀ m ∈ calB, calWB m ∈ lw_tbl := fun m hm => in_of calB_p _ (List.mem_map.mpr ⟨m, hm, rfl⟩)
set_option maxRecDepth 100000 in
theorem calC_p : calC.map calWC = pickP [0, 0, 0, 0, 0, 0, 0, 0, 0, 0, 0, 0, 0, 0, 1, 0, 0, 0, 0, 0, 0, 0, 0, 0, 0, 0, 0, 3, 0, 0, 0, 0, 0, 0, 0, 0, 0, 0, 0, 1, 0, 0, 0, 0, 0, 0, 0, 0, 0, 0, 0, 0, 0, 0, 0, 0, 0, 0, 0, 0, 0, 0, 0, 0, 0, 0, 0, 0, 0, 0, 0, 0, 0, 0, 0, 0, 0, 0, 0, 0, 0, 0, 0, 0, 0, 0, 0, 0, 0, 0, 0, 0, 0, 0, 0, 0, 0, 0, 0, 0, 0, 246, 3, 3, 11, 6, 29, 32, 8, 32, 7, 3, 12, 79, 3, 6, 3, 3, 3, 3, 12, 3, 4, 3, 3, 6, 3, 4, 3, 8, 3, 12, 3, 12, 89, 75, 3, 282, 236, 3, 65, 3, 3, 4, 3, 4, 109, 12, 7, 3, 16, 9, 14, 3, 4, 7, 4, 3, 3, 3, 3, 3, 3, 11, 3, 3, 3, 13, 4, 7, 37, 24, 7, 6, 6, 6, 6, 6, 10, 6, 6, 6, 6, 6, 6, 9, 6, 6, 6, 6, 6, 343, 3, 15, 3, 30, 7, 4, 3, 11, 28, 3, 8, 3, 35, 83, 7, 3, 11, 15, 3, 8, 7, 3, 19, 94, 3, 3, 3, 10, 3, 7, 3, 14, 3, 3, 8, 11, 12, 3, 3, 3, 3, 3, 3, 3, 3, 7, 3, 3, 7, 3, 5, 3, 3, 10, 3, 11, 3, 3, 3, 3, 4, 3, 3, 6, 11, 3, 3, 3, 7, 3, 6, 4, 3, 8, 8, 3, 3] lw_tbl := rfl
theorem calC_in : ∀ m ∈ calC, calWC m ∈ lw_tbl := fun m hm => in_of calC_p _ (List.mem_map.mpr ⟨m, hm, rfl⟩)
def iniC : List Nat := [21, 11, 8, 25, 26, 2, 24, 3, 9, 20, 12, 18, 19, 14, 16, 23, 22, 0, 10, 5, 1, 7, 6, 4, 13, 17, 15]
set_option maxRecDepth 100000 in
theorem ini_p : iniC.map (fun c => Cond.initialized (ownS c)) = pickP [106, 0, 0, 1, 0, 1, 2, 0, 0, 0, 0, 0, 0, 0, 0, 6, 7, 2, 0, 0, 0, 0, 0, 0, 0, 0, 0] lw_tbl := rfl
theorem ini_in : ∀ c, c < 27 → Cond.initialized (ownS c) ∈ lw_tbl := by
  intro c hc
  have h : ∀ k, k < 27 → k ∈ iniC := by decide
  exact in_of ini_p _ (List.mem_map.mpr ⟨c, h c hc, rfl⟩)
def layK_0 : List Nat := [0, 1, 2]
set_option maxRecDepth 100000 in
theorem lay_p_0 : layK_0.map (u_lay (cAt 0).1 (cAt 0).2.1) = pickP [1153, 1, 1] lw_tbl := rfl
theorem lay_in_0 : ∀ w ∈ u_ws (cAt 0).1 (cAt 0).2.1 (cAt 0).2.2, w ∈ lw_tbl := by
  intro w hw
  obtain ⟨k, hk, rfl⟩ := List.mem_map.mp hw
  have h : ∀ k, k < 3 → k ∈ layK_0 := by decide
  exact in_of lay_p_0 _ (List.mem_map.mpr ⟨k, h k (List.mem_range.mp hk), rfl⟩)
def layK_1 : List Nat := [0, 1, 2, 3, 4, 5, 6, 7, 8, 9, 10, 11, 12, 13, 14, 15, 16]
set_option maxRecDepth 100000 in
theorem lay_p_1 : layK_1.map (u_lay (cAt 1).1 (cAt 1).2.1) = pickP [1358, 1, 1, 1, 1, 1, 1, 1, 1, 1, 1, 1, 1, 1, 1, 1, 1] lw_tbl := rfl
theorem lay_in_1 : ∀ w ∈ u_ws (cAt 1).1 (cAt 1).2.1 (cAt 1).2.2, w ∈ lw_tbl := by
  intro w hw
  obtain ⟨k, hk, rfl⟩ := List.mem_map.mp hw
  have h : ∀ k, k < 17 → k ∈ layK_1 := by decide
  exact in_of lay_p_1 _ (List.mem_map.mpr ⟨k, h k (List.mem_range.mp hk), rfl⟩)
def layK_2 : List Nat := [0, 1, 2]
set_option maxRecDepth 100000 in
theorem lay_p_2 : layK_2.map (u_lay (cAt 2).1 (cAt 2).2.1) = pickP [233, 1, 1] lw_tbl := rfl
theorem lay_in_2 : ∀ w ∈ u_ws (cAt 2).1 (cAt 2).2.1 (cAt 2).2.2, w ∈ lw_tbl := by
  intro w hw
  obtain ⟨k, hk, rfl⟩ := List.mem_map.mp hw
  have h : ∀ k, k < 3 → k ∈ layK_2 := by decide
  exact in_of lay_p_2 _ (List.mem_map.mpr ⟨k, h k (List.mem_range.mp hk), rfl⟩)
def layK_3 : List Nat := [0, 1, 2, 3, 4]
set_option maxRecDepth 100000 in
theorem lay_p_3 : layK_3.map (u_lay (cAt 3).1 (cAt 3).2.1) = pickP [281, 1, 1, 1, 1] lw_tbl := rfl
theorem lay_in_3 : ∀ w ∈ u_ws (cAt 3).1 (cAt 3).2.1 (cAt 3).2.2, w ∈ lw_tbl := by
  intro w hw
  obtain ⟨k, hk, rfl⟩ := List.mem_map.mp hw
  have h : ∀ k, k < 5 → k ∈ layK_3 := by decide
  exact in_of lay_p_3 _ (List.mem_map.mpr ⟨k, h k (List.mem_range.mp hk), rfl⟩)
def layK_4 : List Nat := [0, 1, 2, 3, 4, 5, 6, 7, 8, 9, 10, 11, 12]
set_option maxRecDepth 100000 in
theorem lay_p_4 : layK_4.map (u_lay (cAt 4).1 (cAt 4).2.1) = pickP [553, 1, 1, 1, 1, 1, 1, 1, 1, 1, 1, 1, 1] lw_tbl := rfl
theorem lay_in_4 : ∀ w ∈ u_ws (cAt 4).1 (cAt 4).2.1 (cAt 4).2.2, w ∈ lw_tbl := by
  intro w hw
  obtain ⟨k, hk, rfl⟩ := List.mem_map.mp hw
  have h : ∀ k, k < 13 → k ∈ layK_4 := by decide
  exact in_of lay_p_4 _ (List.mem_map.mpr ⟨k, h k (List.mem_range.mp hk), rfl⟩)
def layK_5 : List Nat := [0, 1, 2, 3]
set_option maxRecDepth 100000 in
theorem lay_p_5 : layK_5.map (u_lay (cAt 5).1 (cAt 5).2.1) = pickP [1249, 1, 1, 1] lw_tbl := rfl
theorem lay_in_5 : ∀ w ∈ u_ws (cAt 5).1 (cAt 5).2.1 (cAt 5).2.2, w ∈ lw_tbl := by
  intro w hw
  obtain ⟨k, hk, rfl⟩ := List.mem_map.mp hw
  have h : ∀ k, k < 4 → k ∈ layK_5 := by decide
  exact in_of lay_p_5 _ (List.mem_map.mpr ⟨k, h k (List.mem_range.mp hk), rfl⟩)
def layK_6 : List Nat := [0, 1, 2, 3, 4, 5, 6, 7, 8, 9, 10, 11, 12, 13, 14]
set_option maxRecDepth 100000 in
theorem lay_p_6 : layK_6.map (u_lay (cAt 6).1 (cAt 6).2.1) = pickP [1564, 1, 1, 1, 1, 1, 1, 1, 1, 1, 1, 1, 1, 1, 1] lw_tbl := rfl
theorem lay_in_6 : ∀ w ∈ u_ws (cAt 6).1 (cAt 6).2.1 (cAt 6).2.2, w ∈ lw_tbl := by
  intro w hw
  obtain ⟨k, hk, rfl⟩ := List.mem_map.mp hw
  have h : ∀ k, k < 15 → k ∈ layK_6 := by decide
  exact in_of lay_p_6 _ (List.mem_map.mpr ⟨k, h k (List.mem_range.mp hk), rfl⟩)
def layK_7 : List Nat := [0, 1, 2, 3, 4, 5, 6, 7, 8, 9, 10, 11]
set_option maxRecDepth 100000 in
theorem lay_p_7 : layK_7.map (u_lay (cAt 7).1 (cAt 7).2.1) = pickP [1442, 1, 1, 1, 1, 1, 1, 1, 1, 1, 1, 1] lw_tbl := rfl
theorem lay_in_7 : ∀ w ∈ u_ws (cAt 7).1 (cAt 7).2.1 (cAt 7).2.2, w ∈ lw_tbl := by
  intro w hw
  obtain ⟨k, hk, rfl⟩ := List.mem_map.mp hw
  have h : ∀ k, k < 12 → k ∈ layK_7 := by decide
  exact in_of lay_p_7 _ (List.mem_map.mpr ⟨k, h k (List.mem_range.mp hk), rfl⟩)
def layK_8 : List Nat := [0, 1, 2, 3]
set_option maxRecDepth 100000 in
theorem lay_p_8 : layK_8.map (u_lay (cAt 8).1 (cAt 8).2.1) = pickP [207, 1, 1, 1] lw_tbl := rfl
theorem lay_in_8 : ∀ w ∈ u_ws (cAt 8).1 (cAt 8).2.1 (cAt 8).2.2, w ∈ lw_tbl := by
  intro w hw
  obtain ⟨k, hk, rfl⟩ := List.mem_map.mp hw
  have h : ∀ k, k < 4 → k ∈ layK_8 := by decide
  exact in_of lay_p_8 _ (List.mem_map.mpr ⟨k, h k (List.mem_range.mp hk), rfl⟩)
def layK_9 : List Nat := [0, 1, 2]
set_option maxRecDepth 100000 in
theorem lay_p_9 : layK_9.map (u_lay (cAt 9).1 (cAt 9).2.1) = pickP [306, 1, 1] lw_tbl := rfl
theorem lay_in_9 : ∀ w ∈ u_ws (cAt 9).1 (cAt 9).2.1 (cAt 9).2.2, w ∈ lw_tbl := by
  intro w hw
  obtain ⟨k, hk, rfl⟩ := List.mem_map.mp hw
  have h : ∀ k, k < 3 → k ∈ layK_9 := by decide
  exact in_of lay_p_9 _ (List.mem_map.mpr ⟨k, h k (List.mem_range.mp hk), rfl⟩)
def layK_10 : List Nat := [0, 1, 2, 3, 4, 5, 6, 7, 8, 9, 10, 11, 12]
set_option maxRecDepth 100000 in
theorem lay_p_10 : layK_10.map (u_lay (cAt 10).1 (cAt 10).2.1) = pickP [1284, 1, 1, 1, 1, 1, 1, 1, 1, 1, 1, 1, 1] lw_tbl := rfl
theorem lay_in_10 : ∀ w ∈ u_ws (cAt 10).1 (cAt 10).2.1 (cAt 10).2.2, w ∈ lw_tbl := by
  intro w hw
  obtain ⟨k, hk, rfl⟩ := List.mem_map.mp hw
  have h : ∀ k, k < 13 → k ∈ layK_10 := by decide
  exact in_of lay_p_10 _ (List.mem_map.mpr ⟨k, h k (List.mem_range.mp hk), rfl⟩)
def layK_11 : List Nat := [0, 1, 2, 3, 4, 5, 6, 7, 8, 9, 10, 11]
set_option maxRecDepth 100000 in
theorem lay_p_11 : layK_11.map (u_lay (cAt 11).1 (cAt 11).2.1) = pickP [325, 1, 1, 1, 1, 1, 1, 1, 1, 1, 1, 1] lw_tbl := rfl
theorem lay_in_11 : ∀ w ∈ u_ws (cAt 11).1 (cAt 11).2.1 (cAt 11).2.2, w ∈ lw_tbl := by
  intro w hw
  obtain ⟨k, hk, rfl⟩ := List.mem_map.mp hw
  have h : ∀ k, k < 12 → k ∈ layK_11 := by decide
  exact in_of lay_p_11 _ (List.mem_map.mpr ⟨k, h k (List.mem_range.mp hk), rfl⟩)
def layK_12 : List Nat := [0, 1, 2, 3, 4, 5, 6, 7, 8]
set_option maxRecDepth 100000 in
theorem lay_p_12 : layK_12.map (u_lay (cAt 12).1 (cAt 12).2.1) = pickP [2002, 1, 1, 1, 1, 1, 1, 1, 1] lw_tbl := rfl
theorem lay_in_12 : ∀ w ∈ u_ws (cAt 12).1 (cAt 12).2.1 (cAt 12).2.2, w ∈ lw_tbl := by
  intro w hw
  obtain ⟨k, hk, rfl⟩ := List.mem_map.mp hw
  have h : ∀ k, k < 9 → k ∈ layK_12 := by decide
  exact in_of lay_p_12 _ (List.mem_map.mpr ⟨k, h k (List.mem_range.mp hk), rfl⟩)
def layK_13 : List Nat := [0, 1, 2, 3]
set_option maxRecDepth 100000 in
theorem lay_p_13 : layK_13.map (u_lay (cAt 13).1 (cAt 13).2.1) = pickP [2411, 1, 1, 1] lw_tbl := rfl
theorem lay_in_13 : ∀ w ∈ u_ws (cAt 13).1 (cAt 13).2.1 (cAt 13).2.2, w ∈ lw_tbl := by
  intro w hw
  obtain ⟨k, hk, rfl⟩ := List.mem_map.mp hw
  have h : ∀ k, k < 4 → k ∈ layK_13 := by decide
  exact in_of lay_p_13 _ (List.mem_map.mpr ⟨k, h k (List.mem_range.mp hk), rfl⟩)
def layK_14 : List Nat := [0, 1, 2, 3, 4, 5, 6, 7, 8, 9, 10, 11, 12, 13, 14, 15, 16, 17]
set_option maxRecDepth 100000 in
theorem lay_p_14 : layK_14.map (u_lay (cAt 14).1 (cAt 14).2.1) = pickP [2171, 1, 1, 1, 1, 1, 1, 1, 1, 1, 1, 1, 1, 1, 1, 1, 1, 1] lw_tbl := rfl
theorem lay_in_14 : ∀ w ∈ u_ws (cAt 14).1 (cAt 14).2.1 (cAt 14).2.2, w ∈ lw_tbl := by
  intro w hw
  obtain ⟨k, hk, rfl⟩ := List.mem_map.mp hw
  have h : ∀ k, k < 18 → k ∈ layK_14 := by decide
  exact in_of lay_p_14 _ (List.mem_map.mpr ⟨k, h k (List.mem_range.mp hk), rfl⟩)
def layK_15 : List Nat := [0, 1, 2, 3, 4, 5, 6, 7, 8, 9, 10, 11, 12, 13, 14, 15, 16]
set_option maxRecDepth 100000 in
theorem lay_p_15 : layK_15.map (u_lay (cAt 15).1 (cAt 15).2.1) = pickP [2680, 1, 1, 1, 1, 1, 1, 1, 1, 1, 1, 1, 1, 1, 1, 1, 1] lw_tbl := rfl
theorem lay_in_15 : ∀ w ∈ u_ws (cAt 15).1 (cAt 15).2.1 (cAt 15).2.2, w ∈ lw_tbl := by
  intro w hw
  obtain ⟨k, hk, rfl⟩ := List.mem_map.mp hw
  have h : ∀ k, k < 17 → k ∈ layK_15 := by decide
  exact in_of lay_p_15 _ (List.mem_map.mpr ⟨k, h k (List.mem_range.mp hk), rfl⟩)
def layK_16 : List Nat := [0, 1, 2, 3, 4, 5, 6, 7, 8, 9, 10, 11, 12, 13, 14, 15, 16, 17, 18]
set_option maxRecDepth 100000 in
theorem lay_p_16 : layK_16.map (u_lay (cAt 16).1 (cAt 16).2.1) = pickP [2244, 1, 1, 1, 1, 1, 1, 1, 1, 1, 1, 1, 1, 1, 1, 1, 1, 1, 1] lw_tbl := rfl
theorem lay_in_16 : ∀ w ∈ u_ws (cAt 16).1 (cAt 16).2.1 (cAt 16).2.2, w ∈ lw_tbl := by
  intro w hw
  obtain ⟨k, hk, rfl⟩ := List.mem_map.mp hw
  have h : ∀ k, k < 19 → k ∈ layK_16 := by decide
  exact in_of lay_p_16 _ (List.mem_map.mpr ⟨k, h k (List.mem_range.mp hk), rfl⟩)
def layK_17 : List Nat := [0, 1, 2, 3, 4, 5, 6, 7, 8, 9, 10, 11, 12, 13]
set_option maxRecDepth 100000 in
theorem lay_p_17 : layK_17.map (u_lay (cAt 17).1 (cAt 17).2.1) = pickP [2528, 1, 1, 1, 1, 1, 1, 1, 1, 1, 1, 1, 1, 1] lw_tbl := rfl
theorem lay_in_17 : ∀ w ∈ u_ws (cAt 17).1 (cAt 17).2.1 (cAt 17).2.2, w ∈ lw_tbl := by
  intro w hw
  obtain ⟨k, hk, rfl⟩ := List.mem_map.mp hw
  have h : ∀ k, k < 14 → k ∈ layK_17 := by decide
  exact in_of lay_p_17 _ (List.mem_map.mpr ⟨k, h k (List.mem_range.mp hk), rfl⟩)
def layK_18 : List Nat := [0, 1, 2, 3, 4, 5, 6, 7, 8, 9, 10]
set_option maxRecDepth 100000 in
theorem lay_p_18 : layK_18.map (u_lay (cAt 18).1 (cAt 18).2.1) = pickP [2061, 1, 1, 1, 1, 1, 1, 1, 1, 1, 1] lw_tbl := rfl
theorem lay_in_18 : ∀ w ∈ u_ws (cAt 18).1 (cAt 18).2.1 (cAt 18).2.2, w ∈ lw_tbl := by
  intro w hw
  obtain ⟨k, hk, rfl⟩ := List.mem_map.mp hw
  have h : ∀ k, k < 11 → k ∈ layK_18 := by decide
  exact in_of lay_p_18 _ (List.mem_map.mpr ⟨k, h k (List.mem_range.mp hk), rfl⟩)
def layK_19 : List Nat := [0, 1, 2, 3, 4, 5, 6, 7, 8, 9, 10, 11]
set_option maxRecDepth 100000 in
theorem lay_p_19 : layK_19.map (u_lay (cAt 19).1 (cAt 19).2.1) = pickP [2110, 1, 1, 1, 1, 1, 1, 1, 1, 1, 1, 1] lw_tbl := rfl
theorem lay_in_19 : ∀ w ∈ u_ws (cAt 19).1 (cAt 19).2.1 (cAt 19).2.2, w ∈ lw_tbl := by
  intro w hw
  obtain ⟨k, hk, rfl⟩ := List.mem_map.mp hw
  have h : ∀ k, k < 12 → k ∈ layK_19 := by decide
  exact in_of lay_p_19 _ (List.mem_map.mpr ⟨k, h k (List.mem_range.mp hk), rfl⟩)
def layK_20 : List Nat := [0, 1, 2, 3, 4, 5, 6, 7, 8]
set_option maxRecDepth 100000 in
theorem lay_p_20 : layK_20.map (u_lay (cAt 20).1 (cAt 20).2.1) = pickP [2292, 1, 1, 1, 1, 1, 1, 1, 1] lw_tbl := rfl
theorem lay_in_20 : ∀ w ∈ u_ws (cAt 20).1 (cAt 20).2.1 (cAt 20).2.2, w ∈ lw_tbl := by
  intro w hw
  obtain ⟨k, hk, rfl⟩ := List.mem_map.mp hw
  have h : ∀ k, k < 9 → k ∈ layK_20 := by decide
  exact in_of lay_p_20 _ (List.mem_map.mpr ⟨k, h k (List.mem_range.mp hk), rfl⟩)
def layK_21 : List Nat := [1, 2, 0]
set_option maxRecDepth 100000 in
theorem lay_p_21 : layK_21.map (u_lay (cAt 21).1 (cAt 21).2.1) = pickP [259, 1, 1] lw_tbl := rfl
theorem lay_in_21 : ∀ w ∈ u_ws (cAt 21).1 (cAt 21).2.1 (cAt 21).2.2, w ∈ lw_tbl := by
  intro w hw
  obtain ⟨k, hk, rfl⟩ := List.mem_map.mp hw
  have h : ∀ k, k < 3 → k ∈ layK_21 := by decide
  exact in_of lay_p_21 _ (List.mem_map.mpr ⟨k, h k (List.mem_range.mp hk), rfl⟩)
def layK_22 : List Nat := [0, 1, 2, 3]
set_option maxRecDepth 100000 in
theorem lay_p_22 : layK_22.map (u_lay (cAt 22).1 (cAt 22).2.1) = pickP [189, 1, 1, 1] lw_tbl := rfl
theorem lay_in_22 : ∀ w ∈ u_ws (cAt 22).1 (cAt 22).2.1 (cAt 22).2.2, w ∈ lw_tbl := by
  intro w hw
  obtain ⟨k, hk, rfl⟩ := List.mem_map.mp hw
  have h : ∀ k, k < 4 → k ∈ layK_22 := by decide
  exact in_of lay_p_22 _ (List.mem_map.mpr ⟨k, h k (List.mem_range.mp hk), rfl⟩)
def layK_23 : List Nat := [0, 1, 2, 3]
set_option maxRecDepth 100000 in
theorem lay_p_23 : layK_23.map (u_lay (cAt 23).1 (cAt 23).2.1) = pickP [1016, 1, 1, 1] lw_tbl := rfl
theorem lay_in_23 : ∀ w ∈ u_ws (cAt 23).1 (cAt 23).2.1 (cAt 23).2.2, w ∈ lw_tbl := by
  intro w hw
  obtain ⟨k, hk, rfl⟩ := List.mem_map.mp hw
  have h : ∀ k, k < 4 → k ∈ layK_23 := by decide
  exact in_of lay_p_23 _ (List.mem_map.mpr ⟨k, h k (List.mem_range.mp hk), rfl⟩)
theorem lay_in : ∀ a, a < 24 → ∀ w ∈ u_ws (cAt a).1 (cAt a).2.1 (cAt a).2.2, w ∈ lw_tbl := by
  intro a ha
  match a, ha with
  | 0, _ => exact lay_in_0
  | 1, _ => exact lay_in_1
  | 2, _ => exact lay_in_2
  | 3, _ => exact lay_in_3
  | 4, _ => exact lay_in_4
  | 5, _ => exact lay_in_5
  | 6, _ => exact lay_in_6
  | 7, _ => exact lay_in_7
  | 8, _ => exact lay_in_8
  | 9, _ => exact lay_in_9
  | 10, _ => exact lay_in_10
  | 11, _ => exact lay_in_11
  | 12, _ => exact lay_in_12
  | 13, _ => exact lay_in_13
  | 14, _ => exact lay_in_14
  | 15, _ => exact lay_in_15
  | 16, _ => exact lay_in_16
  | 17, _ => exact lay_in_17
  | 18, _ => exact lay_in_18
  | 19, _ => exact lay_in_19
  | 20, _ => exact lay_in_20
  | 21, _ => exact lay_in_21
  | 22, _ => exact lay_in_22
  | 23, _ => exact lay_in_23
  | n + 24, h => exact absurd h (by omega)
def insK : List Nat := [11, 8, 22, 2, 21, 3, 9, 4, 0, 10, 5, 1, 7, 6, 20, 12, 18, 19, 14, 16, 13, 17, 15]
set_option maxRecDepth 100000 in
theorem ins_p : insK.map (fun a => Cond.instantiable (cAt a).1 (cAt a).2.2) = pickP [153, 7, 5, 50, 22, 25, 25, 221, 621, 87, 7, 82, 88, 88, 477, 5, 44, 61, 50, 72, 189, 107, 146] lw_tbl := rfl
theorem ins_in : ∀ a, a < 23 → Cond.instantiable (cAt a).1 (cAt a).2.2 ∈ lw_tbl := by
  intro a ha
  have h : ∀ k, k < 23 → k ∈ insK := by decide
  exact in_of ins_p _ (List.mem_map.mpr ⟨a, h a ha, rfl⟩)
def in2K : List Nat := [11, 8, 22, 2, 21, 3, 9, 20, 12, 18, 19, 14, 16, 0, 10, 5, 1, 7, 6, 4, 13, 17, 15]
set_option maxRecDepth 100000 in
theorem in2_p : in2K.map (fun a => Cond.initialized (cAt a).1) = pickP [107, 0, 1, 2, 2, 0, 0, 0, 0, 0, 0, 0, 0, 17, 0, 0, 0, 0, 0, 0, 0, 0, 0] lw_tbl := rfl
theorem in2_in : ∀ a, a < 23 → Cond.initialized (cAt a).1 ∈ lw_tbl := by
  intro a ha
  have h : ∀ k, k < 23 → k ∈ in2K := by decide
  exact in_of in2_p _ (List.mem_map.mpr ⟨a, h a ha, rfl⟩)
set_option maxRecDepth 100000 in
theorem cst_p : cstW = pickP [595, 0, 0, 25, 24, 0, 0, 8, 51, 373, 4, 4, 686, 0, 0, 534, 58, 8, 44, 48, 0, 0, 0, 6, 0, 0, 119, 287, 112, 0, 0, 4, 34] lw_tbl := rfl
theorem cst_in : ∀ w ∈ cstW, w ∈ lw_tbl := in_of cst_p
set_option maxRecDepth 100000 in
theorem anw_p : anwE.map (fun e => Cond.classLink (ownS e.1) e.2.1 (match tyK e.2.2 with | some (.object C) => C | _ => "")) = pickP [272, 1755, 112, 72, 1, 187] lw_tbl := rfl
theorem anw_in : ∀ e ∈ anwE, Cond.classLink (ownS e.1) e.2.1 (match tyK e.2.2 with | some (.object C) => C | _ => "") ∈ lw_tbl := fun e he => in_of anw_p _ (List.mem_map.mpr ⟨e, he, rfl⟩)
set_option maxRecDepth 100000 in
theorem acl_p : [Cond.arrayClass .byte, Cond.arrayClass .int, Cond.arrayClass .boolean, Cond.arrayClass .long, Cond.arrayClass .double] = pickP [198, 17, 1041, 762, 1035] lw_tbl := rfl
theorem acl_byte : Cond.arrayClass .byte ∈ lw_tbl := in_of acl_p _ (by simp)
theorem acl_int : Cond.arrayClass .int ∈ lw_tbl := in_of acl_p _ (by simp)
theorem acl_boolean : Cond.arrayClass .boolean ∈ lw_tbl := in_of acl_p _ (by simp)
theorem acl_long : Cond.arrayClass .long ∈ lw_tbl := in_of acl_p _ (by simp)
theorem acl_double : Cond.arrayClass .double ∈ lw_tbl := in_of acl_p _ (by simp)
