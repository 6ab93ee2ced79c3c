/-! ===== the links are words of the tables: each list is picked out of the tables in their order (gaps by program) ===== -/
/-- handlers as the class files have them -/
def rhT (m : Nat) : List (Nat × Nat × Nat × Nat) := match m with
  | 321 => [(0, 97, 280, 84), (98, 104, 280, 84), (105, 115, 280, 84), (116, 124, 280, 84), (125, 135, 280, 84), (136, 141, 280, 84), (142, 150, 280, 84), (151, 159, 280, 84), (160, 165, 280, 84), (166, 176, 280, 84), (177, 191, 280, 84), (192, 198, 280, 84), (199, 212, 280, 84), (213, 236, 280, 84), (237, 242, 280, 84), (243, 249, 280, 84), (250, 256, 280, 84), (257, 263, 280, 84), (264, 271, 280, 84), (272, 279, 280, 84), (0, 97, 285, 87), (98, 104, 285, 87), (105, 115, 285, 87), (116, 124, 285, 87), (125, 135, 285, 87), (136, 141, 285, 87), (142, 150, 285, 87), (151, 159, 285, 87), (160, 165, 285, 87), (166, 176, 285, 87), (177, 191, 285, 87), (192, 198, 285, 87), (199, 212, 285, 87), (213, 236, 285, 87), (237, 242, 285, 87), (243, 249, 285, 87), (250, 256, 285, 87), (257, 263, 285, 87), (264, 271, 285, 87), (272, 279, 285, 87), (0, 97, 290, 90), (98, 104, 290, 90), (105, 115, 290, 90), (116, 124, 290, 90), (125, 135, 290, 90), (136, 141, 290, 90), (142, 150, 290, 90), (151, 159, 290, 90), (160, 165, 290, 90), (166, 176, 290, 90), (177, 191, 290, 90), (192, 198, 290, 90), (199, 212, 290, 90), (213, 236, 290, 90), (237, 242, 290, 90), (243, 249, 290, 90), (250, 256, 290, 90), (257, 263, 290, 90), (264, 271, 290, 90), (272, 279, 290, 90)]
  | _ => []
/-- by gaps: leave out g, take one, and so on -/
def pickP : List Nat → List Cond → List Cond
  | [], _ => []
  | g :: gs, t => match t.drop g with
    | [] => []
    | w :: t => w :: pickP gs t
theorem pickP_in (gs : List Nat) : ∀ (t : List Cond) (w : Cond), w ∈ pickP gs t → w ∈ t := by
  induction gs with
  | nil => exact fun _ _ h => nomatch h
  | cons g gs ih =>
    intro t w h
    unfold pickP at h
    split at h
    · cases h
    · rename_i a b e
      have hm : ∀ x ∈ a :: b, x ∈ t := fun x hx => List.mem_of_mem_drop (i := g) (e ▸ hx)
      rcases List.mem_cons.mp h with z | z
      · exact hm _ (by rw [z]; exact List.mem_cons_self)
      · exact hm _ (List.mem_cons_of_mem _ (ih b w z))
theorem in_of {gs : List Nat} {ws : List Cond} (h : ws = pickP gs lw_tbl) : ∀ w ∈ ws, w ∈ lw_tbl := fun w hw => pickP_in gs _ w (h ▸ hw)
def fldW (c : Nat) (e : Nat × Nat × Nat × Nat × Nat) : Cond := match e.2.2.2.2 with
  | 0 => .fieldLink (ownS c) e.1 ((cAt e.2.1).2.1 e.2.2.1).1 ((cAt e.2.1).2.1 e.2.2.1).2.1 ((cAt e.2.1).2.1 e.2.2.1).2.2.1
  | 1 => .fieldLinkNest (ownS c) e.1 ((cAt e.2.1).2.1 e.2.2.1).1 ((cAt e.2.1).2.1 e.2.2.1).2.1 ((cAt e.2.1).2.1 e.2.2.1).2.2.1 "Chipcardhouse"
  | _ => .fieldLinkNest (ownS c) e.1 ((cAt e.2.1).2.1 e.2.2.1).1 ((cAt e.2.1).2.1 e.2.2.1).2.1 ((cAt e.2.1).2.1 e.2.2.1).2.2.1 "ChipcardhouseModel"
def mthW (c : Nat) (e : Nat × Nat × Nat × Nat) : Cond := match e.2.2.2 with
  | 0 => .methodLink (ownS c) e.1 (yT e.2.1)
  | 1 => .methodLinkNest (ownS c) e.1 (yT e.2.1) "Chipcardhouse"
  | _ => .methodLinkNest (ownS c) e.1 (yT e.2.1) "ChipcardhouseModel"
def clsW (c : Nat) (e : Nat × Nat × Nat) : Cond := .classLink (ownS c) e.1 (match Nat.blt e.2.1 24 with | true => (cAt e.2.1).1 | false => excN e.2.1)
def calWA (m : Nat) : Cond := match kdT m with
  | 1 => .static (yT m)
  | 3 => .static (yT m)
  | _ => .instanceMethod (yT m)
def calWB (m : Nat) : Cond := match kdT m with
  | 3 => .codeWith (yT m) (bT m) (mlT m) (rT m) (rhT m)
  | _ => .code (yT m) (bT m) (mlT m) (rT m)
def calWC (m : Nat) : Cond := .selects (yT m).cls (yT m) (yT m)
set_option maxRecDepth 100000 in
theorem fld_p_0 : fldE_0.map (fldW 0) = pickP [553, 3, 3] lw_tbl := rfl
set_option maxRecDepth 100000 in
theorem fld_p_1 : fldE_1.map (fldW 1) = pickP [764, 3, 1, 0, 1, 1, 1, 2, 1, 1, 1, 1, 2, 2, 2, 1, 0, 176, 12] lw_tbl := rfl
set_option maxRecDepth 100000 in
theorem fld_p_2 : fldE_2.map (fldW 2) = pickP [152, 3, 2] lw_tbl := rfl
set_option maxRecDepth 100000 in
theorem fld_p_3 : fldE_3.map (fldW 3) = pickP [157, 45, 0, 0, 0, 1, 346, 3, 2, 141, 61, 2, 22, 2, 82, 2, 2, 2, 2, 79, 4, 6, 2, 3, 4, 5, 5, 5, 4, 2, 1, 139, 1, 2, 2, 2, 1, 2, 4, 1, 1, 1, 2] lw_tbl := rfl
set_option maxRecDepth 100000 in
theorem fld_p_4 : fldE_4.map (fldW 4) = pickP [554, 3, 144, 277, 6, 6, 9, 4, 150, 1, 2, 2, 2, 1, 2, 2, 1, 1, 1, 1, 2] lw_tbl := rfl
set_option maxRecDepth 100000 in
theorem fld_p_5 : fldE_5.map (fldW 5) = pickP [153, 6, 501, 0, 1, 2, 357] lw_tbl := rfl
set_option maxRecDepth 100000 in
theorem fld_p_6 : fldE_6.map (fldW 6) = pickP [969, 3, 5, 4, 2, 4, 5, 3, 5, 5, 3, 2, 3, 3, 1] lw_tbl := rfl
set_option maxRecDepth 100000 in
theorem fld_p_7 : fldE_7.map (fldW 7) = pickP [682, 2, 79, 12, 10, 84, 2, 2, 2, 2, 2, 2, 2, 2, 1, 1, 1, 78, 7, 4, 2, 4, 6, 4, 2] lw_tbl := rfl
set_option maxRecDepth 100000 in
theorem fld_p_8 : fldE_8.map (fldW 8) = pickP [132, 0, 0, 0] lw_tbl := rfl
set_option maxRecDepth 100000 in
theorem fld_p_9 : fldE_9.map (fldW 9) = pickP [229, 1, 1, 740, 5, 12, 9, 5, 5] lw_tbl := rfl
set_option maxRecDepth 100000 in
theorem fld_p_10 : fldE_10.map (fldW 10) = pickP [154, 511, 2, 11, 2, 1, 0, 0, 1, 1, 0, 1, 0, 1, 1, 1, 172, 17, 2, 74, 4, 46, 3, 2, 1] lw_tbl := rfl
set_option maxRecDepth 100000 in
theorem fld_p_11 : fldE_11.map (fldW 11) = pickP [155, 2, 2, 45, 1, 20, 1, 1, 7, 0, 0, 0, 0, 0, 0, 0, 0, 0, 0, 0, 302, 3, 2, 100, 2, 2, 12, 5, 1, 2, 2, 1, 1, 3, 61, 4, 1, 1, 2, 1, 1, 1, 1, 2, 2, 2, 1, 77, 2, 2, 2, 2, 2, 2, 2, 1, 1, 1, 1, 66, 5, 7, 10, 3, 5, 5, 10, 3, 4, 131, 2, 2, 4, 2, 1, 8, 2] lw_tbl := rfl
theorem fld_in : ∀ c, c < 28 → ∀ e ∈ fldE c, fldW c e ∈ lw_tbl := by
  intro k hk
  match k, hk with
  | 0, _ => exact fun e he => in_of fld_p_0 _ (List.mem_map.mpr ⟨e, he, rfl⟩)
  | 1, _ => exact fun e he => in_of fld_p_1 _ (List.mem_map.mpr ⟨e, he, rfl⟩)
  | 2, _ => exact fun e he => in_of fld_p_2 _ (List.mem_map.mpr ⟨e, he, rfl⟩)
  | 3, _ => exact fun e he => in_of fld_p_3 _ (List.mem_map.mpr ⟨e, he, rfl⟩)
  | 4, _ => exact fun e he => in_of fld_p_4 _ (List.mem_map.mpr ⟨e, he, rfl⟩)
  | 5, _ => exact fun e he => in_of fld_p_5 _ (List.mem_map.mpr ⟨e, he, rfl⟩)
  | 6, _ => exact fun e he => in_of fld_p_6 _ (List.mem_map.mpr ⟨e, he, rfl⟩)
  | 7, _ => exact fun e he => in_of fld_p_7 _ (List.mem_map.mpr ⟨e, he, rfl⟩)
  | 8, _ => exact fun e he => in_of fld_p_8 _ (List.mem_map.mpr ⟨e, he, rfl⟩)
  | 9, _ => exact fun e he => in_of fld_p_9 _ (List.mem_map.mpr ⟨e, he, rfl⟩)
  | 10, _ => exact fun e he => in_of fld_p_10 _ (List.mem_map.mpr ⟨e, he, rfl⟩)
  | 11, _ => exact fun e he => in_of fld_p_11 _ (List.mem_map.mpr ⟨e, he, rfl⟩)
  | 12, _ => exact fun e he => nomatch he
  | 13, _ => exact fun e he => nomatch he
  | 14, _ => exact fun e he => nomatch he
  | 15, _ => exact fun e he => nomatch he
  | 16, _ => exact fun e he => nomatch he
  | 17, _ => exact fun e he => nomatch he
  | 18, _ => exact fun e he => nomatch he
  | 19, _ => exact fun e he => nomatch he
  | 20, _ => exact fun e he => nomatch he
  | 21, _ => exact fun e he => nomatch he
  | 22, _ => exact fun e he => nomatch he
  | 23, _ => exact fun e he => nomatch he
  | 24, _ => exact fun e he => nomatch he
  | 25, _ => exact fun e he => nomatch he
  | 26, _ => exact fun e he => nomatch he
  | 27, _ => exact fun e he => nomatch he
  | n + 28, h => exact absurd h (by omega)
set_option maxRecDepth 100000 in
theorem mth_p_0 : mthE_0.map (mthW 0) = pickP [552] lw_tbl := rfl
set_option maxRecDepth 100000 in
theorem mth_p_1 : mthE_1.map (mthW 1) = pickP [763] lw_tbl := rfl
set_option maxRecDepth 100000 in
theorem mth_p_2 : mthE_2.map (mthW 2) = pickP [151] lw_tbl := rfl
set_option maxRecDepth 100000 in
theorem mth_p_3 : mthE_3.map (mthW 3) = pickP [200, 951, 4, 63, 3, 0, 1, 2, 3, 0, 4, 0, 3, 0, 21, 8, 3, 3, 3, 0, 3, 3, 236, 3, 0] lw_tbl := rfl
set_option maxRecDepth 100000 in
theorem mth_p_4 : mthE_4.map (mthW 4) = pickP [1160, 112, 0, 28] lw_tbl := rfl
set_option maxRecDepth 100000 in
theorem mth_p_5 : mthE_5.map (mthW 5) = pickP [659, 1, 411, 3, 1, 0, 0, 0, 228] lw_tbl := rfl
set_option maxRecDepth 100000 in
theorem mth_p_6 : mthE_6.map (mthW 6) = pickP [968] lw_tbl := rfl
set_option maxRecDepth 100000 in
theorem mth_p_7 : mthE_7.map (mthW 7) = pickP [873, 69, 21, 99, 265, 3, 29, 0] lw_tbl := rfl
set_option maxRecDepth 100000 in
theorem mth_p_8 : mthE_8.map (mthW 8) = pickP [100, 2, 187, 3, 3, 3, 6, 29, 3, 5, 18, 3, 8, 19, 3, 4] lw_tbl := rfl
set_option maxRecDepth 100000 in
theorem mth_p_9 : mthE_9.map (mthW 9) = pickP [226, 1, 1027, 0, 3, 0, 0, 0] lw_tbl := rfl
set_option maxRecDepth 100000 in
theorem mth_p_10 : mthE_10.map (mthW 10) = pickP [651, 1, 2, 301, 0, 109, 249, 1, 3, 1, 11, 8, 3, 4, 3, 5, 0] lw_tbl := rfl
set_option maxRecDepth 100000 in
theorem mth_p_11 : mthE_11.map (mthW 11) = pickP [92, 4, 50, 22, 25, 25, 63, 131, 2, 95, 19, 4, 5, 21, 65, 4, 5, 88, 4, 5, 11, 79, 3, 7, 3, 3, 3, 5, 60, 3, 3, 10, 3, 135, 2, 3, 3, 3, 7, 3, 4, 4, 3, 4, 3, 3, 3, 102, 13, 41, 7, 37, 15, 7, 3, 7, 3, 3, 7, 3, 3, 9, 7, 7, 3, 3, 0, 3, 4, 47, 4, 21, 12, 3, 3, 0, 3, 3, 3] lw_tbl := rfl
set_option maxRecDepth 100000 in
theorem mth_p_21 : mthE_21.map (mthW 21) = pickP [84, 4, 189, 3, 131, 106, 2, 2, 5, 98, 99, 102, 11, 237, 22, 13, 8, 240, 11, 15, 17, 7, 7, 17, 6, 3, 3, 3, 7, 6, 2, 3, 2, 3, 11, 2, 2, 2, 5, 41] lw_tbl := rfl
theorem mth_in : ∀ c, c < 28 → ∀ e ∈ mthE c, mthW c e ∈ lw_tbl := by
  intro k hk
  match k, hk with
  | 0, _ => exact fun e he => in_of mth_p_0 _ (List.mem_map.mpr ⟨e, he, rfl⟩)
  | 1, _ => exact fun e he => in_of mth_p_1 _ (List.mem_map.mpr ⟨e, he, rfl⟩)
  | 2, _ => exact fun e he => in_of mth_p_2 _ (List.mem_map.mpr ⟨e, he, rfl⟩)
  | 3, _ => exact fun e he => in_of mth_p_3 _ (List.mem_map.mpr ⟨e, he, rfl⟩)
  | 4, _ => exact fun e he => in_of mth_p_4 _ (List.mem_map.mpr ⟨e, he, rfl⟩)
  | 5, _ => exact fun e he => in_of mth_p_5 _ (List.mem_map.mpr ⟨e, he, rfl⟩)
  | 6, _ => exact fun e he => in_of mth_p_6 _ (List.mem_map.mpr ⟨e, he, rfl⟩)
  | 7, _ => exact fun e he => in_of mth_p_7 _ (List.mem_map.mpr ⟨e, he, rfl⟩)
  | 8, _ => exact fun e he => in_of mth_p_8 _ (List.mem_map.mpr ⟨e, he, rfl⟩)
  | 9, _ => exact fun e he => in_of mth_p_9 _ (List.mem_map.mpr ⟨e, he, rfl⟩)
  | 10, _ => exact fun e he => in_of mth_p_10 _ (List.mem_map.mpr ⟨e, he, rfl⟩)
  | 11, _ => exact fun e he => in_of mth_p_11 _ (List.mem_map.mpr ⟨e, he, rfl⟩)
  | 12, _ => exact fun e he => nomatch he
  | 13, _ => exact fun e he => nomatch he
  | 14, _ => exact fun e he => nomatch he
  | 15, _ => exact fun e he => nomatch he
  | 16, _ => exact fun e he => nomatch he
  | 17, _ => exact fun e he => nomatch he
  | 18, _ => exact fun e he => nomatch he
  | 19, _ => exact fun e he => nomatch he
  | 20, _ => exact fun e he => nomatch he
  | 21, _ => exact fun e he => in_of mth_p_21 _ (List.mem_map.mpr ⟨e, he, rfl⟩)
  | 22, _ => exact fun e he => nomatch he
  | 23, _ => exact fun e he => nomatch he
  | 24, _ => exact fun e he => nomatch he
  | 25, _ => exact fun e he => nomatch he
  | 26, _ => exact fun e he => nomatch he
  | 27, _ => exact fun e he => nomatch he
  | n + 28, h => exact absurd h (by omega)
set_option maxRecDepth 100000 in
theorem cls_p_3 : clsE_3.map (clsW 3) = pickP [201, 1025, 12, 303] lw_tbl := rfl
set_option maxRecDepth 100000 in
theorem cls_p_5 : clsE_5.map (clsW 5) = pickP [660, 417] lw_tbl := rfl
set_option maxRecDepth 100000 in
theorem cls_p_7 : clsE_7.map (clsW 7) = pickP [963] lw_tbl := rfl
set_option maxRecDepth 100000 in
theorem cls_p_8 : clsE_8.map (clsW 8) = pickP [101] lw_tbl := rfl
set_option maxRecDepth 100000 in
theorem cls_p_9 : clsE_9.map (clsW 9) = pickP [227, 1027] lw_tbl := rfl
set_option maxRecDepth 100000 in
theorem cls_p_10 : clsE_10.map (clsW 10) = pickP [652, 1, 665, 5] lw_tbl := rfl
set_option maxRecDepth 100000 in
theorem cls_p_11 : clsE_11.map (clsW 11) = pickP [95, 50, 22, 25, 25, 203, 62, 14, 43, 98, 99, 121, 252] lw_tbl := rfl
set_option maxRecDepth 100000 in
theorem cls_p_21 : clsE_21.map (clsW 21) = pickP [87] lw_tbl := rfl
theorem cls_in : ∀ c, c < 28 → ∀ e ∈ clsE c, clsW c e ∈ lw_tbl := by
  intro k hk
  match k, hk with
  | 0, _ => exact fun e he => nomatch he
  | 1, _ => exact fun e he => nomatch he
  | 2, _ => exact fun e he => nomatch he
  | 3, _ => exact fun e he => in_of cls_p_3 _ (List.mem_map.mpr ⟨e, he, rfl⟩)
  | 4, _ => exact fun e he => nomatch he
  | 5, _ => exact fun e he => in_of cls_p_5 _ (List.mem_map.mpr ⟨e, he, rfl⟩)
  | 6, _ => exact fun e he => nomatch he
  | 7, _ => exact fun e he => in_of cls_p_7 _ (List.mem_map.mpr ⟨e, he, rfl⟩)
  | 8, _ => exact fun e he => in_of cls_p_8 _ (List.mem_map.mpr ⟨e, he, rfl⟩)
  | 9, _ => exact fun e he => in_of cls_p_9 _ (List.mem_map.mpr ⟨e, he, rfl⟩)
  | 10, _ => exact fun e he => in_of cls_p_10 _ (List.mem_map.mpr ⟨e, he, rfl⟩)
  | 11, _ => exact fun e he => in_of cls_p_11 _ (List.mem_map.mpr ⟨e, he, rfl⟩)
  | 12, _ => exact fun e he => nomatch he
  | 13, _ => exact fun e he => nomatch he
  | 14, _ => exact fun e he => nomatch he
  | 15, _ => exact fun e he => nomatch he
  | 16, _ => exact fun e he => nomatch he
  | 17, _ => exact fun e he => nomatch he
  | 18, _ => exact fun e he => nomatch he
  | 19, _ => exact fun e he => nomatch he
  | 20, _ => exact fun e he => nomatch he
  | 21, _ => exact fun e he => in_of cls_p_21 _ (List.mem_map.mpr ⟨e, he, rfl⟩)
  | 22, _ => exact fun e he => nomatch he
  | 23, _ => exact fun e he => nomatch he
  | 24, _ => exact fun e he => nomatch he
  | 25, _ => exact fun e he => nomatch he
  | 26, _ => exact fun e he => nomatch he
  | 27, _ => exact fun e he => nomatch he
  | n + 28, h => exact absurd h (by omega)
set_option maxRecDepth 100000 in
theorem calA_p : calA.map calWA = pickP [85, 4, 7, 5, 44, 22, 25, 25, 55, 3, 3, 3, 4, 3, 2, 6, 29, 4, 4, 19, 2, 8, 20, 3, 4, 2, 3, 2, 95, 3, 2, 2, 5, 4, 4, 4, 21, 61, 4, 4, 4, 7, 76, 4, 4, 4, 11, 75, 4, 3, 2, 4, 3, 2, 3, 5, 60, 3, 3, 3, 6, 3, 4, 5, 100, 2, 4, 7, 3, 3, 3, 2, 3, 3, 3, 4, 3, 4, 4, 3, 4, 3, 3, 2, 4, 3, 64, 5, 2, 4, 5, 4, 3, 6, 6, 3, 4, 4, 2, 3, 4, 3, 3, 3, 3, 3, 3, 6, 4, 3, 3, 3, 9, 3, 3, 3, 7, 3, 4, 3, 2, 4, 2, 3, 3, 4, 3, 2, 5, 4, 2, 4, 2, 4, 2, 5, 3, 3, 2, 3, 3, 3, 7, 6, 2, 3, 2, 3, 4, 3, 2, 2, 2, 2, 5, 3, 3, 4, 3, 4, 4, 2, 3, 4, 2] lw_tbl := rfl
theorem calA_in : ∀ m ∈ calA, calWA m ∈ lw_tbl := fun m hm => in_of calA_p _ (List.mem_map.mpr ⟨m, hm, rfl⟩)
set_option maxRecDepth 100000 in
theorem calB_p : calB.map calWB = pickP [86, 4, 7, 5, 44, 22, 25, 25, 55, 4, 3, 3, 3, 3, 3, 6, 29, 3, 4, 19, 3, 8, 19, 3, 4, 3, 2, 2, 96, 2, 2, 2, 6, 3, 4, 4, 22, 61, 3, 4, 4, 7, 77, 3, 4, 5, 10, 76, 3, 3, 3, 3, 3, 3, 3, 4, 61, 3, 3, 3, 6, 3, 4, 4, 100, 3, 3, 8, 3, 2, 3, 3, 3, 3, 3, 3, 3, 5, 3, 4, 3, 3, 3, 3, 3, 3, 64, 5, 3, 4, 5, 4, 3, 5, 7, 3, 4, 3, 3, 3, 4, 3, 3, 3, 3, 3, 3, 5, 5, 3, 3, 3, 8, 4, 3, 3, 7, 3, 3, 3, 3, 3, 3, 3, 3, 3, 3, 2, 6, 3, 3, 3, 3, 3, 3, 4, 4, 2, 3, 3, 3, 3, 6, 6, 2, 3, 3, 3, 3, 3, 2, 2, 2, 2, 6, 3, 3, 3, 4, 3, 4, 3, 3, 3, 2] lw_tbl := rfl
theorem calB_in : ∀ m ∈ calB, calWB m ∈ lw_tbl := fun m hm => in_of calB_p _ (List.mem_map.mpr ⟨m, hm, rfl⟩)
set_option maxRecDepth 100000 in
theorem calC_p : calC.map calWC = pickP [0, 0, 0, 0, 0, 0, 0, 1, 0, 3, 0, 0, 0, 0, 0, 0, 0, 0, 0, 0, 0, 0, 0, 0, 0, 0, 0, 0, 0, 0, 0, 1, 0, 0, 0, 0, 0, 0, 0, 0, 0, 0, 0, 0, 0, 235, 3, 3, 11, 6, 29, 32, 8, 32, 102, 15, 36, 61, 99, 14, 87, 11, 11, 3, 66, 3, 3, 3, 6, 3, 4, 109, 12, 3, 10, 3, 3, 3, 13, 8, 15, 82, 4, 5, 4, 3, 13, 3, 4, 7, 3, 4, 3, 3, 3, 3, 3, 3, 11, 3, 3, 3, 13, 3, 3, 7, 3, 11, 7, 3, 3, 17, 7, 7, 7, 9, 6, 3, 3, 3, 24, 3, 26, 3, 3, 8, 12, 3] lw_tbl := rfl
theorem calC_in : ∀ m ∈ calC, calWC m ∈ lw_tbl := fun m hm => in_of calC_p _ (List.mem_map.mpr ⟨m, hm, rfl⟩)
def iniC : List Nat := [21, 11, 8, 25, 26, 2, 24, 3, 9, 23, 0, 10, 5, 1, 7, 6, 4, 22]
set_option maxRecDepth 100000 in
theorem ini_p : iniC.map (fun c => Cond.initialized (ownS c)) = pickP [50, 0, 0, 1, 0, 1, 2, 0, 0, 0, 8, 3, 0, 0, 1, 0, 0, 0] lw_tbl := rfl
theorem ini_in : ∀ c, c < 27 → Cond.initialized (ownS c) ∈ lw_tbl := by
  intro c hc
  have h : ∀ k, k < 27 → k ∈ iniC ∨ (0 ∈ iniC ∧ ownS k = ownS 0) := by decide
  rcases h c hc with q | ⟨q, e⟩
  · exact in_of ini_p _ (List.mem_map.mpr ⟨c, q, rfl⟩)
  · rw [e]
    exact in_of ini_p _ (List.mem_map.mpr ⟨0, q, rfl⟩)
def layK_0 : List Nat := [0, 1, 2]
set_option maxRecDepth 100000 in
theorem lay_p_0 : layK_0.map (u_lay (cAt 0).1 (cAt 0).2.1) = pickP [564, 1, 1] lw_tbl := rfl
theorem lay_in_0 : ∀ w ∈ u_ws (cAt 0).1 (cAt 0).2.1 (cAt 0).2.2, w ∈ lw_tbl := by
  intro w hw
  obtain ⟨k, hk, rfl⟩ := List.mem_map.mp hw
  have h : ∀ k, k < 3 → k ∈ layK_0 := by decide
  exact in_of lay_p_0 _ (List.mem_map.mpr ⟨k, h k (List.mem_range.mp hk), rfl⟩)
def layK_1 : List Nat := [0, 1, 2, 3, 4, 5, 6, 7, 8, 9, 10, 11, 12, 13, 14, 15, 16]
set_option maxRecDepth 100000 in
theorem lay_p_1 : layK_1.map (u_lay (cAt 1).1 (cAt 1).2.1) = pickP [801, 1, 1, 1, 1, 1, 1, 1, 1, 1, 1, 1, 1, 1, 1, 1, 1] lw_tbl := rfl
theorem lay_in_1 : ∀ w ∈ u_ws (cAt 1).1 (cAt 1).2.1 (cAt 1).2.2, w ∈ lw_tbl := by
  intro w hw
  obtain ⟨k, hk, rfl⟩ := List.mem_map.mp hw
  have h : ∀ k, k < 17 → k ∈ layK_1 := by decide
  exact in_of lay_p_1 _ (List.mem_map.mpr ⟨k, h k (List.mem_range.mp hk), rfl⟩)
def layK_2 : List Nat := [0, 1, 2]
set_option maxRecDepth 100000 in
theorem lay_p_2 : layK_2.map (u_lay (cAt 2).1 (cAt 2).2.1) = pickP [162, 1, 1] lw_tbl := rfl
theorem lay_in_2 : ∀ w ∈ u_ws (cAt 2).1 (cAt 2).2.1 (cAt 2).2.2, w ∈ lw_tbl := by
  intro w hw
  obtain ⟨k, hk, rfl⟩ := List.mem_map.mp hw
  have h : ∀ k, k < 3 → k ∈ layK_2 := by decide
  exact in_of lay_p_2 _ (List.mem_map.mpr ⟨k, h k (List.mem_range.mp hk), rfl⟩)
def layK_3 : List Nat := [0, 1, 2, 3, 4]
set_option maxRecDepth 100000 in
theorem lay_p_3 : layK_3.map (u_lay (cAt 3).1 (cAt 3).2.1) = pickP [210, 1, 1, 1, 1] lw_tbl := rfl
theorem lay_in_3 : ∀ w ∈ u_ws (cAt 3).1 (cAt 3).2.1 (cAt 3).2.2, w ∈ lw_tbl := by
  intro w hw
  obtain ⟨k, hk, rfl⟩ := List.mem_map.mp hw
  have h : ∀ k, k < 5 → k ∈ layK_3 := by decide
  exact in_of lay_p_3 _ (List.mem_map.mpr ⟨k, h k (List.mem_range.mp hk), rfl⟩)
def layK_4 : List Nat := [0, 1, 2, 3, 4, 5, 6, 7, 8, 9, 10, 11, 12]
set_option maxRecDepth 100000 in
theorem lay_p_4 : layK_4.map (u_lay (cAt 4).1 (cAt 4).2.1) = pickP [1194, 1, 1, 1, 1, 1, 1, 1, 1, 1, 1, 1, 1] lw_tbl := rfl
theorem lay_in_4 : ∀ w ∈ u_ws (cAt 4).1 (cAt 4).2.1 (cAt 4).2.2, w ∈ lw_tbl := by
  intro w hw
  obtain ⟨k, hk, rfl⟩ := List.mem_map.mp hw
  have h : ∀ k, k < 13 → k ∈ layK_4 := by decide
  exact in_of lay_p_4 _ (List.mem_map.mpr ⟨k, h k (List.mem_range.mp hk), rfl⟩)
def layK_5 : List Nat := [0, 1, 2, 3]
set_option maxRecDepth 100000 in
theorem lay_p_5 : layK_5.map (u_lay (cAt 5).1 (cAt 5).2.1) = pickP [671, 1, 1, 1] lw_tbl := rfl
theorem lay_in_5 : ∀ w ∈ u_ws (cAt 5).1 (cAt 5).2.1 (cAt 5).2.2, w ∈ lw_tbl := by
  intro w hw
  obtain ⟨k, hk, rfl⟩ := List.mem_map.mp hw
  have h : ∀ k, k < 4 → k ∈ layK_5 := by decide
  exact in_of lay_p_5 _ (List.mem_map.mpr ⟨k, h k (List.mem_range.mp hk), rfl⟩)
def layK_6 : List Nat := [0, 1, 2, 3, 4, 5, 6, 7, 8, 9, 10, 11, 12, 13, 14]
set_option maxRecDepth 100000 in
theorem lay_p_6 : layK_6.map (u_lay (cAt 6).1 (cAt 6).2.1) = pickP [1034, 1, 1, 1, 1, 1, 1, 1, 1, 1, 1, 1, 1, 1, 1] lw_tbl := rfl
theorem lay_in_6 : ∀ w ∈ u_ws (cAt 6).1 (cAt 6).2.1 (cAt 6).2.2, w ∈ lw_tbl := by
  intro w hw
  obtain ⟨k, hk, rfl⟩ := List.mem_map.mp hw
  have h : ∀ k, k < 15 → k ∈ layK_6 := by decide
  exact in_of lay_p_6 _ (List.mem_map.mpr ⟨k, h k (List.mem_range.mp hk), rfl⟩)
def layK_7 : List Nat := [0, 1, 2, 3, 4, 5, 6, 7, 8, 9, 10, 11]
set_option maxRecDepth 100000 in
theorem lay_p_7 : layK_7.map (u_lay (cAt 7).1 (cAt 7).2.1) = pickP [906, 1, 1, 1, 1, 1, 1, 1, 1, 1, 1, 1] lw_tbl := rfl
theorem lay_in_7 : ∀ w ∈ u_ws (cAt 7).1 (cAt 7).2.1 (cAt 7).2.2, w ∈ lw_tbl := by
  intro w hw
  obtain ⟨k, hk, rfl⟩ := List.mem_map.mp hw
  have h : ∀ k, k < 12 → k ∈ layK_7 := by decide
  exact in_of lay_p_7 _ (List.mem_map.mpr ⟨k, h k (List.mem_range.mp hk), rfl⟩)
def layK_8 : List Nat := [0, 1, 2, 3]
set_option maxRecDepth 100000 in
theorem lay_p_8 : layK_8.map (u_lay (cAt 8).1 (cAt 8).2.1) = pickP [136, 1, 1, 1] lw_tbl := rfl
theorem lay_in_8 : ∀ w ∈ u_ws (cAt 8).1 (cAt 8).2.1 (cAt 8).2.2, w ∈ lw_tbl := by
  intro w hw
  obtain ⟨k, hk, rfl⟩ := List.mem_map.mp hw
  have h : ∀ k, k < 4 → k ∈ layK_8 := by decide
  exact in_of lay_p_8 _ (List.mem_map.mpr ⟨k, h k (List.mem_range.mp hk), rfl⟩)
def layK_9 : List Nat := [0, 1, 2]
set_option maxRecDepth 100000 in
theorem lay_p_9 : layK_9.map (u_lay (cAt 9).1 (cAt 9).2.1) = pickP [235, 1, 1] lw_tbl := rfl
theorem lay_in_9 : ∀ w ∈ u_ws (cAt 9).1 (cAt 9).2.1 (cAt 9).2.2, w ∈ lw_tbl := by
  intro w hw
  obtain ⟨k, hk, rfl⟩ := List.mem_map.mp hw
  have h : ∀ k, k < 3 → k ∈ layK_9 := by decide
  exact in_of lay_p_9 _ (List.mem_map.mpr ⟨k, h k (List.mem_range.mp hk), rfl⟩)
def layK_10 : List Nat := [0, 1, 2, 3, 4, 5, 6, 7, 8, 9, 10, 11, 12]
set_option maxRecDepth 100000 in
theorem lay_p_10 : layK_10.map (u_lay (cAt 10).1 (cAt 10).2.1) = pickP [706, 1, 1, 1, 1, 1, 1, 1, 1, 1, 1, 1, 1] lw_tbl := rfl
theorem lay_in_10 : ∀ w ∈ u_ws (cAt 10).1 (cAt 10).2.1 (cAt 10).2.2, w ∈ lw_tbl := by
  intro w hw
  obtain ⟨k, hk, rfl⟩ := List.mem_map.mp hw
  have h : ∀ k, k < 13 → k ∈ layK_10 := by decide
  exact in_of lay_p_10 _ (List.mem_map.mpr ⟨k, h k (List.mem_range.mp hk), rfl⟩)
def layK_11 : List Nat := [0, 1, 2, 3, 4, 5, 6, 7, 8, 9, 10, 11]
set_option maxRecDepth 100000 in
theorem lay_p_11 : layK_11.map (u_lay (cAt 11).1 (cAt 11).2.1) = pickP [254, 1, 1, 1, 1, 1, 1, 1, 1, 1, 1, 1] lw_tbl := rfl
theorem lay_in_11 : ∀ w ∈ u_ws (cAt 11).1 (cAt 11).2.1 (cAt 11).2.2, w ∈ lw_tbl := by
  intro w hw
  obtain ⟨k, hk, rfl⟩ := List.mem_map.mp hw
  have h : ∀ k, k < 12 → k ∈ layK_11 := by decide
  exact in_of lay_p_11 _ (List.mem_map.mpr ⟨k, h k (List.mem_range.mp hk), rfl⟩)
def layK_21 : List Nat := [1, 2, 0]
set_option maxRecDepth 100000 in
theorem lay_p_21 : layK_21.map (u_lay (cAt 21).1 (cAt 21).2.1) = pickP [188, 1, 1] lw_tbl := rfl
theorem lay_in_21 : ∀ w ∈ u_ws (cAt 21).1 (cAt 21).2.1 (cAt 21).2.2, w ∈ lw_tbl := by
  intro w hw
  obtain ⟨k, hk, rfl⟩ := List.mem_map.mp hw
  have h : ∀ k, k < 3 → k ∈ layK_21 := by decide
  exact in_of lay_p_21 _ (List.mem_map.mpr ⟨k, h k (List.mem_range.mp hk), rfl⟩)
def layK_22 : List Nat := [0, 1, 2, 3]
set_option maxRecDepth 100000 in
theorem lay_p_22 : layK_22.map (u_lay (cAt 22).1 (cAt 22).2.1) = pickP [122, 1, 1, 1] lw_tbl := rfl
theorem lay_in_22 : ∀ w ∈ u_ws (cAt 22).1 (cAt 22).2.1 (cAt 22).2.2, w ∈ lw_tbl := by
  intro w hw
  obtain ⟨k, hk, rfl⟩ := List.mem_map.mp hw
  have h : ∀ k, k < 4 → k ∈ layK_22 := by decide
  exact in_of lay_p_22 _ (List.mem_map.mpr ⟨k, h k (List.mem_range.mp hk), rfl⟩)
theorem lay_in : ∀ a, a < 24 → ∀ w ∈ u_ws (cAt a).1 (cAt a).2.1 (cAt a).2.2, w ∈ lw_tbl := by
  intro a ha
  match a, ha with
  | 0, _ => exact lay_in_0
  | 1, _ => exact lay_in_1
  | 2, _ => exact lay_in_2
  | 3, _ => exact lay_in_3
  | 4, _ => exact lay_in_4
  | 5, _ => exact lay_in_5
  | 6, _ => exact lay_in_6
  | 7, _ => exact lay_in_7
  | 8, _ => exact lay_in_8
  | 9, _ => exact lay_in_9
  | 10, _ => exact lay_in_10
  | 11, _ => exact lay_in_11
  | 12, _ => exact lay_in_0
  | 13, _ => exact lay_in_0
  | 14, _ => exact lay_in_0
  | 15, _ => exact lay_in_0
  | 16, _ => exact lay_in_0
  | 17, _ => exact lay_in_0
  | 18, _ => exact lay_in_0
  | 19, _ => exact lay_in_0
  | 20, _ => exact lay_in_0
  | 21, _ => exact lay_in_21
  | 22, _ => exact lay_in_22
  | 23, _ => exact lay_in_0
  | n + 24, h => exact absurd h (by omega)
theorem cAt_f {a : Nat} (h1 : 12 ≤ a) (h2 : a < 21) : cAt a = cAt 0 := by
  have h : ∀ k, k < 21 → 12 ≤ k → kcl.getD k ("", fun _ => ("", "", "", false), 0) = cAt 0 := by
    intro k h1 h2
    match k, h1, h2 with
    | 12, _, _ => rfl
    | 13, _, _ => rfl
    | 14, _, _ => rfl
    | 15, _, _ => rfl
    | 16, _, _ => rfl
    | 17, _, _ => rfl
    | 18, _, _ => rfl
    | 19, _, _ => rfl
    | 20, _, _ => rfl
    | n + 21, h, _ => exact absurd h (by omega)
  exact h a h2 h1
def insK : List Nat := [11, 8, 22, 2, 21, 3, 9, 0, 10, 5, 1, 7, 6, 4]
set_option maxRecDepth 100000 in
theorem ins_p : insK.map (fun a => Cond.instantiable (cAt a).1 (cAt a).2.2) = pickP [88, 7, 5, 44, 22, 25, 25, 325, 98, 7, 91, 121, 94, 191] lw_tbl := rfl
theorem ins_in : ∀ a, a < 23 → Cond.instantiable (cAt a).1 (cAt a).2.2 ∈ lw_tbl := by
  intro a ha
  have h : ∀ k, k < 23 → k ∈ insK ∨ (0 ∈ insK ∧ 12 ≤ k ∧ k < 21) := by decide
  rcases h a ha with q | ⟨q, e1, e2⟩
  · exact in_of ins_p _ (List.mem_map.mpr ⟨a, q, rfl⟩)
  · rw [cAt_f e1 e2]
    exact in_of ins_p _ (List.mem_map.mpr ⟨0, q, rfl⟩)
def in2K : List Nat := [11, 8, 22, 2, 21, 3, 9, 0, 10, 5, 1, 7, 6, 4]
set_option maxRecDepth 100000 in
theorem in2_p : in2K.map (fun a => Cond.initialized (cAt a).1) = pickP [51, 0, 1, 2, 2, 0, 0, 9, 3, 0, 0, 1, 0, 0] lw_tbl := rfl
theorem in2_in : ∀ a, a < 23 → Cond.initialized (cAt a).1 ∈ lw_tbl := by
  intro a ha
  have h : ∀ k, k < 23 → k ∈ in2K ∨ (0 ∈ in2K ∧ 12 ≤ k ∧ k < 21) := by decide
  rcases h a ha with q | ⟨q, e1, e2⟩
  · exact in_of in2_p _ (List.mem_map.mpr ⟨a, q, rfl⟩)
  · rw [cAt_f e1 e2]
    exact in_of in2_p _ (List.mem_map.mpr ⟨0, q, rfl⟩)
set_option maxRecDepth 100000 in
theorem cst_p : cstW = pickP [282, 259, 98, 99, 205, 0, 0, 466, 0, 0, 57, 0, 0, 0, 3, 0, 0, 0, 6, 15, 15, 0, 0, 45] lw_tbl := rfl
theorem cst_in : ∀ w ∈ cstW, w ∈ lw_tbl := in_of cst_p
set_option maxRecDepth 100000 in
theorem anw_p : anwE.map (fun e => Cond.classLink (ownS e.1) e.2.1 (match tyK e.2.2 with | some (.object C) => C | _ => "")) = pickP [201] lw_tbl := rfl
theorem anw_in : ∀ e ∈ anwE, Cond.classLink (ownS e.1) e.2.1 (match tyK e.2.2 with | some (.object C) => C | _ => "") ∈ lw_tbl := fun e he => in_of anw_p _ (List.mem_map.mpr ⟨e, he, rfl⟩)
set_option maxRecDepth 100000 in
theorem acl_p : [Cond.arrayClass .byte, Cond.arrayClass .int, Cond.arrayClass .boolean] = pickP [131, 13, 534] lw_tbl := rfl
theorem acl_byte : Cond.arrayClass .byte ∈ lw_tbl := in_of acl_p _ (by simp)
theorem acl_int : Cond.arrayClass .int ∈ lw_tbl := in_of acl_p _ (by simp)
theorem acl_boolean : Cond.arrayClass .boolean ∈ lw_tbl := in_of acl_p _ (by simp)
