/-! ===== the law's wrappers, one by one ===== -/
section
variable {a b : TS} {w : Hp} {sc : List Int32} {n : Nat}
theorem lw_account (h : IvH a b n) (hW : WK w sc) (p : Int32) : LwP aI Int32.toInt64 295 [aR (some (96, 0)), aI p, aR (some (98, 0))] 262 [aR (some (97, 0)), aI p] a b w sc n := by
  obtain ⟨C, hc, hp, ht, hB⟩ := h
  refine lp_L _ (pub_T hp ht hB (by omega) (pu_account hc p)) hW (fun v a1 hx => ?_) (fun r a1 r1 r3 hk hx => ?_)
  · refine (X_st (by decide +kernel) rfl).trans ((lf_295_0 ..).trans ?_)
    rw [hx]
    rfl
  · refine ⟨(ct23 (h := JH a1 b w) r1 r3 hk).1, ?_⟩
    refine (X_st (by decide +kernel) rfl).trans ((lf_295_0 ..).trans ?_)
    rw [hx, cI_x]
    exact (ct23 r1 r3 hk).2
theorem lw_shop (h : IvH a b n) (hW : WK w sc) (p q : Int32) : LwP aI Int32.toInt64 296 [aR (some (96, 0)), aI p, aI q, aR (some (98, 0))] 263 [aR (some (97, 0)), aI p, aI q] a b w sc n := by
  obtain ⟨C, hc, hp, ht, hB⟩ := h
  refine lp_L _ (pub_T hp ht hB (by omega) (pu_shop hc p q)) hW (fun v a1 hx => ?_) (fun r a1 r1 r3 hk hx => ?_)
  · refine (X_st (by decide +kernel) rfl).trans ((lf_296_0 ..).trans ?_)
    rw [hx]
    rfl
  · refine ⟨(ct23 (h := JH a1 b w) r1 r3 hk).1, ?_⟩
    refine (X_st (by decide +kernel) rfl).trans ((lf_296_0 ..).trans ?_)
    rw [hx, cI_x]
    exact (ct23 r1 r3 hk).2
theorem lw_card (h : IvH a b n) (hW : WK w sc) (p q r s : Int32) : LwP aI Int32.toInt64 297 [aR (some (96, 0)), aI p, aI q, aI r, aI s, aR (some (98, 0))] 264 [aR (some (97, 0)), aI p, aI q, aI r, aI s] a b w sc n := by
  obtain ⟨C, hc, hp, ht, hB⟩ := h
  refine lp_L _ (pub_T hp ht hB (by omega) (pu_card hc p q r s)) hW (fun v a1 hx => ?_) (fun r a1 r1 r3 hk hx => ?_)
  · refine (X_st (by decide +kernel) rfl).trans ((lf_297_0 ..).trans ?_)
    rw [hx]
    rfl
  · refine ⟨(ct123 (h := JH a1 b w) r1 r3).1, ?_⟩
    refine (X_st (by decide +kernel) rfl).trans ((lf_297_0 ..).trans ?_)
    rw [hx, cI_x]
    exact (ct123 r1 r3).2
theorem lw_house (h : IvH a b n) (hW : WK w sc) (p q r : Int32) : LwP aI Int32.toInt64 298 [aR (some (96, 0)), aI p, aI q, aI r, aR (some (98, 0))] 265 [aR (some (97, 0)), aI p, aI q, aI r] a b w sc n := by
  obtain ⟨C, hc, hp, ht, hB⟩ := h
  refine lp_L _ (pub_T hp ht hB (by omega) (pu_house hc p q r)) hW (fun v a1 hx => ?_) (fun r a1 r1 r3 hk hx => ?_)
  · refine (X_st (by decide +kernel) rfl).trans ((lf_298_0 ..).trans ?_)
    rw [hx]
    rfl
  · refine ⟨(ct2 (h := JH a1 b w) r1 r3 hk).1, ?_⟩
    refine (X_st (by decide +kernel) rfl).trans ((lf_298_0 ..).trans ?_)
    rw [hx, cI_x]
    exact (ct2 r1 r3 hk).2
theorem lw_pay (h : IvH a b n) (hW : WK w sc) (p q r s : Int32) : LwP aI Int32.toInt64 299 [aR (some (96, 0)), aI p, aI q, aI r, aI s, aR (some (98, 0))] 266 [aR (some (97, 0)), aI p, aI q, aI r, aI s] a b w sc n := by
  obtain ⟨C, hc, hp, ht, hB⟩ := h
  refine lp_L _ (pub_T hp ht hB (by omega) (pu_pay hc p q r s)) hW (fun v a1 hx => ?_) (fun r a1 r1 r3 hk hx => ?_)
  · refine (X_st (by decide +kernel) rfl).trans ((lf_299_0 ..).trans ?_)
    rw [hx]
    rfl
  · refine ⟨(ct12 (h := JH a1 b w) r1 r3 hk).1, ?_⟩
    refine (X_st (by decide +kernel) rfl).trans ((lf_299_0 ..).trans ?_)
    rw [hx, cI_x]
    exact (ct12 r1 r3 hk).2
theorem lw_sends (h : IvH a b n) (hW : WK w sc) (p : Int32) : LwP aI Int32.toInt64 300 [aR (some (96, 0)), aI p, aR (some (98, 0))] 267 [aR (some (97, 0)), aI p] a b w sc n := by
  obtain ⟨C, hc, hp, ht, hB⟩ := h
  refine lp_L _ (pub_T hp ht hB (by omega) (pu_sends hc p)) hW (fun v a1 hx => ?_) (fun r a1 r1 r3 hk hx => ?_)
  · refine (X_st (by decide +kernel) rfl).trans ((lf_300_0 ..).trans ?_)
    rw [hx]
    rfl
  · refine ⟨(ct1 (h := JH a1 b w) r1 r3 hk).1, ?_⟩
    refine (X_st (by decide +kernel) rfl).trans ((lf_300_0 ..).trans ?_)
    rw [hx, cI_x]
    exact (ct1 r1 r3 hk).2
theorem lw_back (h : IvH a b n) (hW : WK w sc) (p q r : Int32) : LwP aI Int32.toInt64 301 [aR (some (96, 0)), aI p, aI q, aI r, aR (some (98, 0))] 268 [aR (some (97, 0)), aI p, aI q, aI r] a b w sc n := by
  obtain ⟨C, hc, hp, ht, hB⟩ := h
  refine lp_L _ (pub_T hp ht hB (by omega) (pu_back hc p q r)) hW (fun v a1 hx => ?_) (fun r a1 r1 r3 hk hx => ?_)
  · refine (X_st (by decide +kernel) rfl).trans ((lf_301_0 ..).trans ?_)
    rw [hx]
    rfl
  · refine ⟨(ct123 (h := JH a1 b w) r1 r3).1, ?_⟩
    refine (X_st (by decide +kernel) rfl).trans ((lf_301_0 ..).trans ?_)
    rw [hx, cI_x]
    exact (ct123 r1 r3).2
theorem lw_forge (hn : n ≤ 511) (h : IvH a b n) (hW : WK w sc) (p q r : Int32) : LwP aI Int32.toInt64 302 [aR (some (96, 0)), aI p, aI q, aI r, aR (some (98, 0))] 269 [aR (some (97, 0)), aI p, aI q, aI r] a b w sc n := by
  obtain ⟨C, hc, hp, ht, hB⟩ := h
  refine lp_L _ (pub_T hp ht hB (by omega) (pu_forge hc (by omega) p q r)) hW (fun v a1 hx => ?_) (fun r a1 r1 r3 hk hx => ?_)
  · refine (X_st (by decide +kernel) rfl).trans ((lf_302_0 ..).trans ?_)
    rw [hx]
    rfl
  · refine ⟨(ct12 (h := JH a1 b w) r1 r3 hk).1, ?_⟩
    refine (X_st (by decide +kernel) rfl).trans ((lf_302_0 ..).trans ?_)
    rw [hx, cI_x]
    exact (ct12 r1 r3 hk).2
theorem lw_passes (h : IvH a b n) (hW : WK w sc) (p : Int32) : LwP aI Int32.toInt64 303 [aR (some (96, 0)), aI p, aR (some (98, 0))] 271 [aR (some (97, 0)), aI p] a b w sc n := by
  obtain ⟨C, hc, hp, ht, hB⟩ := h
  refine lp_L _ (pub_T hp ht hB (by omega) (pu_passes hc p)) hW (fun v a1 hx => ?_) (fun r a1 r1 r3 hk hx => ?_)
  · refine (X_st (by decide +kernel) rfl).trans ((lf_303_0 ..).trans ?_)
    rw [hx]
    rfl
  · refine ⟨(ct23 (h := JH a1 b w) r1 r3 hk).1, ?_⟩
    refine (X_st (by decide +kernel) rfl).trans ((lf_303_0 ..).trans ?_)
    rw [hx, cI_x]
    exact (ct23 r1 r3 hk).2
theorem lw_faults (hn : n ≤ 511) (h : IvH a b n) (hW : WK w sc) (p q r s : Int32) : LwP aI Int32.toInt64 304 [aR (some (96, 0)), aI p, aI q, aI r, aI s, aR (some (98, 0))] 272 [aR (some (97, 0)), aI p, aI q, aI r, aI s] a b w sc n := by
  obtain ⟨C, hc, hp, ht, hB⟩ := h
  refine lp_L _ (pub_T hp ht hB (by omega) (pu_faults hc (by omega) p q r s)) hW (fun v a1 hx => ?_) (fun r a1 r1 r3 hk hx => ?_)
  · refine (X_st (by decide +kernel) rfl).trans ((lf_304_0 ..).trans ?_)
    rw [hx]
    rfl
  · refine ⟨(ct12 (h := JH a1 b w) r1 r3 hk).1, ?_⟩
    refine (X_st (by decide +kernel) rfl).trans ((lf_304_0 ..).trans ?_)
    rw [hx, cI_x]
    exact (ct12 r1 r3 hk).2
theorem lw_tells (h : IvH a b n) (hW : WK w sc) (p q : Int32) : LwP aI Int32.toInt64 305 [aR (some (96, 0)), aI p, aI q, aR (some (98, 0))] 274 [aR (some (97, 0)), aI p, aI q] a b w sc n := by
  obtain ⟨C, hc, hp, ht, hB⟩ := h
  refine lp_L _ (pub_T hp ht hB (by omega) (pu_tells hc p q)) hW (fun v a1 hx => ?_) (fun r a1 r1 r3 hk hx => ?_)
  · refine (X_st (by decide +kernel) rfl).trans ((lf_305_0 ..).trans ?_)
    rw [hx]
    rfl
  · refine ⟨(ct12 (h := JH a1 b w) r1 r3 hk).1, ?_⟩
    refine (X_st (by decide +kernel) rfl).trans ((lf_305_0 ..).trans ?_)
    rw [hx, cI_x]
    exact (ct12 r1 r3 hk).2
theorem lw_cardAt (h : IvH a b n) (hW : WK w sc) (p q : Int32) : LwP aI Int32.toInt64 309 [aR (some (96, 0)), aI p, aI q, aR (some (98, 0))] 279 [aR (some (97, 0)), aI p, aI q] a b w sc n := by
  obtain ⟨C, hc, hp, ht, hB⟩ := h
  refine lp_L _ (pub_T hp ht hB (by omega) (q_cardAt hc p q)) hW (fun v a1 hx => ?_) (fun r a1 r1 r3 hk hx => ?_)
  · refine (X_st (by decide +kernel) rfl).trans ((lf_309_0 ..).trans ?_)
    rw [hx]
    rfl
  · refine ⟨(ct12 (h := JH a1 b w) r1 r3 hk).1, ?_⟩
    refine (X_st (by decide +kernel) rfl).trans ((lf_309_0 ..).trans ?_)
    rw [hx, cI_x]
    exact (ct12 r1 r3 hk).2
theorem lw_paymentAt (h : IvH a b n) (hW : WK w sc) (p q : Int32) : LwP aI Int32.toInt64 310 [aR (some (96, 0)), aI p, aI q, aR (some (98, 0))] 280 [aR (some (97, 0)), aI p, aI q] a b w sc n := by
  obtain ⟨C, hc, hp, ht, hB⟩ := h
  refine lp_L _ (pub_T hp ht hB (by omega) (q_paymentAt hc p q)) hW (fun v a1 hx => ?_) (fun r a1 r1 r3 hk hx => ?_)
  · refine (X_st (by decide +kernel) rfl).trans ((lf_310_0 ..).trans ?_)
    rw [hx]
    rfl
  · refine ⟨(ct12 (h := JH a1 b w) r1 r3 hk).1, ?_⟩
    refine (X_st (by decide +kernel) rfl).trans ((lf_310_0 ..).trans ?_)
    rw [hx, cI_x]
    exact (ct12 r1 r3 hk).2
theorem lw_knows (h : IvH a b n) (hW : WK w sc) (p q : Int32) : LwP aI Int32.toInt64 311 [aR (some (96, 0)), aI p, aI q, aR (some (98, 0))] 281 [aR (some (97, 0)), aI p, aI q] a b w sc n := by
  obtain ⟨C, hc, hp, ht, hB⟩ := h
  refine lp_L _ (pub_T hp ht hB (by omega) (q_knows hc p q)) hW (fun v a1 hx => ?_) (fun r a1 r1 r3 hk hx => ?_)
  · refine (X_st (by decide +kernel) rfl).trans ((lf_311_0 ..).trans ?_)
    rw [hx]
    rfl
  · refine ⟨(ct12 (h := JH a1 b w) r1 r3 hk).1, ?_⟩
    refine (X_st (by decide +kernel) rfl).trans ((lf_311_0 ..).trans ?_)
    rw [hx, cI_x]
    exact (ct12 r1 r3 hk).2
theorem lw_accountAt (h : IvH a b n) (hW : WK w sc) (p q : Int32) : LwP aL (fun x => x) 312 [aR (some (96, 0)), aI p, aI q, aR (some (98, 0))] 282 [aR (some (97, 0)), aI p, aI q] a b w sc n := by
  obtain ⟨C, hc, hp, ht, hB⟩ := h
  refine lp_L _ (pub_T hp ht hB (by omega) (q_accountAt hc p q)) hW (fun v a1 hx => ?_) (fun r a1 r1 r3 hk hx => ?_)
  · refine (X_st (by decide +kernel) rfl).trans ((lf_312_0 ..).trans ?_)
    rw [hx]
    rfl
  · refine ⟨(ct12 (h := JH a1 b w) r1 r3 hk).1, ?_⟩
    refine (X_st (by decide +kernel) rfl).trans ((lf_312_0 ..).trans ?_)
    rw [hx, cL_x]
    exact (ct12 r1 r3 hk).2
theorem lw_shopAt (h : IvH a b n) (hW : WK w sc) (p q : Int32) : LwP aL (fun x => x) 313 [aR (some (96, 0)), aI p, aI q, aR (some (98, 0))] 284 [aR (some (97, 0)), aI p, aI q] a b w sc n := by
  obtain ⟨C, hc, hp, ht, hB⟩ := h
  refine lp_L _ (pub_T hp ht hB (by omega) (q_shopAt hc hp p q)) hW (fun v a1 hx => ?_) (fun r a1 r1 r3 hk hx => ?_)
  · refine (X_st (by decide +kernel) rfl).trans ((lf_313_0 ..).trans ?_)
    rw [hx]
    rfl
  · refine ⟨(ct12 (h := JH a1 b w) r1 r3 hk).1, ?_⟩
    refine (X_st (by decide +kernel) rfl).trans ((lf_313_0 ..).trans ?_)
    rw [hx, cL_x]
    exact (ct12 r1 r3 hk).2
theorem lw_count (h : IvH a b n) (hW : WK w sc) (p : Int32) : LwP aI Int32.toInt64 314 [aR (some (96, 0)), aI p, aR (some (98, 0))] 285 [aR (some (97, 0)), aI p] a b w sc n := by
  obtain ⟨C, hc, hp, ht, hB⟩ := h
  refine lp_L _ (pub_T hp ht hB (by omega) (q_count hc p)) hW (fun v a1 hx => ?_) (fun r a1 r1 r3 hk hx => ?_)
  · refine (X_st (by decide +kernel) rfl).trans ((lf_314_0 ..).trans ?_)
    rw [hx]
    rfl
  · refine ⟨(ct2 (h := JH a1 b w) r1 r3 hk).1, ?_⟩
    refine (X_st (by decide +kernel) rfl).trans ((lf_314_0 ..).trans ?_)
    rw [hx, cI_x]
    exact (ct2 r1 r3 hk).2
end
