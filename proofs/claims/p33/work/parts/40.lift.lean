-- Chipcardhouse$Account.<init>(I)V
set_option maxRecDepth 100000 in
theorem lf_0_0 (o : Option (Nat × Nat)) (p0 : Int32) (h : Hp) : Ru 0 0 [(0, aR o), (1, aI p0)] [] h =
    cV (Ex 420 [aR o] h) (fun h1 =>
    (pf h1 o 0 1 (aL (0 : Int64))).bind (fun h2 =>
    (pf h2 o 0 2 (aI (0 : Int32))).bind (fun h3 =>
    (pf h3 o 0 0 (aL p0.toInt64)).bind (fun h4 =>
    some (.inl none, h4))))) xT :=
  lift_of (k := 14) (rows := code_0) (cuts := cut_0) (hs := hdl_0) (r := fun R E =>
    cV (E 420 [aR o] h) (fun h1 =>
    (pf h1 o 0 1 (aL (0 : Int64))).bind (fun h2 =>
    (pf h2 o 0 2 (aI (0 : Int32))).bind (fun h3 =>
    (pf h3 o 0 0 (aL p0.toInt64)).bind (fun h4 =>
    some (.inl none, h4))))) xT) rfl rfl rfl (fun R E => rfl)
-- Chipcardhouse$Card.<init>(ILChipcardhouse$Account;I)V
set_option maxRecDepth 100000 in
theorem lf_1_0 (o : Option (Nat × Nat)) (p0 : Int32) (p1 : Option (Nat × Nat)) (p2 : Int32) (h : Hp) : Ru 1 0 [(0, aR o), (1, aI p0), (2, aR p1), (3, aI p2)] [] h =
    cV (Ex 420 [aR o] h) (fun h1 =>
    (pf h1 o 1 6 (aI (0 : Int32))).bind (fun h2 =>
    (pf h2 o 1 7 (aI (3 : Int32))).bind (fun h3 =>
    (pf h3 o 1 8 (aI (0 : Int32))).bind (fun h4 =>
    (pf h4 o 1 9 (aI (0 : Int32))).bind (fun h5 =>
    (pf h5 o 1 10 (aI (0 : Int32))).bind (fun h6 =>
    (pf h6 o 1 11 (aI (0 : Int32))).bind (fun h7 =>
    (pf h7 o 1 12 (aI (0 : Int32))).bind (fun h8 =>
    (pf h8 o 1 13 (aI (0 : Int32))).bind (fun h9 =>
    (pf h9 o 1 14 (aI (0 : Int32))).bind (fun h10 =>
    (nwa h10 1 1000 (201 : Int32)).bind (fun q11 =>
    (pf q11.2 o 1 15 (aR q11.1)).bind (fun h12 =>
    (nwa h12 2 1000 (201 : Int32)).bind (fun q13 =>
    (pf q13.2 o 1 16 (aR q13.1)).bind (fun h14 =>
    (pf h14 o 1 0 (aI p0)).bind (fun h15 =>
    (pf h15 o 1 1 (aR p1)).bind (fun h16 =>
    (pf h16 o 1 2 (aI p2)).bind (fun h17 =>
    (pf h17 o 1 3 (aI (imod (((((271 : Int32) * p0) * p0) + ((7919 : Int32) * p0)) + (4242 : Int32)) (9973 : Int32)))).bind (fun h18 =>
    some (.inl none, h18))))))))))))))))))) xT :=
  lift_of (k := 63) (rows := code_1) (cuts := cut_1) (hs := hdl_1) (r := fun R E =>
    cV (E 420 [aR o] h) (fun h1 =>
    (pf h1 o 1 6 (aI (0 : Int32))).bind (fun h2 =>
    (pf h2 o 1 7 (aI (3 : Int32))).bind (fun h3 =>
    (pf h3 o 1 8 (aI (0 : Int32))).bind (fun h4 =>
    (pf h4 o 1 9 (aI (0 : Int32))).bind (fun h5 =>
    (pf h5 o 1 10 (aI (0 : Int32))).bind (fun h6 =>
    (pf h6 o 1 11 (aI (0 : Int32))).bind (fun h7 =>
    (pf h7 o 1 12 (aI (0 : Int32))).bind (fun h8 =>
    (pf h8 o 1 13 (aI (0 : Int32))).bind (fun h9 =>
    (pf h9 o 1 14 (aI (0 : Int32))).bind (fun h10 =>
    (nwa h10 1 1000 (201 : Int32)).bind (fun q11 =>
    (pf q11.2 o 1 15 (aR q11.1)).bind (fun h12 =>
    (nwa h12 2 1000 (201 : Int32)).bind (fun q13 =>
    (pf q13.2 o 1 16 (aR q13.1)).bind (fun h14 =>
    (pf h14 o 1 0 (aI p0)).bind (fun h15 =>
    (pf h15 o 1 1 (aR p1)).bind (fun h16 =>
    (pf h16 o 1 2 (aI p2)).bind (fun h17 =>
    (pf h17 o 1 3 (aI (imod (((((271 : Int32) * p0) * p0) + ((7919 : Int32) * p0)) + (4242 : Int32)) (9973 : Int32)))).bind (fun h18 =>
    some (.inl none, h18))))))))))))))))))) xT) rfl rfl rfl (fun R E => rfl)
-- Chipcardhouse$Card.stamp(IIII)I
set_option maxRecDepth 100000 in
theorem lf_2_0 (o : Option (Nat × Nat)) (p0 : Int32) (p1 : Int32) (p2 : Int32) (p3 : Int32) (h : Hp) : Ru 2 0 [(0, aR o), (1, aI p0), (2, aI p1), (3, aI p2), (4, aI p3)] [] h =
    (gfI h o 1 3).bind (fun x1 =>
    some (.inl (some (aI (lmod ((((lmod ((((lmod ((((lmod (((x1.toInt64 * (37 : Int64)) + p0.toInt64) + (11 : Int64)) (999983 : Int64)) * (37 : Int64)) + p1.toInt64) + (11 : Int64)) (999983 : Int64)) * (37 : Int64)) + p2.toInt64) + (11 : Int64)) (999983 : Int64)) * (37 : Int64)) + p3.toInt64) + (11 : Int64)) (999983 : Int64)).toInt32)), h)) :=
  lift_of (k := 52) (rows := code_2) (cuts := cut_2) (hs := hdl_2) (r := fun R E =>
    (gfI h o 1 3).bind (fun x1 =>
    some (.inl (some (aI (lmod ((((lmod ((((lmod ((((lmod (((x1.toInt64 * (37 : Int64)) + p0.toInt64) + (11 : Int64)) (999983 : Int64)) * (37 : Int64)) + p1.toInt64) + (11 : Int64)) (999983 : Int64)) * (37 : Int64)) + p2.toInt64) + (11 : Int64)) (999983 : Int64)) * (37 : Int64)) + p3.toInt64) + (11 : Int64)) (999983 : Int64)).toInt32)), h))) rfl rfl rfl (fun R E => rfl)
-- Chipcardhouse$Card.reasonAgainst(II)I
set_option maxRecDepth 100000 in
theorem lf_3_0 (o : Option (Nat × Nat)) (p0 : Int32) (p1 : Int32) (h : Hp) : Ru 3 0 [(0, aR o), (1, aI p0), (2, aI p1)] [] h =
    (gfI h o 1 11).bind (fun x1 =>
    if x1 = 0 then
      if p1 = (-1 : Int32) then
        if (2500 : Int32) < p0 then
          some (.inl (some (aI (4 : Int32))), h)
        else
          (gfI h o 1 8).bind (fun x2 =>
          if x2 < (5 : Int32) then
            some (.inl (some (aI (0 : Int32))), h)
          else
            some (.inl (some (aI (4 : Int32))), h))
      else
        (gfI h o 1 7).bind (fun x3 =>
        if 0 < x3 then
          (gfI h o 1 2).bind (fun x4 =>
          if p1 = x4 then
            some (.inl (some (aI (0 : Int32))), h)
          else
            (gfI h o 1 7).bind (fun x5 =>
            (pf h o 1 7 (aI (x5 - (1 : Int32)))).bind (fun h6 =>
            some (.inl (some (aI (3 : Int32))), h6))))
        else
          some (.inl (some (aI (2 : Int32))), h))
    else
      some (.inl (some (aI (1 : Int32))), h)) :=
  lift_of (k := 22) (rows := code_3) (cuts := cut_3) (hs := hdl_3) (r := fun R E =>
    (gfI h o 1 11).bind (fun x1 =>
    if x1 = 0 then
      if p1 = (-1 : Int32) then
        if (2500 : Int32) < p0 then
          some (.inl (some (aI (4 : Int32))), h)
        else
          (gfI h o 1 8).bind (fun x2 =>
          if x2 < (5 : Int32) then
            some (.inl (some (aI (0 : Int32))), h)
          else
            some (.inl (some (aI (4 : Int32))), h))
      else
        (gfI h o 1 7).bind (fun x3 =>
        if 0 < x3 then
          (gfI h o 1 2).bind (fun x4 =>
          if p1 = x4 then
            some (.inl (some (aI (0 : Int32))), h)
          else
            (gfI h o 1 7).bind (fun x5 =>
            (pf h o 1 7 (aI (x5 - (1 : Int32)))).bind (fun h6 =>
            some (.inl (some (aI (3 : Int32))), h6))))
        else
          some (.inl (some (aI (2 : Int32))), h))
    else
      some (.inl (some (aI (1 : Int32))), h))) rfl rfl rfl (fun R E => rfl)
-- Chipcardhouse$Card.countUp(I)V
set_option maxRecDepth 100000 in
theorem lf_4_0 (o : Option (Nat × Nat)) (p0 : Int32) (h : Hp) : Ru 4 0 [(0, aR o), (1, aI p0)] [] h =
    if p0 = (-1 : Int32) then
      (gfI h o 1 8).bind (fun x1 =>
      (pf h o 1 8 (aI (x1 + (1 : Int32)))).bind (fun h2 =>
      (gfI h2 o 1 6).bind (fun x3 =>
      (pf h2 o 1 6 (aI (x3 + (1 : Int32)))).bind (fun h4 =>
      some (.inl none, h4)))))
    else
      (pf h o 1 7 (aI (3 : Int32))).bind (fun h5 =>
      (pf h5 o 1 8 (aI (0 : Int32))).bind (fun h6 =>
      (gfI h6 o 1 6).bind (fun x7 =>
      (pf h6 o 1 6 (aI (x7 + (1 : Int32)))).bind (fun h8 =>
      some (.inl none, h8))))) :=
  lift_of (k := 18) (rows := code_4) (cuts := cut_4) (hs := hdl_4) (r := fun R E =>
    if p0 = (-1 : Int32) then
      (gfI h o 1 8).bind (fun x1 =>
      (pf h o 1 8 (aI (x1 + (1 : Int32)))).bind (fun h2 =>
      (gfI h2 o 1 6).bind (fun x3 =>
      (pf h2 o 1 6 (aI (x3 + (1 : Int32)))).bind (fun h4 =>
      some (.inl none, h4)))))
    else
      (pf h o 1 7 (aI (3 : Int32))).bind (fun h5 =>
      (pf h5 o 1 8 (aI (0 : Int32))).bind (fun h6 =>
      (gfI h6 o 1 6).bind (fun x7 =>
      (pf h6 o 1 6 (aI (x7 + (1 : Int32)))).bind (fun h8 =>
      some (.inl none, h8)))))) rfl rfl rfl (fun R E => rfl)
-- Chipcardhouse$Card.grantAlone(I)Z
set_option maxRecDepth 100000 in
theorem lf_5_0 (o : Option (Nat × Nat)) (p0 : Int32) (h : Hp) : Ru 5 0 [(0, aR o), (1, aI p0)] [] h =
    (gfI h o 1 9).bind (fun x1 =>
    (gfI h o 1 4).bind (fun x2 =>
    if x2 ≤ x1 then
      some (.inl (some (aI (0 : Int32))), h)
    else
      (gfI h o 1 10).bind (fun x3 =>
      (gfI h o 1 5).bind (fun x4 =>
      if (x3 + p0) ≤ x4 then
        (gfI h o 1 9).bind (fun x5 =>
        (pf h o 1 9 (aI (x5 + (1 : Int32)))).bind (fun h6 =>
        (gfI h6 o 1 10).bind (fun x7 =>
        (pf h6 o 1 10 (aI (x7 + p0))).bind (fun h8 =>
        some (.inl (some (aI (1 : Int32))), h8)))))
      else
        some (.inl (some (aI (0 : Int32))), h))))) :=
  lift_of (k := 27) (rows := code_5) (cuts := cut_5) (hs := hdl_5) (r := fun R E =>
    (gfI h o 1 9).bind (fun x1 =>
    (gfI h o 1 4).bind (fun x2 =>
    if x2 ≤ x1 then
      some (.inl (some (aI (0 : Int32))), h)
    else
      (gfI h o 1 10).bind (fun x3 =>
      (gfI h o 1 5).bind (fun x4 =>
      if (x3 + p0) ≤ x4 then
        (gfI h o 1 9).bind (fun x5 =>
        (pf h o 1 9 (aI (x5 + (1 : Int32)))).bind (fun h6 =>
        (gfI h6 o 1 10).bind (fun x7 =>
        (pf h6 o 1 10 (aI (x7 + p0))).bind (fun h8 =>
        some (.inl (some (aI (1 : Int32))), h8)))))
      else
        some (.inl (some (aI (0 : Int32))), h)))))) rfl rfl rfl (fun R E => rfl)
-- Chipcardhouse$Card.beginAnew()V
set_option maxRecDepth 100000 in
theorem lf_6_0 (o : Option (Nat × Nat)) (h : Hp) : Ru 6 0 [(0, aR o)] [] h =
    (pf h o 1 9 (aI (0 : Int32))).bind (fun h1 =>
    (pf h1 o 1 10 (aI (0 : Int32))).bind (fun h2 =>
    (pf h2 o 1 8 (aI (0 : Int32))).bind (fun h3 =>
    some (.inl none, h3)))) :=
  lift_of (k := 11) (rows := code_6) (cuts := cut_6) (hs := hdl_6) (r := fun R E =>
    (pf h o 1 9 (aI (0 : Int32))).bind (fun h1 =>
    (pf h1 o 1 10 (aI (0 : Int32))).bind (fun h2 =>
    (pf h2 o 1 8 (aI (0 : Int32))).bind (fun h3 =>
    some (.inl none, h3))))) rfl rfl rfl (fun R E => rfl)
-- Chipcardhouse$Card.doTold(I)V
set_option maxRecDepth 100000 in
theorem lf_7_0 (o : Option (Nat × Nat)) (p0 : Int32) (h : Hp) : Ru 7 0 [(0, aR o), (1, aI p0)] [] h =
    if (p0 &&& (2 : Int32)) = 0 then
      if (p0 &&& (4 : Int32)) = 0 then
        if (p0 &&& (8 : Int32)) = 0 then
          some (.inl none, h)
        else
          (pf h o 1 4 (aI (0 : Int32))).bind (fun h1 =>
          some (.inl none, h1))
      else
        (pf h o 1 11 (aI (1 : Int32))).bind (fun h2 =>
        if (p0 &&& (8 : Int32)) = 0 then
          some (.inl none, h2)
        else
          (pf h2 o 1 4 (aI (0 : Int32))).bind (fun h3 =>
          some (.inl none, h3)))
    else
      (pf h o 1 7 (aI (3 : Int32))).bind (fun h4 =>
      if (p0 &&& (4 : Int32)) = 0 then
        if (p0 &&& (8 : Int32)) = 0 then
          some (.inl none, h4)
        else
          (pf h4 o 1 4 (aI (0 : Int32))).bind (fun h5 =>
          some (.inl none, h5))
      else
        (pf h4 o 1 11 (aI (1 : Int32))).bind (fun h6 =>
        if (p0 &&& (8 : Int32)) = 0 then
          some (.inl none, h6)
        else
          (pf h6 o 1 4 (aI (0 : Int32))).bind (fun h7 =>
          some (.inl none, h7)))) :=
  lift_of (k := 23) (rows := code_7) (cuts := cut_7) (hs := hdl_7) (r := fun R E =>
    if (p0 &&& (2 : Int32)) = 0 then
      if (p0 &&& (4 : Int32)) = 0 then
        if (p0 &&& (8 : Int32)) = 0 then
          some (.inl none, h)
        else
          (pf h o 1 4 (aI (0 : Int32))).bind (fun h1 =>
          some (.inl none, h1))
      else
        (pf h o 1 11 (aI (1 : Int32))).bind (fun h2 =>
        if (p0 &&& (8 : Int32)) = 0 then
          some (.inl none, h2)
        else
          (pf h2 o 1 4 (aI (0 : Int32))).bind (fun h3 =>
          some (.inl none, h3)))
    else
      (pf h o 1 7 (aI (3 : Int32))).bind (fun h4 =>
      if (p0 &&& (4 : Int32)) = 0 then
        if (p0 &&& (8 : Int32)) = 0 then
          some (.inl none, h4)
        else
          (pf h4 o 1 4 (aI (0 : Int32))).bind (fun h5 =>
          some (.inl none, h5))
      else
        (pf h4 o 1 11 (aI (1 : Int32))).bind (fun h6 =>
        if (p0 &&& (8 : Int32)) = 0 then
          some (.inl none, h6)
        else
          (pf h6 o 1 4 (aI (0 : Int32))).bind (fun h7 =>
          some (.inl none, h7))))) rfl rfl rfl (fun R E => rfl)
-- Chipcardhouse$Card.wasHeardOfAnother(LChipcardhouse$Message;)Z
set_option maxRecDepth 100000 in
theorem lf_8_0 (o : Option (Nat × Nat)) (p0 : Option (Nat × Nat)) (h : Hp) : Ru 8 0 [(0, aR o), (1, aR p0)] [] h =
    (gfI h p0 6 4).bind (fun x1 =>
    if x1 < 0 then
      some (.inl (some (aI (0 : Int32))), h)
    else
      (gfR h o 1 15).bind (fun x2 =>
      (len h x2).bind (fun x3 =>
      if x3 ≤ x1 then
        some (.inl (some (aI (0 : Int32))), h)
      else
        (gfR h o 1 15).bind (fun x4 =>
        (gaI h x4 1000 x1).bind (fun x5 =>
        if x5 = 0 then
          some (.inl (some (aI (0 : Int32))), h)
        else
          (gfR h o 1 15).bind (fun x6 =>
          (gaI h x6 1000 x1).bind (fun x7 =>
          (gfI h p0 6 1).bind (fun x8 =>
          if x7 = (x8 + (1 : Int32)) then
            some (.inl (some (aI (0 : Int32))), h)
          else
            some (.inl (some (aI (1 : Int32))), h))))))))) :=
  lift_of (k := 28) (rows := code_8) (cuts := cut_8) (hs := hdl_8) (r := fun R E =>
    (gfI h p0 6 4).bind (fun x1 =>
    if x1 < 0 then
      some (.inl (some (aI (0 : Int32))), h)
    else
      (gfR h o 1 15).bind (fun x2 =>
      (len h x2).bind (fun x3 =>
      if x3 ≤ x1 then
        some (.inl (some (aI (0 : Int32))), h)
      else
        (gfR h o 1 15).bind (fun x4 =>
        (gaI h x4 1000 x1).bind (fun x5 =>
        if x5 = 0 then
          some (.inl (some (aI (0 : Int32))), h)
        else
          (gfR h o 1 15).bind (fun x6 =>
          (gaI h x6 1000 x1).bind (fun x7 =>
          (gfI h p0 6 1).bind (fun x8 =>
          if x7 = (x8 + (1 : Int32)) then
            some (.inl (some (aI (0 : Int32))), h)
          else
            some (.inl (some (aI (1 : Int32))), h)))))))))) rfl rfl rfl (fun R E => rfl)
-- Chipcardhouse$Card.hearCounter(LChipcardhouse$Message;)V
set_option maxRecDepth 100000 in
theorem lf_9_0 (o : Option (Nat × Nat)) (p0 : Option (Nat × Nat)) (h : Hp) : Ru 9 0 [(0, aR o), (1, aR p0)] [] h =
    (gfI h p0 6 4).bind (fun x1 =>
    if x1 < 0 then
      some (.inl none, h)
    else
      (gfR h o 1 15).bind (fun x2 =>
      (len h x2).bind (fun x3 =>
      if x3 ≤ x1 then
        some (.inl none, h)
      else
        (gfR h o 1 15).bind (fun x4 =>
        (gaI h x4 1000 x1).bind (fun x5 =>
        if x5 = 0 then
          (gfR h o 1 15).bind (fun x6 =>
          (gfI h p0 6 1).bind (fun x7 =>
          (pa h x6 1000 x1 (aI (x7 + (1 : Int32)))).bind (fun h8 =>
          (gfI h8 o 1 14).bind (fun x9 =>
          (pf h8 o 1 14 (aI (x9 + (1 : Int32)))).bind (fun h10 =>
          some (.inl none, h10))))))
        else
          some (.inl none, h)))))) :=
  lift_of (k := 31) (rows := code_9) (cuts := cut_9) (hs := hdl_9) (r := fun R E =>
    (gfI h p0 6 4).bind (fun x1 =>
    if x1 < 0 then
      some (.inl none, h)
    else
      (gfR h o 1 15).bind (fun x2 =>
      (len h x2).bind (fun x3 =>
      if x3 ≤ x1 then
        some (.inl none, h)
      else
        (gfR h o 1 15).bind (fun x4 =>
        (gaI h x4 1000 x1).bind (fun x5 =>
        if x5 = 0 then
          (gfR h o 1 15).bind (fun x6 =>
          (gfI h p0 6 1).bind (fun x7 =>
          (pa h x6 1000 x1 (aI (x7 + (1 : Int32)))).bind (fun h8 =>
          (gfI h8 o 1 14).bind (fun x9 =>
          (pf h8 o 1 14 (aI (x9 + (1 : Int32)))).bind (fun h10 =>
          some (.inl none, h10))))))
        else
          some (.inl none, h))))))) rfl rfl rfl (fun R E => rfl)
-- Chipcardhouse$Card.postedWith(I)I
set_option maxRecDepth 100000 in
theorem lf_10_0 (o : Option (Nat × Nat)) (p0 : Int32) (h : Hp) : Ru 10 0 [(0, aR o), (1, aI p0)] [] h =
    if p0 < 0 then
      if (0 : Int32) = 0 then
        some (.inl (some (aI (-1 : Int32))), h)
      else
        (gfR h o 1 16).bind (fun x1 =>
        (gaI h x1 1000 p0).bind (fun x2 =>
        some (.inl (some (aI (x2 - (1 : Int32)))), h)))
    else
      (gfR h o 1 16).bind (fun x3 =>
      (len h x3).bind (fun x4 =>
      if x4 ≤ p0 then
        if (0 : Int32) = 0 then
          some (.inl (some (aI (-1 : Int32))), h)
        else
          (gfR h o 1 16).bind (fun x5 =>
          (gaI h x5 1000 p0).bind (fun x6 =>
          some (.inl (some (aI (x6 - (1 : Int32)))), h)))
      else
        if (1 : Int32) = 0 then
          some (.inl (some (aI (-1 : Int32))), h)
        else
          (gfR h o 1 16).bind (fun x7 =>
          (gaI h x7 1000 p0).bind (fun x8 =>
          some (.inl (some (aI (x8 - (1 : Int32)))), h))))) :=
  lift_of (k := 21) (rows := code_10) (cuts := cut_10) (hs := hdl_10) (r := fun R E =>
    if p0 < 0 then
      if (0 : Int32) = 0 then
        some (.inl (some (aI (-1 : Int32))), h)
      else
        (gfR h o 1 16).bind (fun x1 =>
        (gaI h x1 1000 p0).bind (fun x2 =>
        some (.inl (some (aI (x2 - (1 : Int32)))), h)))
    else
      (gfR h o 1 16).bind (fun x3 =>
      (len h x3).bind (fun x4 =>
      if x4 ≤ p0 then
        if (0 : Int32) = 0 then
          some (.inl (some (aI (-1 : Int32))), h)
        else
          (gfR h o 1 16).bind (fun x5 =>
          (gaI h x5 1000 p0).bind (fun x6 =>
          some (.inl (some (aI (x6 - (1 : Int32)))), h)))
      else
        if (1 : Int32) = 0 then
          some (.inl (some (aI (-1 : Int32))), h)
        else
          (gfR h o 1 16).bind (fun x7 =>
          (gaI h x7 1000 p0).bind (fun x8 =>
          some (.inl (some (aI (x8 - (1 : Int32)))), h)))))) rfl rfl rfl (fun R E => rfl)
-- Chipcardhouse$Card.postWith(LChipcardhouse$Message;)V
set_option maxRecDepth 100000 in
theorem lf_11_0 (o : Option (Nat × Nat)) (p0 : Option (Nat × Nat)) (h : Hp) : Ru 11 0 [(0, aR o), (1, aR p0)] [] h =
    (gfI h p0 6 4).bind (fun x1 =>
    if x1 < 0 then
      some (.inl none, h)
    else
      (gfI h p0 6 4).bind (fun x2 =>
      (gfR h o 1 16).bind (fun x3 =>
      (len h x3).bind (fun x4 =>
      if x4 ≤ x2 then
        some (.inl none, h)
      else
        (gfR h o 1 16).bind (fun x5 =>
        (gfI h p0 6 4).bind (fun x6 =>
        (gfI h p0 6 1).bind (fun x7 =>
        (pa h x5 1000 x6 (aI (x7 + (1 : Int32)))).bind (fun h8 =>
        some (.inl none, h8))))))))) :=
  lift_of (k := 20) (rows := code_11) (cuts := cut_11) (hs := hdl_11) (r := fun R E =>
    (gfI h p0 6 4).bind (fun x1 =>
    if x1 < 0 then
      some (.inl none, h)
    else
      (gfI h p0 6 4).bind (fun x2 =>
      (gfR h o 1 16).bind (fun x3 =>
      (len h x3).bind (fun x4 =>
      if x4 ≤ x2 then
        some (.inl none, h)
      else
        (gfR h o 1 16).bind (fun x5 =>
        (gfI h p0 6 4).bind (fun x6 =>
        (gfI h p0 6 1).bind (fun x7 =>
        (pa h x5 1000 x6 (aI (x7 + (1 : Int32)))).bind (fun h8 =>
        some (.inl none, h8)))))))))) rfl rfl rfl (fun R E => rfl)
-- Chipcardhouse$Clock.<init>()V
set_option maxRecDepth 100000 in
theorem lf_12_0 (o : Option (Nat × Nat)) (h : Hp) : Ru 12 0 [(0, aR o)] [] h =
    cV (Ex 420 [aR o] h) (fun h1 =>
    (pf h1 o 2 0 (aI (0 : Int32))).bind (fun h2 =>
    (pf h2 o 2 1 (aI (0 : Int32))).bind (fun h3 =>
    (pf h3 o 2 2 (aI (1 : Int32))).bind (fun h4 =>
    some (.inl none, h4))))) xT :=
  lift_of (k := 13) (rows := code_12) (cuts := cut_12) (hs := hdl_12) (r := fun R E =>
    cV (E 420 [aR o] h) (fun h1 =>
    (pf h1 o 2 0 (aI (0 : Int32))).bind (fun h2 =>
    (pf h2 o 2 1 (aI (0 : Int32))).bind (fun h3 =>
    (pf h3 o 2 2 (aI (1 : Int32))).bind (fun h4 =>
    some (.inl none, h4))))) xT) rfl rfl rfl (fun R E => rfl)
-- Chipcardhouse$Issuer.<init>(Ljava/util/ArrayList;LChipcardhouse$Clock;)V
set_option maxRecDepth 100000 in
theorem lf_13_0 (o : Option (Nat × Nat)) (p0 : Option (Nat × Nat)) (p1 : Option (Nat × Nat)) (h : Hp) : Ru 13 0 [(0, aR o), (1, aR p0), (2, aR p1)] [] h =
    cV (Ex 420 [aR o] h) (fun h1 =>
    (nwa h1 3 1015 (1000 : Int32)).bind (fun q2 =>
    (pf q2.2 o 3 2 (aR q2.1)).bind (fun h3 =>
    (pf h3 o 3 3 (aI (0 : Int32))).bind (fun h4 =>
    (pf h4 o 3 4 (aI (0 : Int32))).bind (fun h5 =>
    (pf h5 o 3 0 (aR p0)).bind (fun h6 =>
    (pf h6 o 3 1 (aR p1)).bind (fun h7 =>
    some (.inl none, h7)))))))) xT :=
  lift_of (k := 20) (rows := code_13) (cuts := cut_13) (hs := hdl_13) (r := fun R E =>
    cV (E 420 [aR o] h) (fun h1 =>
    (nwa h1 3 1015 (1000 : Int32)).bind (fun q2 =>
    (pf q2.2 o 3 2 (aR q2.1)).bind (fun h3 =>
    (pf h3 o 3 3 (aI (0 : Int32))).bind (fun h4 =>
    (pf h4 o 3 4 (aI (0 : Int32))).bind (fun h5 =>
    (pf h5 o 3 0 (aR p0)).bind (fun h6 =>
    (pf h6 o 3 1 (aR p1)).bind (fun h7 =>
    some (.inl none, h7)))))))) xT) rfl rfl rfl (fun R E => rfl)
-- Chipcardhouse$Issuer.find(I)LChipcardhouse$Known;
set_option maxRecDepth 100000 in
theorem lf_14_0 (o : Option (Nat × Nat)) (p0 : Int32) (h : Hp) : Ru 14 0 [(0, aR o), (1, aI p0)] [] h =
    if p0 < 0 then
      some (.inl (some (aR none)), h)
    else
      (gfR h o 3 2).bind (fun x1 =>
      (len h x1).bind (fun x2 =>
      if x2 ≤ p0 then
        some (.inl (some (aR none)), h)
      else
        (gfR h o 3 2).bind (fun x3 =>
        (gaR h x3 p0).bind (fun x4 =>
        some (.inl (some (aR x4)), h))))) :=
  lift_of (k := 14) (rows := code_14) (cuts := cut_14) (hs := hdl_14) (r := fun R E =>
    if p0 < 0 then
      some (.inl (some (aR none)), h)
    else
      (gfR h o 3 2).bind (fun x1 =>
      (len h x1).bind (fun x2 =>
      if x2 ≤ p0 then
        some (.inl (some (aR none)), h)
      else
        (gfR h o 3 2).bind (fun x3 =>
        (gaR h x3 p0).bind (fun x4 =>
        some (.inl (some (aR x4)), h)))))) rfl rfl rfl (fun R E => rfl)
-- Chipcardhouse$Issuer.findOrMake(I)LChipcardhouse$Known;
set_option maxRecDepth 100000 in
theorem lf_15_0 (o : Option (Nat × Nat)) (p0 : Int32) (h : Hp) : Ru 15 0 [(0, aR o), (1, aI p0)] [] h =
    if p0 < 0 then
      some (.inl (some (aR none)), h)
    else
      (gfR h o 3 2).bind (fun x1 =>
      (len h x1).bind (fun x2 =>
      if p0 < x2 then
        (gfR h o 3 2).bind (fun x3 =>
        (gaR h x3 p0).bind (fun x4 =>
        if x4 = none then
          (gfR h o 3 2).bind (fun x5 =>
          cV (Ex 28 [aR (nob h 4 4 [4, 4, 4, 0, 4, 0, 0, 0, 4, 4, 4, 0, 0]).1] (nob h 4 4 [4, 4, 4, 0, 4, 0, 0, 0, 4, 4, 4, 0, 0]).2) (fun h6 =>
          (paR h6 x5 p0 (nob h 4 4 [4, 4, 4, 0, 4, 0, 0, 0, 4, 4, 4, 0, 0]).1).bind (fun h7 =>
          (gfR h7 o 3 2).bind (fun x8 =>
          (gaR h7 x8 p0).bind (fun x9 =>
          some (.inl (some (aR x9)), h7))))) xT)
        else
          (gfR h o 3 2).bind (fun x10 =>
          (gaR h x10 p0).bind (fun x11 =>
          some (.inl (some (aR x11)), h)))))
      else
        some (.inl (some (aR none)), h))) :=
  lift_of (k := 25) (rows := code_15) (cuts := cut_15) (hs := hdl_15) (r := fun R E =>
    if p0 < 0 then
      some (.inl (some (aR none)), h)
    else
      (gfR h o 3 2).bind (fun x1 =>
      (len h x1).bind (fun x2 =>
      if p0 < x2 then
        (gfR h o 3 2).bind (fun x3 =>
        (gaR h x3 p0).bind (fun x4 =>
        if x4 = none then
          (gfR h o 3 2).bind (fun x5 =>
          cV (E 28 [aR (nob h 4 4 [4, 4, 4, 0, 4, 0, 0, 0, 4, 4, 4, 0, 0]).1] (nob h 4 4 [4, 4, 4, 0, 4, 0, 0, 0, 4, 4, 4, 0, 0]).2) (fun h6 =>
          (paR h6 x5 p0 (nob h 4 4 [4, 4, 4, 0, 4, 0, 0, 0, 4, 4, 4, 0, 0]).1).bind (fun h7 =>
          (gfR h7 o 3 2).bind (fun x8 =>
          (gaR h7 x8 p0).bind (fun x9 =>
          some (.inl (some (aR x9)), h7))))) xT)
        else
          (gfR h o 3 2).bind (fun x10 =>
          (gaR h x10 p0).bind (fun x11 =>
          some (.inl (some (aR x11)), h)))))
      else
        some (.inl (some (aR none)), h)))) rfl rfl rfl (fun R E => rfl)
-- Chipcardhouse$Issuer.findCard(I)LChipcardhouse$Card;
set_option maxRecDepth 100000 in
theorem lf_16_0 (o : Option (Nat × Nat)) (p0 : Int32) (h : Hp) : Ru 16 0 [(0, aR o), (1, aI p0)] [] h =
    if p0 < 0 then
      some (.inl (some (aR none)), h)
    else
      (gfR h o 3 0).bind (fun x1 =>
      cI (Ex 405 [aR x1] h) (fun x3 h2 =>
      if x3 ≤ p0 then
        some (.inl (some (aR none)), h2)
      else
        (gfR h2 o 3 0).bind (fun x4 =>
        cR (Ex 402 [aR x4, aI p0] h2) (fun x6 h5 =>
        acc x6 1 h5 (
        some (.inl (some (aR x6)), h5))) xT)) xT) :=
  lift_of (k := 15) (rows := code_16) (cuts := cut_16) (hs := hdl_16) (r := fun R E =>
    if p0 < 0 then
      some (.inl (some (aR none)), h)
    else
      (gfR h o 3 0).bind (fun x1 =>
      cI (E 405 [aR x1] h) (fun x3 h2 =>
      if x3 ≤ p0 then
        some (.inl (some (aR none)), h2)
      else
        (gfR h2 o 3 0).bind (fun x4 =>
        cR (E 402 [aR x4, aI p0] h2) (fun x6 h5 =>
        acc x6 1 h5 (
        some (.inl (some (aR x6)), h5))) xT)) xT)) rfl rfl rfl (fun R E => rfl)
-- Chipcardhouse$Issuer.hasPosted(I)Z
set_option maxRecDepth 100000 in
theorem lf_17_0 (o : Option (Nat × Nat)) (p0 : Int32) (h : Hp) : Ru 17 0 [(0, aR o), (1, aI p0)] [] h =
    cR (Ex 14 [aR o, aI p0] h) (fun x2 h1 =>
    if x2 = none then
      some (.inl (some (aI (0 : Int32))), h1)
    else
      cI (Ex 29 [aR x2] h1) (fun x4 h3 =>
      if x4 = 0 then
        some (.inl (some (aI (0 : Int32))), h3)
      else
        some (.inl (some (aI (1 : Int32))), h3)) xT) xT :=
  lift_of (k := 13) (rows := code_17) (cuts := cut_17) (hs := hdl_17) (r := fun R E =>
    cR (E 14 [aR o, aI p0] h) (fun x2 h1 =>
    if x2 = none then
      some (.inl (some (aI (0 : Int32))), h1)
    else
      cI (E 29 [aR x2] h1) (fun x4 h3 =>
      if x4 = 0 then
        some (.inl (some (aI (0 : Int32))), h3)
      else
        some (.inl (some (aI (1 : Int32))), h3)) xT) xT) rfl rfl rfl (fun R E => rfl)
-- Chipcardhouse$Issuer.hear(LChipcardhouse$Message;LChipcardhouse$Terminal;)V
set_option maxRecDepth 100000 in
theorem lf_18_0 (o : Option (Nat × Nat)) (p0 : Option (Nat × Nat)) (p1 : Option (Nat × Nat)) (h : Hp) : Ru 18 0 [(0, aR o), (1, aR p0), (2, aR p1)] [] h =
    (gfI h p0 6 1).bind (fun x1 =>
    cR (Ex 15 [aR o, aI x1] h) (fun x3 h2 =>
    if x3 = none then
      some (.inl none, h2)
    else
      (gfI h2 p0 6 0).bind (fun x4 =>
      if x4 = (2 : Int32) then
        cV (Ex 32 [aR x3] h2) (fun h5 =>
        some (.inl none, h5)) xT
      else
        (gfI h2 p0 6 0).bind (fun x6 =>
        if x6 = (3 : Int32) then
          cV (Ex 22 [aR o, aR p0, aR x3, aR p1] h2) (fun h7 =>
          some (.inl none, h7)) xT
        else
          (gfI h2 p0 6 11).bind (fun x8 =>
          cI (Ex 67 [aR p1, aI x8] h2) (fun x10 h9 =>
          if x10 = 0 then
            some (.inl none, h9)
          else
            (gfI h9 p0 6 5).bind (fun x11 =>
            cV (Ex 34 [aR x3, aI x11, aR p1] h9) (fun h12 =>
            some (.inl none, h12)) xT)) xT)))) xT) :=
  lift_of (k := 27) (rows := code_18) (cuts := cut_18) (hs := hdl_18) (r := fun R E =>
    (gfI h p0 6 1).bind (fun x1 =>
    cR (E 15 [aR o, aI x1] h) (fun x3 h2 =>
    if x3 = none then
      some (.inl none, h2)
    else
      (gfI h2 p0 6 0).bind (fun x4 =>
      if x4 = (2 : Int32) then
        cV (E 32 [aR x3] h2) (fun h5 =>
        some (.inl none, h5)) xT
      else
        (gfI h2 p0 6 0).bind (fun x6 =>
        if x6 = (3 : Int32) then
          cV (E 22 [aR o, aR p0, aR x3, aR p1] h2) (fun h7 =>
          some (.inl none, h7)) xT
        else
          (gfI h2 p0 6 11).bind (fun x8 =>
          cI (E 67 [aR p1, aI x8] h2) (fun x10 h9 =>
          if x10 = 0 then
            some (.inl none, h9)
          else
            (gfI h9 p0 6 5).bind (fun x11 =>
            cV (E 34 [aR x3, aI x11, aR p1] h9) (fun h12 =>
            some (.inl none, h12)) xT)) xT)))) xT)) rfl rfl rfl (fun R E => rfl)
-- Chipcardhouse$Issuer.answerTo(LChipcardhouse$Message;)LChipcardhouse$Message;
set_option maxRecDepth 100000 in
theorem lf_19_0 (o : Option (Nat × Nat)) (p0 : Option (Nat × Nat)) (h : Hp) : Ru 19 0 [(0, aR o), (1, aR p0)] [] h =
    (gfI h p0 6 1).bind (fun x1 =>
    cR (Ex 15 [aR o, aI x1] h) (fun x3 h2 =>
    if x3 = none then
      (gfI h2 p0 6 2).bind (fun x4 =>
      cR (Ex 16 [aR o, aI x4] h2) (fun x6 h5 =>
      cI (Ex 20 [aR p0, aR x3, aR x6] h5) (fun x8 h7 =>
      (gfI (nob h7 5 6 [0, 0, 0, 0, 0, 0, 0, 0, 0, 0, 0, 0, 0, 0, 0]).2 p0 6 1).bind (fun x9 =>
      cV (Ex 40 [aR (nob h7 5 6 [0, 0, 0, 0, 0, 0, 0, 0, 0, 0, 0, 0, 0, 0, 0]).1, aI (5 : Int32), aI x9] (nob h7 5 6 [0, 0, 0, 0, 0, 0, 0, 0, 0, 0, 0, 0, 0, 0, 0]).2) (fun h10 =>
      (pf h10 (nob h7 5 6 [0, 0, 0, 0, 0, 0, 0, 0, 0, 0, 0, 0, 0, 0, 0]).1 6 7 (aI (1 : Int32))).bind (fun h11 =>
      if x8 = 0 then
        (pf h11 (nob h7 5 6 [0, 0, 0, 0, 0, 0, 0, 0, 0, 0, 0, 0, 0, 0, 0]).1 6 8 (aI (1 : Int32))).bind (fun h12 =>
        (pf h12 (nob h7 5 6 [0, 0, 0, 0, 0, 0, 0, 0, 0, 0, 0, 0, 0, 0, 0]).1 6 9 (aI x8)).bind (fun h13 =>
        if x6 = none then
          Ru 19 124 [(1, aR p0), (2, aR x3), (3, aR x6), (4, aI x8), (5, aR (nob h7 5 6 [0, 0, 0, 0, 0, 0, 0, 0, 0, 0, 0, 0, 0, 0, 0]).1)] [] h13
        else
          (gfI h13 p0 6 4).bind (fun x14 =>
          (gfI h13 p0 6 5).bind (fun x15 =>
          (gfI h13 p0 6 3).bind (fun x16 =>
          cI (Ex 2 [aR x6, aI x14, aI x15, aI x16, aI (3 : Int32)] h13) (fun x18 h17 =>
          (pf h17 (nob h7 5 6 [0, 0, 0, 0, 0, 0, 0, 0, 0, 0, 0, 0, 0, 0, 0]).1 6 6 (aI x18)).bind (fun h19 =>
          (gfI h19 x6 1 13).bind (fun x20 =>
          (pf h19 (nob h7 5 6 [0, 0, 0, 0, 0, 0, 0, 0, 0, 0, 0, 0, 0, 0, 0]).1 6 10 (aI x20)).bind (fun h21 =>
          (pf h21 x6 1 13 (aI (0 : Int32))).bind (fun h22 =>
          Ru 19 124 [(1, aR p0), (2, aR x3), (3, aR x6), (4, aI x8), (5, aR (nob h7 5 6 [0, 0, 0, 0, 0, 0, 0, 0, 0, 0, 0, 0, 0, 0, 0]).1)] [] h22))))) xT)))))
      else
        (pf h11 (nob h7 5 6 [0, 0, 0, 0, 0, 0, 0, 0, 0, 0, 0, 0, 0, 0, 0]).1 6 8 (aI (2 : Int32))).bind (fun h23 =>
        (pf h23 (nob h7 5 6 [0, 0, 0, 0, 0, 0, 0, 0, 0, 0, 0, 0, 0, 0, 0]).1 6 9 (aI x8)).bind (fun h24 =>
        if x6 = none then
          Ru 19 124 [(1, aR p0), (2, aR x3), (3, aR x6), (4, aI x8), (5, aR (nob h7 5 6 [0, 0, 0, 0, 0, 0, 0, 0, 0, 0, 0, 0, 0, 0, 0]).1)] [] h24
        else
          (gfI h24 p0 6 4).bind (fun x25 =>
          (gfI h24 p0 6 5).bind (fun x26 =>
          (gfI h24 p0 6 3).bind (fun x27 =>
          cI (Ex 2 [aR x6, aI x25, aI x26, aI x27, aI (3 : Int32)] h24) (fun x29 h28 =>
          (pf h28 (nob h7 5 6 [0, 0, 0, 0, 0, 0, 0, 0, 0, 0, 0, 0, 0, 0, 0]).1 6 6 (aI x29)).bind (fun h30 =>
          (gfI h30 x6 1 13).bind (fun x31 =>
          (pf h30 (nob h7 5 6 [0, 0, 0, 0, 0, 0, 0, 0, 0, 0, 0, 0, 0, 0, 0]).1 6 10 (aI x31)).bind (fun h32 =>
          (pf h32 x6 1 13 (aI (0 : Int32))).bind (fun h33 =>
          Ru 19 124 [(1, aR p0), (2, aR x3), (3, aR x6), (4, aI x8), (5, aR (nob h7 5 6 [0, 0, 0, 0, 0, 0, 0, 0, 0, 0, 0, 0, 0, 0, 0]).1)] [] h33))))) xT))))))) xT)) xT) xT)
    else
      (gfR h2 x3 4 1).bind (fun x34 =>
      if x34 = none then
        (gfI h2 p0 6 2).bind (fun x35 =>
        cR (Ex 16 [aR o, aI x35] h2) (fun x37 h36 =>
        cI (Ex 20 [aR p0, aR x3, aR x37] h36) (fun x39 h38 =>
        (gfI (nob h38 5 6 [0, 0, 0, 0, 0, 0, 0, 0, 0, 0, 0, 0, 0, 0, 0]).2 p0 6 1).bind (fun x40 =>
        cV (Ex 40 [aR (nob h38 5 6 [0, 0, 0, 0, 0, 0, 0, 0, 0, 0, 0, 0, 0, 0, 0]).1, aI (5 : Int32), aI x40] (nob h38 5 6 [0, 0, 0, 0, 0, 0, 0, 0, 0, 0, 0, 0, 0, 0, 0]).2) (fun h41 =>
        (pf h41 (nob h38 5 6 [0, 0, 0, 0, 0, 0, 0, 0, 0, 0, 0, 0, 0, 0, 0]).1 6 7 (aI (1 : Int32))).bind (fun h42 =>
        if x39 = 0 then
          (pf h42 (nob h38 5 6 [0, 0, 0, 0, 0, 0, 0, 0, 0, 0, 0, 0, 0, 0, 0]).1 6 8 (aI (1 : Int32))).bind (fun h43 =>
          (pf h43 (nob h38 5 6 [0, 0, 0, 0, 0, 0, 0, 0, 0, 0, 0, 0, 0, 0, 0]).1 6 9 (aI x39)).bind (fun h44 =>
          if x37 = none then
            Ru 19 124 [(1, aR p0), (2, aR x3), (3, aR x37), (4, aI x39), (5, aR (nob h38 5 6 [0, 0, 0, 0, 0, 0, 0, 0, 0, 0, 0, 0, 0, 0, 0]).1)] [] h44
          else
            (gfI h44 p0 6 4).bind (fun x45 =>
            (gfI h44 p0 6 5).bind (fun x46 =>
            (gfI h44 p0 6 3).bind (fun x47 =>
            cI (Ex 2 [aR x37, aI x45, aI x46, aI x47, aI (3 : Int32)] h44) (fun x49 h48 =>
            (pf h48 (nob h38 5 6 [0, 0, 0, 0, 0, 0, 0, 0, 0, 0, 0, 0, 0, 0, 0]).1 6 6 (aI x49)).bind (fun h50 =>
            (gfI h50 x37 1 13).bind (fun x51 =>
            (pf h50 (nob h38 5 6 [0, 0, 0, 0, 0, 0, 0, 0, 0, 0, 0, 0, 0, 0, 0]).1 6 10 (aI x51)).bind (fun h52 =>
            (pf h52 x37 1 13 (aI (0 : Int32))).bind (fun h53 =>
            Ru 19 124 [(1, aR p0), (2, aR x3), (3, aR x37), (4, aI x39), (5, aR (nob h38 5 6 [0, 0, 0, 0, 0, 0, 0, 0, 0, 0, 0, 0, 0, 0, 0]).1)] [] h53))))) xT)))))
        else
          (pf h42 (nob h38 5 6 [0, 0, 0, 0, 0, 0, 0, 0, 0, 0, 0, 0, 0, 0, 0]).1 6 8 (aI (2 : Int32))).bind (fun h54 =>
          (pf h54 (nob h38 5 6 [0, 0, 0, 0, 0, 0, 0, 0, 0, 0, 0, 0, 0, 0, 0]).1 6 9 (aI x39)).bind (fun h55 =>
          if x37 = none then
            Ru 19 124 [(1, aR p0), (2, aR x3), (3, aR x37), (4, aI x39), (5, aR (nob h38 5 6 [0, 0, 0, 0, 0, 0, 0, 0, 0, 0, 0, 0, 0, 0, 0]).1)] [] h55
          else
            (gfI h55 p0 6 4).bind (fun x56 =>
            (gfI h55 p0 6 5).bind (fun x57 =>
            (gfI h55 p0 6 3).bind (fun x58 =>
            cI (Ex 2 [aR x37, aI x56, aI x57, aI x58, aI (3 : Int32)] h55) (fun x60 h59 =>
            (pf h59 (nob h38 5 6 [0, 0, 0, 0, 0, 0, 0, 0, 0, 0, 0, 0, 0, 0, 0]).1 6 6 (aI x60)).bind (fun h61 =>
            (gfI h61 x37 1 13).bind (fun x62 =>
            (pf h61 (nob h38 5 6 [0, 0, 0, 0, 0, 0, 0, 0, 0, 0, 0, 0, 0, 0, 0]).1 6 10 (aI x62)).bind (fun h63 =>
            (pf h63 x37 1 13 (aI (0 : Int32))).bind (fun h64 =>
            Ru 19 124 [(1, aR p0), (2, aR x3), (3, aR x37), (4, aI x39), (5, aR (nob h38 5 6 [0, 0, 0, 0, 0, 0, 0, 0, 0, 0, 0, 0, 0, 0, 0]).1)] [] h64))))) xT))))))) xT)) xT) xT)
      else
        (gfR h2 x3 4 1).bind (fun x65 =>
        some (.inl (some (aR x65)), h2)))) xT) :=
  lift_of (k := 60) (rows := code_19) (cuts := cut_19) (hs := hdl_19) (r := fun R E =>
    (gfI h p0 6 1).bind (fun x1 =>
    cR (E 15 [aR o, aI x1] h) (fun x3 h2 =>
    if x3 = none then
      (gfI h2 p0 6 2).bind (fun x4 =>
      cR (E 16 [aR o, aI x4] h2) (fun x6 h5 =>
      cI (E 20 [aR p0, aR x3, aR x6] h5) (fun x8 h7 =>
      (gfI (nob h7 5 6 [0, 0, 0, 0, 0, 0, 0, 0, 0, 0, 0, 0, 0, 0, 0]).2 p0 6 1).bind (fun x9 =>
      cV (E 40 [aR (nob h7 5 6 [0, 0, 0, 0, 0, 0, 0, 0, 0, 0, 0, 0, 0, 0, 0]).1, aI (5 : Int32), aI x9] (nob h7 5 6 [0, 0, 0, 0, 0, 0, 0, 0, 0, 0, 0, 0, 0, 0, 0]).2) (fun h10 =>
      (pf h10 (nob h7 5 6 [0, 0, 0, 0, 0, 0, 0, 0, 0, 0, 0, 0, 0, 0, 0]).1 6 7 (aI (1 : Int32))).bind (fun h11 =>
      if x8 = 0 then
        (pf h11 (nob h7 5 6 [0, 0, 0, 0, 0, 0, 0, 0, 0, 0, 0, 0, 0, 0, 0]).1 6 8 (aI (1 : Int32))).bind (fun h12 =>
        (pf h12 (nob h7 5 6 [0, 0, 0, 0, 0, 0, 0, 0, 0, 0, 0, 0, 0, 0, 0]).1 6 9 (aI x8)).bind (fun h13 =>
        if x6 = none then
          R 124 [(1, aR p0), (2, aR x3), (3, aR x6), (4, aI x8), (5, aR (nob h7 5 6 [0, 0, 0, 0, 0, 0, 0, 0, 0, 0, 0, 0, 0, 0, 0]).1)] [] h13
        else
          (gfI h13 p0 6 4).bind (fun x14 =>
          (gfI h13 p0 6 5).bind (fun x15 =>
          (gfI h13 p0 6 3).bind (fun x16 =>
          cI (E 2 [aR x6, aI x14, aI x15, aI x16, aI (3 : Int32)] h13) (fun x18 h17 =>
          (pf h17 (nob h7 5 6 [0, 0, 0, 0, 0, 0, 0, 0, 0, 0, 0, 0, 0, 0, 0]).1 6 6 (aI x18)).bind (fun h19 =>
          (gfI h19 x6 1 13).bind (fun x20 =>
          (pf h19 (nob h7 5 6 [0, 0, 0, 0, 0, 0, 0, 0, 0, 0, 0, 0, 0, 0, 0]).1 6 10 (aI x20)).bind (fun h21 =>
          (pf h21 x6 1 13 (aI (0 : Int32))).bind (fun h22 =>
          R 124 [(1, aR p0), (2, aR x3), (3, aR x6), (4, aI x8), (5, aR (nob h7 5 6 [0, 0, 0, 0, 0, 0, 0, 0, 0, 0, 0, 0, 0, 0, 0]).1)] [] h22))))) xT)))))
      else
        (pf h11 (nob h7 5 6 [0, 0, 0, 0, 0, 0, 0, 0, 0, 0, 0, 0, 0, 0, 0]).1 6 8 (aI (2 : Int32))).bind (fun h23 =>
        (pf h23 (nob h7 5 6 [0, 0, 0, 0, 0, 0, 0, 0, 0, 0, 0, 0, 0, 0, 0]).1 6 9 (aI x8)).bind (fun h24 =>
        if x6 = none then
          R 124 [(1, aR p0), (2, aR x3), (3, aR x6), (4, aI x8), (5, aR (nob h7 5 6 [0, 0, 0, 0, 0, 0, 0, 0, 0, 0, 0, 0, 0, 0, 0]).1)] [] h24
        else
          (gfI h24 p0 6 4).bind (fun x25 =>
          (gfI h24 p0 6 5).bind (fun x26 =>
          (gfI h24 p0 6 3).bind (fun x27 =>
          cI (E 2 [aR x6, aI x25, aI x26, aI x27, aI (3 : Int32)] h24) (fun x29 h28 =>
          (pf h28 (nob h7 5 6 [0, 0, 0, 0, 0, 0, 0, 0, 0, 0, 0, 0, 0, 0, 0]).1 6 6 (aI x29)).bind (fun h30 =>
          (gfI h30 x6 1 13).bind (fun x31 =>
          (pf h30 (nob h7 5 6 [0, 0, 0, 0, 0, 0, 0, 0, 0, 0, 0, 0, 0, 0, 0]).1 6 10 (aI x31)).bind (fun h32 =>
          (pf h32 x6 1 13 (aI (0 : Int32))).bind (fun h33 =>
          R 124 [(1, aR p0), (2, aR x3), (3, aR x6), (4, aI x8), (5, aR (nob h7 5 6 [0, 0, 0, 0, 0, 0, 0, 0, 0, 0, 0, 0, 0, 0, 0]).1)] [] h33))))) xT))))))) xT)) xT) xT)
    else
      (gfR h2 x3 4 1).bind (fun x34 =>
      if x34 = none then
        (gfI h2 p0 6 2).bind (fun x35 =>
        cR (E 16 [aR o, aI x35] h2) (fun x37 h36 =>
        cI (E 20 [aR p0, aR x3, aR x37] h36) (fun x39 h38 =>
        (gfI (nob h38 5 6 [0, 0, 0, 0, 0, 0, 0, 0, 0, 0, 0, 0, 0, 0, 0]).2 p0 6 1).bind (fun x40 =>
        cV (E 40 [aR (nob h38 5 6 [0, 0, 0, 0, 0, 0, 0, 0, 0, 0, 0, 0, 0, 0, 0]).1, aI (5 : Int32), aI x40] (nob h38 5 6 [0, 0, 0, 0, 0, 0, 0, 0, 0, 0, 0, 0, 0, 0, 0]).2) (fun h41 =>
        (pf h41 (nob h38 5 6 [0, 0, 0, 0, 0, 0, 0, 0, 0, 0, 0, 0, 0, 0, 0]).1 6 7 (aI (1 : Int32))).bind (fun h42 =>
        if x39 = 0 then
          (pf h42 (nob h38 5 6 [0, 0, 0, 0, 0, 0, 0, 0, 0, 0, 0, 0, 0, 0, 0]).1 6 8 (aI (1 : Int32))).bind (fun h43 =>
          (pf h43 (nob h38 5 6 [0, 0, 0, 0, 0, 0, 0, 0, 0, 0, 0, 0, 0, 0, 0]).1 6 9 (aI x39)).bind (fun h44 =>
          if x37 = none then
            R 124 [(1, aR p0), (2, aR x3), (3, aR x37), (4, aI x39), (5, aR (nob h38 5 6 [0, 0, 0, 0, 0, 0, 0, 0, 0, 0, 0, 0, 0, 0, 0]).1)] [] h44
          else
            (gfI h44 p0 6 4).bind (fun x45 =>
            (gfI h44 p0 6 5).bind (fun x46 =>
            (gfI h44 p0 6 3).bind (fun x47 =>
            cI (E 2 [aR x37, aI x45, aI x46, aI x47, aI (3 : Int32)] h44) (fun x49 h48 =>
            (pf h48 (nob h38 5 6 [0, 0, 0, 0, 0, 0, 0, 0, 0, 0, 0, 0, 0, 0, 0]).1 6 6 (aI x49)).bind (fun h50 =>
            (gfI h50 x37 1 13).bind (fun x51 =>
            (pf h50 (nob h38 5 6 [0, 0, 0, 0, 0, 0, 0, 0, 0, 0, 0, 0, 0, 0, 0]).1 6 10 (aI x51)).bind (fun h52 =>
            (pf h52 x37 1 13 (aI (0 : Int32))).bind (fun h53 =>
            R 124 [(1, aR p0), (2, aR x3), (3, aR x37), (4, aI x39), (5, aR (nob h38 5 6 [0, 0, 0, 0, 0, 0, 0, 0, 0, 0, 0, 0, 0, 0, 0]).1)] [] h53))))) xT)))))
        else
          (pf h42 (nob h38 5 6 [0, 0, 0, 0, 0, 0, 0, 0, 0, 0, 0, 0, 0, 0, 0]).1 6 8 (aI (2 : Int32))).bind (fun h54 =>
          (pf h54 (nob h38 5 6 [0, 0, 0, 0, 0, 0, 0, 0, 0, 0, 0, 0, 0, 0, 0]).1 6 9 (aI x39)).bind (fun h55 =>
          if x37 = none then
            R 124 [(1, aR p0), (2, aR x3), (3, aR x37), (4, aI x39), (5, aR (nob h38 5 6 [0, 0, 0, 0, 0, 0, 0, 0, 0, 0, 0, 0, 0, 0, 0]).1)] [] h55
          else
            (gfI h55 p0 6 4).bind (fun x56 =>
            (gfI h55 p0 6 5).bind (fun x57 =>
            (gfI h55 p0 6 3).bind (fun x58 =>
            cI (E 2 [aR x37, aI x56, aI x57, aI x58, aI (3 : Int32)] h55) (fun x60 h59 =>
            (pf h59 (nob h38 5 6 [0, 0, 0, 0, 0, 0, 0, 0, 0, 0, 0, 0, 0, 0, 0]).1 6 6 (aI x60)).bind (fun h61 =>
            (gfI h61 x37 1 13).bind (fun x62 =>
            (pf h61 (nob h38 5 6 [0, 0, 0, 0, 0, 0, 0, 0, 0, 0, 0, 0, 0, 0, 0]).1 6 10 (aI x62)).bind (fun h63 =>
            (pf h63 x37 1 13 (aI (0 : Int32))).bind (fun h64 =>
            R 124 [(1, aR p0), (2, aR x3), (3, aR x37), (4, aI x39), (5, aR (nob h38 5 6 [0, 0, 0, 0, 0, 0, 0, 0, 0, 0, 0, 0, 0, 0, 0]).1)] [] h64))))) xT))))))) xT)) xT) xT)
      else
        (gfR h2 x3 4 1).bind (fun x65 =>
        some (.inl (some (aR x65)), h2)))) xT)) rfl rfl rfl (fun R E => rfl)
set_option maxRecDepth 100000 in
theorem lf_19_124 (v1 : Option (Nat × Nat)) (v2 : Option (Nat × Nat)) (v3 : Option (Nat × Nat)) (v4 : Int32) (v5 : Option (Nat × Nat)) (h : Hp) : Ru 19 124 [(1, aR v1), (2, aR v2), (3, aR v3), (4, aI v4), (5, aR v5)] [] h =
    if v3 = none then
      if v2 = none then
        some (.inl (some (aR v5)), h)
      else
        (gfI (nob h 6 6 [0, 0, 0, 0, 0, 0, 0, 0, 0, 0, 0, 0, 0, 0, 0]).2 v1 6 1).bind (fun x1 =>
        cV (Ex 40 [aR (nob h 6 6 [0, 0, 0, 0, 0, 0, 0, 0, 0, 0, 0, 0, 0, 0, 0]).1, aI (1 : Int32), aI x1] (nob h 6 6 [0, 0, 0, 0, 0, 0, 0, 0, 0, 0, 0, 0, 0, 0, 0]).2) (fun h2 =>
        cR (Ex 41 [aR (nob h 6 6 [0, 0, 0, 0, 0, 0, 0, 0, 0, 0, 0, 0, 0, 0, 0]).1, aR v1] h2) (fun x4 h3 =>
        (pf h3 v2 4 0 (aR x4)).bind (fun h5 =>
        (pf h5 v2 4 1 (aR v5)).bind (fun h6 =>
        if v3 = none then
          some (.inl (some (aR v5)), h6)
        else
          if v4 = 0 then
            (gfI h6 v1 6 5).bind (fun x7 =>
            (gfR h6 v3 1 1).bind (fun x8 =>
            cV (Ex 30 [aR v2, aI x7, aR x8] h6) (fun h9 =>
            some (.inl (some (aR v5)), h9)) xT))
          else
            some (.inl (some (aR v5)), h6)))) xT) xT)
    else
      if v4 = 0 then
        Ru 19 146 [(1, aR v1), (2, aR v2), (3, aR v3), (4, aI v4), (5, aR v5)] [] h
      else
        if v4 < (4 : Int32) then
          if v2 = none then
            some (.inl (some (aR v5)), h)
          else
            (gfI (nob h 6 6 [0, 0, 0, 0, 0, 0, 0, 0, 0, 0, 0, 0, 0, 0, 0]).2 v1 6 1).bind (fun x10 =>
            cV (Ex 40 [aR (nob h 6 6 [0, 0, 0, 0, 0, 0, 0, 0, 0, 0, 0, 0, 0, 0, 0]).1, aI (1 : Int32), aI x10] (nob h 6 6 [0, 0, 0, 0, 0, 0, 0, 0, 0, 0, 0, 0, 0, 0, 0]).2) (fun h11 =>
            cR (Ex 41 [aR (nob h 6 6 [0, 0, 0, 0, 0, 0, 0, 0, 0, 0, 0, 0, 0, 0, 0]).1, aR v1] h11) (fun x13 h12 =>
            (pf h12 v2 4 0 (aR x13)).bind (fun h14 =>
            (pf h14 v2 4 1 (aR v5)).bind (fun h15 =>
            if v3 = none then
              some (.inl (some (aR v5)), h15)
            else
              if v4 = 0 then
                (gfI h15 v1 6 5).bind (fun x16 =>
                (gfR h15 v3 1 1).bind (fun x17 =>
                cV (Ex 30 [aR v2, aI x16, aR x17] h15) (fun h18 =>
                some (.inl (some (aR v5)), h18)) xT))
              else
                some (.inl (some (aR v5)), h15)))) xT) xT)
        else
          if (6 : Int32) < v4 then
            if v2 = none then
              some (.inl (some (aR v5)), h)
            else
              (gfI (nob h 6 6 [0, 0, 0, 0, 0, 0, 0, 0, 0, 0, 0, 0, 0, 0, 0]).2 v1 6 1).bind (fun x19 =>
              cV (Ex 40 [aR (nob h 6 6 [0, 0, 0, 0, 0, 0, 0, 0, 0, 0, 0, 0, 0, 0, 0]).1, aI (1 : Int32), aI x19] (nob h 6 6 [0, 0, 0, 0, 0, 0, 0, 0, 0, 0, 0, 0, 0, 0, 0]).2) (fun h20 =>
              cR (Ex 41 [aR (nob h 6 6 [0, 0, 0, 0, 0, 0, 0, 0, 0, 0, 0, 0, 0, 0, 0]).1, aR v1] h20) (fun x22 h21 =>
              (pf h21 v2 4 0 (aR x22)).bind (fun h23 =>
              (pf h23 v2 4 1 (aR v5)).bind (fun h24 =>
              if v3 = none then
                some (.inl (some (aR v5)), h24)
              else
                if v4 = 0 then
                  (gfI h24 v1 6 5).bind (fun x25 =>
                  (gfR h24 v3 1 1).bind (fun x26 =>
                  cV (Ex 30 [aR v2, aI x25, aR x26] h24) (fun h27 =>
                  some (.inl (some (aR v5)), h27)) xT))
                else
                  some (.inl (some (aR v5)), h24)))) xT) xT)
          else
            Ru 19 146 [(1, aR v1), (2, aR v2), (3, aR v3), (4, aI v4), (5, aR v5)] [] h :=
  lift_of (k := 38) (rows := code_19) (cuts := cut_19) (hs := hdl_19) (r := fun R E =>
    if v3 = none then
      if v2 = none then
        some (.inl (some (aR v5)), h)
      else
        (gfI (nob h 6 6 [0, 0, 0, 0, 0, 0, 0, 0, 0, 0, 0, 0, 0, 0, 0]).2 v1 6 1).bind (fun x1 =>
        cV (E 40 [aR (nob h 6 6 [0, 0, 0, 0, 0, 0, 0, 0, 0, 0, 0, 0, 0, 0, 0]).1, aI (1 : Int32), aI x1] (nob h 6 6 [0, 0, 0, 0, 0, 0, 0, 0, 0, 0, 0, 0, 0, 0, 0]).2) (fun h2 =>
        cR (E 41 [aR (nob h 6 6 [0, 0, 0, 0, 0, 0, 0, 0, 0, 0, 0, 0, 0, 0, 0]).1, aR v1] h2) (fun x4 h3 =>
        (pf h3 v2 4 0 (aR x4)).bind (fun h5 =>
        (pf h5 v2 4 1 (aR v5)).bind (fun h6 =>
        if v3 = none then
          some (.inl (some (aR v5)), h6)
        else
          if v4 = 0 then
            (gfI h6 v1 6 5).bind (fun x7 =>
            (gfR h6 v3 1 1).bind (fun x8 =>
            cV (E 30 [aR v2, aI x7, aR x8] h6) (fun h9 =>
            some (.inl (some (aR v5)), h9)) xT))
          else
            some (.inl (some (aR v5)), h6)))) xT) xT)
    else
      if v4 = 0 then
        R 146 [(1, aR v1), (2, aR v2), (3, aR v3), (4, aI v4), (5, aR v5)] [] h
      else
        if v4 < (4 : Int32) then
          if v2 = none then
            some (.inl (some (aR v5)), h)
          else
            (gfI (nob h 6 6 [0, 0, 0, 0, 0, 0, 0, 0, 0, 0, 0, 0, 0, 0, 0]).2 v1 6 1).bind (fun x10 =>
            cV (E 40 [aR (nob h 6 6 [0, 0, 0, 0, 0, 0, 0, 0, 0, 0, 0, 0, 0, 0, 0]).1, aI (1 : Int32), aI x10] (nob h 6 6 [0, 0, 0, 0, 0, 0, 0, 0, 0, 0, 0, 0, 0, 0, 0]).2) (fun h11 =>
            cR (E 41 [aR (nob h 6 6 [0, 0, 0, 0, 0, 0, 0, 0, 0, 0, 0, 0, 0, 0, 0]).1, aR v1] h11) (fun x13 h12 =>
            (pf h12 v2 4 0 (aR x13)).bind (fun h14 =>
            (pf h14 v2 4 1 (aR v5)).bind (fun h15 =>
            if v3 = none then
              some (.inl (some (aR v5)), h15)
            else
              if v4 = 0 then
                (gfI h15 v1 6 5).bind (fun x16 =>
                (gfR h15 v3 1 1).bind (fun x17 =>
                cV (E 30 [aR v2, aI x16, aR x17] h15) (fun h18 =>
                some (.inl (some (aR v5)), h18)) xT))
              else
                some (.inl (some (aR v5)), h15)))) xT) xT)
        else
          if (6 : Int32) < v4 then
            if v2 = none then
              some (.inl (some (aR v5)), h)
            else
              (gfI (nob h 6 6 [0, 0, 0, 0, 0, 0, 0, 0, 0, 0, 0, 0, 0, 0, 0]).2 v1 6 1).bind (fun x19 =>
              cV (E 40 [aR (nob h 6 6 [0, 0, 0, 0, 0, 0, 0, 0, 0, 0, 0, 0, 0, 0, 0]).1, aI (1 : Int32), aI x19] (nob h 6 6 [0, 0, 0, 0, 0, 0, 0, 0, 0, 0, 0, 0, 0, 0, 0]).2) (fun h20 =>
              cR (E 41 [aR (nob h 6 6 [0, 0, 0, 0, 0, 0, 0, 0, 0, 0, 0, 0, 0, 0, 0]).1, aR v1] h20) (fun x22 h21 =>
              (pf h21 v2 4 0 (aR x22)).bind (fun h23 =>
              (pf h23 v2 4 1 (aR v5)).bind (fun h24 =>
              if v3 = none then
                some (.inl (some (aR v5)), h24)
              else
                if v4 = 0 then
                  (gfI h24 v1 6 5).bind (fun x25 =>
                  (gfR h24 v3 1 1).bind (fun x26 =>
                  cV (E 30 [aR v2, aI x25, aR x26] h24) (fun h27 =>
                  some (.inl (some (aR v5)), h27)) xT))
                else
                  some (.inl (some (aR v5)), h24)))) xT) xT)
          else
            R 146 [(1, aR v1), (2, aR v2), (3, aR v3), (4, aI v4), (5, aR v5)] [] h) rfl rfl rfl (fun R E => rfl)
set_option maxRecDepth 100000 in
theorem lf_19_146 (v1 : Option (Nat × Nat)) (v2 : Option (Nat × Nat)) (v3 : Option (Nat × Nat)) (v4 : Int32) (v5 : Option (Nat × Nat)) (h : Hp) : Ru 19 146 [(1, aR v1), (2, aR v2), (3, aR v3), (4, aI v4), (5, aR v5)] [] h =
    cV (Ex 9 [aR v3, aR v1] h) (fun h1 =>
    if v2 = none then
      some (.inl (some (aR v5)), h1)
    else
      (gfI (nob h1 6 6 [0, 0, 0, 0, 0, 0, 0, 0, 0, 0, 0, 0, 0, 0, 0]).2 v1 6 1).bind (fun x2 =>
      cV (Ex 40 [aR (nob h1 6 6 [0, 0, 0, 0, 0, 0, 0, 0, 0, 0, 0, 0, 0, 0, 0]).1, aI (1 : Int32), aI x2] (nob h1 6 6 [0, 0, 0, 0, 0, 0, 0, 0, 0, 0, 0, 0, 0, 0, 0]).2) (fun h3 =>
      cR (Ex 41 [aR (nob h1 6 6 [0, 0, 0, 0, 0, 0, 0, 0, 0, 0, 0, 0, 0, 0, 0]).1, aR v1] h3) (fun x5 h4 =>
      (pf h4 v2 4 0 (aR x5)).bind (fun h6 =>
      (pf h6 v2 4 1 (aR v5)).bind (fun h7 =>
      if v3 = none then
        some (.inl (some (aR v5)), h7)
      else
        if v4 = 0 then
          (gfI h7 v1 6 5).bind (fun x8 =>
          (gfR h7 v3 1 1).bind (fun x9 =>
          cV (Ex 30 [aR v2, aI x8, aR x9] h7) (fun h10 =>
          some (.inl (some (aR v5)), h10)) xT))
        else
          some (.inl (some (aR v5)), h7)))) xT) xT)) xT :=
  lift_of (k := 31) (rows := code_19) (cuts := cut_19) (hs := hdl_19) (r := fun R E =>
    cV (E 9 [aR v3, aR v1] h) (fun h1 =>
    if v2 = none then
      some (.inl (some (aR v5)), h1)
    else
      (gfI (nob h1 6 6 [0, 0, 0, 0, 0, 0, 0, 0, 0, 0, 0, 0, 0, 0, 0]).2 v1 6 1).bind (fun x2 =>
      cV (E 40 [aR (nob h1 6 6 [0, 0, 0, 0, 0, 0, 0, 0, 0, 0, 0, 0, 0, 0, 0]).1, aI (1 : Int32), aI x2] (nob h1 6 6 [0, 0, 0, 0, 0, 0, 0, 0, 0, 0, 0, 0, 0, 0, 0]).2) (fun h3 =>
      cR (E 41 [aR (nob h1 6 6 [0, 0, 0, 0, 0, 0, 0, 0, 0, 0, 0, 0, 0, 0, 0]).1, aR v1] h3) (fun x5 h4 =>
      (pf h4 v2 4 0 (aR x5)).bind (fun h6 =>
      (pf h6 v2 4 1 (aR v5)).bind (fun h7 =>
      if v3 = none then
        some (.inl (some (aR v5)), h7)
      else
        if v4 = 0 then
          (gfI h7 v1 6 5).bind (fun x8 =>
          (gfR h7 v3 1 1).bind (fun x9 =>
          cV (E 30 [aR v2, aI x8, aR x9] h7) (fun h10 =>
          some (.inl (some (aR v5)), h10)) xT))
        else
          some (.inl (some (aR v5)), h7)))) xT) xT)) xT) rfl rfl rfl (fun R E => rfl)
-- Chipcardhouse$Issuer.reasonAgainst(LChipcardhouse$Message;LChipcardhouse$Known;LChipcardhouse$Card;)I
set_option maxRecDepth 100000 in
theorem lf_20_0 (p0 : Option (Nat × Nat)) (p1 : Option (Nat × Nat)) (p2 : Option (Nat × Nat)) (h : Hp) : Ru 20 0 [(0, aR p0), (1, aR p1), (2, aR p2)] [] h =
    if p1 = none then
      if p2 = none then
        some (.inl (some (aI (1 : Int32))), h)
      else
        (gfI h p0 6 6).bind (fun x1 =>
        (gfI h p0 6 4).bind (fun x2 =>
        (gfI h p0 6 5).bind (fun x3 =>
        (gfI h p0 6 3).bind (fun x4 =>
        cI (Ex 2 [aR p2, aI x2, aI x3, aI x4, aI (2 : Int32)] h) (fun x6 h5 =>
        if x1 = x6 then
          cI (Ex 8 [aR p2, aR p0] h5) (fun x8 h7 =>
          if x8 = 0 then
            (gfI h7 p2 1 12).bind (fun x9 =>
            if x9 = 0 then
              (gfR h7 p2 1 1).bind (fun x10 =>
              (gfI h7 x10 0 2).bind (fun x11 =>
              if x11 = 0 then
                (gfI h7 p0 6 5).bind (fun x12 =>
                (gfR h7 p2 1 1).bind (fun x13 =>
                (gfL h7 x13 0 0).bind (fun x14 =>
                (gfR h7 p2 1 1).bind (fun x15 =>
                (gfL h7 x15 0 1).bind (fun x16 =>
                if (lg_cmp x12.toInt64 (x14 - x16)) ≤ 0 then
                  some (.inl (some (aI (0 : Int32))), h7)
                else
                  some (.inl (some (aI (6 : Int32))), h7))))))
              else
                some (.inl (some (aI (5 : Int32))), h7)))
            else
              some (.inl (some (aI (4 : Int32))), h7))
          else
            some (.inl (some (aI (3 : Int32))), h7)) xT
        else
          some (.inl (some (aI (2 : Int32))), h5)) xT))))
    else
      (gfI h p1 4 5).bind (fun x17 =>
      if x17 = 0 then
        cI (Ex 29 [aR p1] h) (fun x19 h18 =>
        if x19 = 0 then
          if p2 = none then
            some (.inl (some (aI (1 : Int32))), h18)
          else
            (gfI h18 p0 6 6).bind (fun x20 =>
            (gfI h18 p0 6 4).bind (fun x21 =>
            (gfI h18 p0 6 5).bind (fun x22 =>
            (gfI h18 p0 6 3).bind (fun x23 =>
            cI (Ex 2 [aR p2, aI x21, aI x22, aI x23, aI (2 : Int32)] h18) (fun x25 h24 =>
            if x20 = x25 then
              cI (Ex 8 [aR p2, aR p0] h24) (fun x27 h26 =>
              if x27 = 0 then
                (gfI h26 p2 1 12).bind (fun x28 =>
                if x28 = 0 then
                  (gfR h26 p2 1 1).bind (fun x29 =>
                  (gfI h26 x29 0 2).bind (fun x30 =>
                  if x30 = 0 then
                    (gfI h26 p0 6 5).bind (fun x31 =>
                    (gfR h26 p2 1 1).bind (fun x32 =>
                    (gfL h26 x32 0 0).bind (fun x33 =>
                    (gfR h26 p2 1 1).bind (fun x34 =>
                    (gfL h26 x34 0 1).bind (fun x35 =>
                    if (lg_cmp x31.toInt64 (x33 - x35)) ≤ 0 then
                      some (.inl (some (aI (0 : Int32))), h26)
                    else
                      some (.inl (some (aI (6 : Int32))), h26))))))
                  else
                    some (.inl (some (aI (5 : Int32))), h26)))
                else
                  some (.inl (some (aI (4 : Int32))), h26))
              else
                some (.inl (some (aI (3 : Int32))), h26)) xT
            else
              some (.inl (some (aI (2 : Int32))), h24)) xT))))
        else
          some (.inl (some (aI (7 : Int32))), h18)) xT
      else
        some (.inl (some (aI (7 : Int32))), h)) :=
  lift_of (k := 49) (rows := code_20) (cuts := cut_20) (hs := hdl_20) (r := fun R E =>
    if p1 = none then
      if p2 = none then
        some (.inl (some (aI (1 : Int32))), h)
      else
        (gfI h p0 6 6).bind (fun x1 =>
        (gfI h p0 6 4).bind (fun x2 =>
        (gfI h p0 6 5).bind (fun x3 =>
        (gfI h p0 6 3).bind (fun x4 =>
        cI (E 2 [aR p2, aI x2, aI x3, aI x4, aI (2 : Int32)] h) (fun x6 h5 =>
        if x1 = x6 then
          cI (E 8 [aR p2, aR p0] h5) (fun x8 h7 =>
          if x8 = 0 then
            (gfI h7 p2 1 12).bind (fun x9 =>
            if x9 = 0 then
              (gfR h7 p2 1 1).bind (fun x10 =>
              (gfI h7 x10 0 2).bind (fun x11 =>
              if x11 = 0 then
                (gfI h7 p0 6 5).bind (fun x12 =>
                (gfR h7 p2 1 1).bind (fun x13 =>
                (gfL h7 x13 0 0).bind (fun x14 =>
                (gfR h7 p2 1 1).bind (fun x15 =>
                (gfL h7 x15 0 1).bind (fun x16 =>
                if (lg_cmp x12.toInt64 (x14 - x16)) ≤ 0 then
                  some (.inl (some (aI (0 : Int32))), h7)
                else
                  some (.inl (some (aI (6 : Int32))), h7))))))
              else
                some (.inl (some (aI (5 : Int32))), h7)))
            else
              some (.inl (some (aI (4 : Int32))), h7))
          else
            some (.inl (some (aI (3 : Int32))), h7)) xT
        else
          some (.inl (some (aI (2 : Int32))), h5)) xT))))
    else
      (gfI h p1 4 5).bind (fun x17 =>
      if x17 = 0 then
        cI (E 29 [aR p1] h) (fun x19 h18 =>
        if x19 = 0 then
          if p2 = none then
            some (.inl (some (aI (1 : Int32))), h18)
          else
            (gfI h18 p0 6 6).bind (fun x20 =>
            (gfI h18 p0 6 4).bind (fun x21 =>
            (gfI h18 p0 6 5).bind (fun x22 =>
            (gfI h18 p0 6 3).bind (fun x23 =>
            cI (E 2 [aR p2, aI x21, aI x22, aI x23, aI (2 : Int32)] h18) (fun x25 h24 =>
            if x20 = x25 then
              cI (E 8 [aR p2, aR p0] h24) (fun x27 h26 =>
              if x27 = 0 then
                (gfI h26 p2 1 12).bind (fun x28 =>
                if x28 = 0 then
                  (gfR h26 p2 1 1).bind (fun x29 =>
                  (gfI h26 x29 0 2).bind (fun x30 =>
                  if x30 = 0 then
                    (gfI h26 p0 6 5).bind (fun x31 =>
                    (gfR h26 p2 1 1).bind (fun x32 =>
                    (gfL h26 x32 0 0).bind (fun x33 =>
                    (gfR h26 p2 1 1).bind (fun x34 =>
                    (gfL h26 x34 0 1).bind (fun x35 =>
                    if (lg_cmp x31.toInt64 (x33 - x35)) ≤ 0 then
                      some (.inl (some (aI (0 : Int32))), h26)
                    else
                      some (.inl (some (aI (6 : Int32))), h26))))))
                  else
                    some (.inl (some (aI (5 : Int32))), h26)))
                else
                  some (.inl (some (aI (4 : Int32))), h26))
              else
                some (.inl (some (aI (3 : Int32))), h26)) xT
            else
              some (.inl (some (aI (2 : Int32))), h24)) xT))))
        else
          some (.inl (some (aI (7 : Int32))), h18)) xT
      else
        some (.inl (some (aI (7 : Int32))), h))) rfl rfl rfl (fun R E => rfl)
-- Chipcardhouse$Issuer.hearNote(LChipcardhouse$Message;)V
set_option maxRecDepth 100000 in
theorem lf_21_0 (o : Option (Nat × Nat)) (p0 : Option (Nat × Nat)) (h : Hp) : Ru 21 0 [(0, aR o), (1, aR p0)] [] h =
    (gfI h p0 6 1).bind (fun x1 =>
    cR (Ex 15 [aR o, aI x1] h) (fun x3 h2 =>
    (gfI h2 p0 6 2).bind (fun x4 =>
    cR (Ex 16 [aR o, aI x4] h2) (fun x6 h5 =>
    if x3 = none then
      some (.inl none, h5)
    else
      if x6 = none then
        some (.inl none, h5)
      else
        cI (Ex 8 [aR x6, aR p0] h5) (fun x8 h7 =>
        if x8 = 0 then
          (gfI h7 p0 6 6).bind (fun x9 =>
          (gfI h7 p0 6 4).bind (fun x10 =>
          (gfI h7 p0 6 5).bind (fun x11 =>
          (gfI h7 p0 6 3).bind (fun x12 =>
          cI (Ex 2 [aR x6, aI x10, aI x11, aI x12, aI (2 : Int32)] h7) (fun x14 h13 =>
          if x9 = x14 then
            cV (Ex 9 [aR x6, aR p0] h13) (fun h15 =>
            (pf h15 x3 4 2 (aR p0)).bind (fun h16 =>
            (gfI h16 x3 4 5).bind (fun x17 =>
            if x17 = 0 then
              cI (Ex 29 [aR x3] h16) (fun x19 h18 =>
              if x19 = 0 then
                (gfI h18 p0 6 5).bind (fun x20 =>
                (gfR h18 x6 1 1).bind (fun x21 =>
                cV (Ex 30 [aR x3, aI x20, aR x21] h18) (fun h22 =>
                some (.inl none, h22)) xT))
              else
                some (.inl none, h18)) xT
            else
              some (.inl none, h16)))) xT
          else
            some (.inl none, h13)) xT))))
        else
          some (.inl none, h7)) xT) xT)) xT) :=
  lift_of (k := 50) (rows := code_21) (cuts := cut_21) (hs := hdl_21) (r := fun R E =>
    (gfI h p0 6 1).bind (fun x1 =>
    cR (E 15 [aR o, aI x1] h) (fun x3 h2 =>
    (gfI h2 p0 6 2).bind (fun x4 =>
    cR (E 16 [aR o, aI x4] h2) (fun x6 h5 =>
    if x3 = none then
      some (.inl none, h5)
    else
      if x6 = none then
        some (.inl none, h5)
      else
        cI (E 8 [aR x6, aR p0] h5) (fun x8 h7 =>
        if x8 = 0 then
          (gfI h7 p0 6 6).bind (fun x9 =>
          (gfI h7 p0 6 4).bind (fun x10 =>
          (gfI h7 p0 6 5).bind (fun x11 =>
          (gfI h7 p0 6 3).bind (fun x12 =>
          cI (E 2 [aR x6, aI x10, aI x11, aI x12, aI (2 : Int32)] h7) (fun x14 h13 =>
          if x9 = x14 then
            cV (E 9 [aR x6, aR p0] h13) (fun h15 =>
            (pf h15 x3 4 2 (aR p0)).bind (fun h16 =>
            (gfI h16 x3 4 5).bind (fun x17 =>
            if x17 = 0 then
              cI (E 29 [aR x3] h16) (fun x19 h18 =>
              if x19 = 0 then
                (gfI h18 p0 6 5).bind (fun x20 =>
                (gfR h18 x6 1 1).bind (fun x21 =>
                cV (E 30 [aR x3, aI x20, aR x21] h18) (fun h22 =>
                some (.inl none, h22)) xT))
              else
                some (.inl none, h18)) xT
            else
              some (.inl none, h16)))) xT
          else
            some (.inl none, h13)) xT))))
        else
          some (.inl none, h7)) xT) xT)) xT)) rfl rfl rfl (fun R E => rfl)
-- Chipcardhouse$Issuer.hearRecord(LChipcardhouse$Message;LChipcardhouse$Known;LChipcardhouse$Terminal;)V
set_option maxRecDepth 100000 in
theorem lf_22_0 (o : Option (Nat × Nat)) (p0 : Option (Nat × Nat)) (p1 : Option (Nat × Nat)) (p2 : Option (Nat × Nat)) (h : Hp) : Ru 22 0 [(0, aR o), (1, aR p0), (2, aR p1), (3, aR p2)] [] h =
    cI (Ex 29 [aR p1] h) (fun x2 h1 =>
    if x2 = 0 then
      (gfI h1 p0 6 2).bind (fun x3 =>
      cR (Ex 16 [aR o, aI x3] h1) (fun x5 h4 =>
      if x5 = none then
        (gfI h4 p0 6 7).bind (fun x6 =>
        if x6 = 0 then
          if (0 : Int32) = 0 then
            Ru 22 93 [(0, aR o), (1, aR p0), (2, aR p1), (3, aR p2), (4, aR x5), (5, aI (0 : Int32))] [aI (0 : Int32)] h4
          else
            (gfI h4 p0 6 6).bind (fun x7 =>
            (gfI h4 p0 6 4).bind (fun x8 =>
            (gfI h4 p0 6 5).bind (fun x9 =>
            (gfI h4 p0 6 3).bind (fun x10 =>
            cI (Ex 2 [aR x5, aI x8, aI x9, aI x10, aI (1 : Int32)] h4) (fun x12 h11 =>
            if x7 = x12 then
              Ru 22 93 [(0, aR o), (1, aR p0), (2, aR p1), (3, aR p2), (4, aR x5), (5, aI (0 : Int32))] [aI (1 : Int32)] h11
            else
              Ru 22 93 [(0, aR o), (1, aR p0), (2, aR p1), (3, aR p2), (4, aR x5), (5, aI (0 : Int32))] [aI (0 : Int32)] h11) xT))))
        else
          cI (Ex 33 [aR p1, aR p0] h4) (fun x14 h13 =>
          Ru 22 93 [(0, aR o), (1, aR p0), (2, aR p1), (3, aR p2), (4, aR x5), (5, aI (0 : Int32))] [aI x14] h13) xT)
      else
        (gfI h4 p0 6 4).bind (fun x15 =>
        cI (Ex 10 [aR x5, aI x15] h4) (fun x17 h16 =>
        if x17 = (-1 : Int32) then
          (gfI h16 p0 6 7).bind (fun x18 =>
          if x18 = 0 then
            if (1 : Int32) = 0 then
              Ru 22 93 [(0, aR o), (1, aR p0), (2, aR p1), (3, aR p2), (4, aR x5), (5, aI (1 : Int32))] [aI (0 : Int32)] h16
            else
              (gfI h16 p0 6 6).bind (fun x19 =>
              (gfI h16 p0 6 4).bind (fun x20 =>
              (gfI h16 p0 6 5).bind (fun x21 =>
              (gfI h16 p0 6 3).bind (fun x22 =>
              cI (Ex 2 [aR x5, aI x20, aI x21, aI x22, aI (1 : Int32)] h16) (fun x24 h23 =>
              if x19 = x24 then
                Ru 22 93 [(0, aR o), (1, aR p0), (2, aR p1), (3, aR p2), (4, aR x5), (5, aI (1 : Int32))] [aI (1 : Int32)] h23
              else
                Ru 22 93 [(0, aR o), (1, aR p0), (2, aR p1), (3, aR p2), (4, aR x5), (5, aI (1 : Int32))] [aI (0 : Int32)] h23) xT))))
          else
            cI (Ex 33 [aR p1, aR p0] h16) (fun x26 h25 =>
            Ru 22 93 [(0, aR o), (1, aR p0), (2, aR p1), (3, aR p2), (4, aR x5), (5, aI (1 : Int32))] [aI x26] h25) xT)
        else
          (gfI h16 p0 6 7).bind (fun x27 =>
          if x27 = 0 then
            if (0 : Int32) = 0 then
              Ru 22 93 [(0, aR o), (1, aR p0), (2, aR p1), (3, aR p2), (4, aR x5), (5, aI (0 : Int32))] [aI (0 : Int32)] h16
            else
              (gfI h16 p0 6 6).bind (fun x28 =>
              (gfI h16 p0 6 4).bind (fun x29 =>
              (gfI h16 p0 6 5).bind (fun x30 =>
              (gfI h16 p0 6 3).bind (fun x31 =>
              cI (Ex 2 [aR x5, aI x29, aI x30, aI x31, aI (1 : Int32)] h16) (fun x33 h32 =>
              if x28 = x33 then
                Ru 22 93 [(0, aR o), (1, aR p0), (2, aR p1), (3, aR p2), (4, aR x5), (5, aI (0 : Int32))] [aI (1 : Int32)] h32
              else
                Ru 22 93 [(0, aR o), (1, aR p0), (2, aR p1), (3, aR p2), (4, aR x5), (5, aI (0 : Int32))] [aI (0 : Int32)] h32) xT))))
          else
            cI (Ex 33 [aR p1, aR p0] h16) (fun x35 h34 =>
            Ru 22 93 [(0, aR o), (1, aR p0), (2, aR p1), (3, aR p2), (4, aR x5), (5, aI (0 : Int32))] [aI x35] h34) xT)) xT)) xT)
    else
      some (.inl none, h1)) xT :=
  lift_of (k := 39) (rows := code_22) (cuts := cut_22) (hs := hdl_22) (r := fun R E =>
    cI (E 29 [aR p1] h) (fun x2 h1 =>
    if x2 = 0 then
      (gfI h1 p0 6 2).bind (fun x3 =>
      cR (E 16 [aR o, aI x3] h1) (fun x5 h4 =>
      if x5 = none then
        (gfI h4 p0 6 7).bind (fun x6 =>
        if x6 = 0 then
          if (0 : Int32) = 0 then
            R 93 [(0, aR o), (1, aR p0), (2, aR p1), (3, aR p2), (4, aR x5), (5, aI (0 : Int32))] [aI (0 : Int32)] h4
          else
            (gfI h4 p0 6 6).bind (fun x7 =>
            (gfI h4 p0 6 4).bind (fun x8 =>
            (gfI h4 p0 6 5).bind (fun x9 =>
            (gfI h4 p0 6 3).bind (fun x10 =>
            cI (E 2 [aR x5, aI x8, aI x9, aI x10, aI (1 : Int32)] h4) (fun x12 h11 =>
            if x7 = x12 then
              R 93 [(0, aR o), (1, aR p0), (2, aR p1), (3, aR p2), (4, aR x5), (5, aI (0 : Int32))] [aI (1 : Int32)] h11
            else
              R 93 [(0, aR o), (1, aR p0), (2, aR p1), (3, aR p2), (4, aR x5), (5, aI (0 : Int32))] [aI (0 : Int32)] h11) xT))))
        else
          cI (E 33 [aR p1, aR p0] h4) (fun x14 h13 =>
          R 93 [(0, aR o), (1, aR p0), (2, aR p1), (3, aR p2), (4, aR x5), (5, aI (0 : Int32))] [aI x14] h13) xT)
      else
        (gfI h4 p0 6 4).bind (fun x15 =>
        cI (E 10 [aR x5, aI x15] h4) (fun x17 h16 =>
        if x17 = (-1 : Int32) then
          (gfI h16 p0 6 7).bind (fun x18 =>
          if x18 = 0 then
            if (1 : Int32) = 0 then
              R 93 [(0, aR o), (1, aR p0), (2, aR p1), (3, aR p2), (4, aR x5), (5, aI (1 : Int32))] [aI (0 : Int32)] h16
            else
              (gfI h16 p0 6 6).bind (fun x19 =>
              (gfI h16 p0 6 4).bind (fun x20 =>
              (gfI h16 p0 6 5).bind (fun x21 =>
              (gfI h16 p0 6 3).bind (fun x22 =>
              cI (E 2 [aR x5, aI x20, aI x21, aI x22, aI (1 : Int32)] h16) (fun x24 h23 =>
              if x19 = x24 then
                R 93 [(0, aR o), (1, aR p0), (2, aR p1), (3, aR p2), (4, aR x5), (5, aI (1 : Int32))] [aI (1 : Int32)] h23
              else
                R 93 [(0, aR o), (1, aR p0), (2, aR p1), (3, aR p2), (4, aR x5), (5, aI (1 : Int32))] [aI (0 : Int32)] h23) xT))))
          else
            cI (E 33 [aR p1, aR p0] h16) (fun x26 h25 =>
            R 93 [(0, aR o), (1, aR p0), (2, aR p1), (3, aR p2), (4, aR x5), (5, aI (1 : Int32))] [aI x26] h25) xT)
        else
          (gfI h16 p0 6 7).bind (fun x27 =>
          if x27 = 0 then
            if (0 : Int32) = 0 then
              R 93 [(0, aR o), (1, aR p0), (2, aR p1), (3, aR p2), (4, aR x5), (5, aI (0 : Int32))] [aI (0 : Int32)] h16
            else
              (gfI h16 p0 6 6).bind (fun x28 =>
              (gfI h16 p0 6 4).bind (fun x29 =>
              (gfI h16 p0 6 5).bind (fun x30 =>
              (gfI h16 p0 6 3).bind (fun x31 =>
              cI (E 2 [aR x5, aI x29, aI x30, aI x31, aI (1 : Int32)] h16) (fun x33 h32 =>
              if x28 = x33 then
                R 93 [(0, aR o), (1, aR p0), (2, aR p1), (3, aR p2), (4, aR x5), (5, aI (0 : Int32))] [aI (1 : Int32)] h32
              else
                R 93 [(0, aR o), (1, aR p0), (2, aR p1), (3, aR p2), (4, aR x5), (5, aI (0 : Int32))] [aI (0 : Int32)] h32) xT))))
          else
            cI (E 33 [aR p1, aR p0] h16) (fun x35 h34 =>
            R 93 [(0, aR o), (1, aR p0), (2, aR p1), (3, aR p2), (4, aR x5), (5, aI (0 : Int32))] [aI x35] h34) xT)) xT)) xT)
    else
      some (.inl none, h1)) xT) rfl rfl rfl (fun R E => rfl)
set_option maxRecDepth 100000 in
theorem lf_22_93 (o : Option (Nat × Nat)) (v1 : Option (Nat × Nat)) (v2 : Option (Nat × Nat)) (v3 : Option (Nat × Nat)) (v4 : Option (Nat × Nat)) (v5 : Int32) (s0 : Int32) (h : Hp) : Ru 22 93 [(0, aR o), (1, aR v1), (2, aR v2), (3, aR v3), (4, aR v4), (5, aI v5)] [aI s0] h =
    if v4 = none then
      (gfI h o 3 4).bind (fun x1 =>
      (gfI h v2 4 6).bind (fun x2 =>
      if x2 = 0 then
        (pf h o 3 4 (aI (x1 + (1 : Int32)))).bind (fun h3 =>
        (pf h3 v2 4 6 (aI (1 : Int32))).bind (fun h4 =>
        some (.inl none, h4)))
      else
        (pf h o 3 4 (aI (x1 + (0 : Int32)))).bind (fun h5 =>
        (pf h5 v2 4 6 (aI (1 : Int32))).bind (fun h6 =>
        some (.inl none, h6)))))
    else
      if v5 = 0 then
        (gfI h o 3 4).bind (fun x7 =>
        (gfI h v2 4 6).bind (fun x8 =>
        if x8 = 0 then
          (pf h o 3 4 (aI (x7 + (1 : Int32)))).bind (fun h9 =>
          (pf h9 v2 4 6 (aI (1 : Int32))).bind (fun h10 =>
          some (.inl none, h10)))
        else
          (pf h o 3 4 (aI (x7 + (0 : Int32)))).bind (fun h11 =>
          (pf h11 v2 4 6 (aI (1 : Int32))).bind (fun h12 =>
          some (.inl none, h12)))))
      else
        if s0 = 0 then
          (gfI h o 3 4).bind (fun x13 =>
          (gfI h v2 4 6).bind (fun x14 =>
          if x14 = 0 then
            (pf h o 3 4 (aI (x13 + (1 : Int32)))).bind (fun h15 =>
            (pf h15 v2 4 6 (aI (1 : Int32))).bind (fun h16 =>
            some (.inl none, h16)))
          else
            (pf h o 3 4 (aI (x13 + (0 : Int32)))).bind (fun h17 =>
            (pf h17 v2 4 6 (aI (1 : Int32))).bind (fun h18 =>
            some (.inl none, h18)))))
        else
          cV (Ex 31 [aR v2] h) (fun h19 =>
          (gfI (nob h19 7 6 [0, 0, 0, 0, 0, 0, 0, 0, 0, 0, 0, 0, 0, 0, 0]).2 v1 6 1).bind (fun x20 =>
          cV (Ex 40 [aR (nob h19 7 6 [0, 0, 0, 0, 0, 0, 0, 0, 0, 0, 0, 0, 0, 0, 0]).1, aI (3 : Int32), aI x20] (nob h19 7 6 [0, 0, 0, 0, 0, 0, 0, 0, 0, 0, 0, 0, 0, 0, 0]).2) (fun h21 =>
          cR (Ex 41 [aR (nob h19 7 6 [0, 0, 0, 0, 0, 0, 0, 0, 0, 0, 0, 0, 0, 0, 0]).1, aR v1] h21) (fun x23 h22 =>
          (pf h22 v2 4 8 (aR x23)).bind (fun h24 =>
          (gfR h24 v4 1 1).bind (fun x25 =>
          (pf h24 v2 4 9 (aR x25)).bind (fun h26 =>
          (pf h26 v2 4 10 (aR v3)).bind (fun h27 =>
          (gfI h27 v1 6 5).bind (fun x28 =>
          (pf h27 v2 4 11 (aI x28)).bind (fun h29 =>
          (gfR h29 o 3 1).bind (fun x30 =>
          (gfI h29 x30 2 1).bind (fun x31 =>
          (pf h29 v2 4 12 (aI x31)).bind (fun h32 =>
          (gfR h32 v4 1 1).bind (fun x33 =>
          (gfL h32 x33 0 0).bind (fun x34 =>
          (gfI h32 v1 6 5).bind (fun x35 =>
          (pf h32 x33 0 0 (aL (x34 - x35.toInt64))).bind (fun h36 =>
          (gfL h36 v3 10 12).bind (fun x37 =>
          (gfI h36 v1 6 5).bind (fun x38 =>
          (pf h36 v3 10 12 (aL (x37 + x38.toInt64))).bind (fun h39 =>
          cV (Ex 11 [aR v4, aR v1] h39) (fun h40 =>
          (gfI h40 o 3 3).bind (fun x41 =>
          (pf h40 o 3 3 (aI (x41 + (1 : Int32)))).bind (fun h42 =>
          some (.inl none, h42)))) xT))))))))))))))))) xT) xT)) xT :=
  lift_of (k := 63) (rows := code_22) (cuts := cut_22) (hs := hdl_22) (r := fun R E =>
    if v4 = none then
      (gfI h o 3 4).bind (fun x1 =>
      (gfI h v2 4 6).bind (fun x2 =>
      if x2 = 0 then
        (pf h o 3 4 (aI (x1 + (1 : Int32)))).bind (fun h3 =>
        (pf h3 v2 4 6 (aI (1 : Int32))).bind (fun h4 =>
        some (.inl none, h4)))
      else
        (pf h o 3 4 (aI (x1 + (0 : Int32)))).bind (fun h5 =>
        (pf h5 v2 4 6 (aI (1 : Int32))).bind (fun h6 =>
        some (.inl none, h6)))))
    else
      if v5 = 0 then
        (gfI h o 3 4).bind (fun x7 =>
        (gfI h v2 4 6).bind (fun x8 =>
        if x8 = 0 then
          (pf h o 3 4 (aI (x7 + (1 : Int32)))).bind (fun h9 =>
          (pf h9 v2 4 6 (aI (1 : Int32))).bind (fun h10 =>
          some (.inl none, h10)))
        else
          (pf h o 3 4 (aI (x7 + (0 : Int32)))).bind (fun h11 =>
          (pf h11 v2 4 6 (aI (1 : Int32))).bind (fun h12 =>
          some (.inl none, h12)))))
      else
        if s0 = 0 then
          (gfI h o 3 4).bind (fun x13 =>
          (gfI h v2 4 6).bind (fun x14 =>
          if x14 = 0 then
            (pf h o 3 4 (aI (x13 + (1 : Int32)))).bind (fun h15 =>
            (pf h15 v2 4 6 (aI (1 : Int32))).bind (fun h16 =>
            some (.inl none, h16)))
          else
            (pf h o 3 4 (aI (x13 + (0 : Int32)))).bind (fun h17 =>
            (pf h17 v2 4 6 (aI (1 : Int32))).bind (fun h18 =>
            some (.inl none, h18)))))
        else
          cV (E 31 [aR v2] h) (fun h19 =>
          (gfI (nob h19 7 6 [0, 0, 0, 0, 0, 0, 0, 0, 0, 0, 0, 0, 0, 0, 0]).2 v1 6 1).bind (fun x20 =>
          cV (E 40 [aR (nob h19 7 6 [0, 0, 0, 0, 0, 0, 0, 0, 0, 0, 0, 0, 0, 0, 0]).1, aI (3 : Int32), aI x20] (nob h19 7 6 [0, 0, 0, 0, 0, 0, 0, 0, 0, 0, 0, 0, 0, 0, 0]).2) (fun h21 =>
          cR (E 41 [aR (nob h19 7 6 [0, 0, 0, 0, 0, 0, 0, 0, 0, 0, 0, 0, 0, 0, 0]).1, aR v1] h21) (fun x23 h22 =>
          (pf h22 v2 4 8 (aR x23)).bind (fun h24 =>
          (gfR h24 v4 1 1).bind (fun x25 =>
          (pf h24 v2 4 9 (aR x25)).bind (fun h26 =>
          (pf h26 v2 4 10 (aR v3)).bind (fun h27 =>
          (gfI h27 v1 6 5).bind (fun x28 =>
          (pf h27 v2 4 11 (aI x28)).bind (fun h29 =>
          (gfR h29 o 3 1).bind (fun x30 =>
          (gfI h29 x30 2 1).bind (fun x31 =>
          (pf h29 v2 4 12 (aI x31)).bind (fun h32 =>
          (gfR h32 v4 1 1).bind (fun x33 =>
          (gfL h32 x33 0 0).bind (fun x34 =>
          (gfI h32 v1 6 5).bind (fun x35 =>
          (pf h32 x33 0 0 (aL (x34 - x35.toInt64))).bind (fun h36 =>
          (gfL h36 v3 10 12).bind (fun x37 =>
          (gfI h36 v1 6 5).bind (fun x38 =>
          (pf h36 v3 10 12 (aL (x37 + x38.toInt64))).bind (fun h39 =>
          cV (E 11 [aR v4, aR v1] h39) (fun h40 =>
          (gfI h40 o 3 3).bind (fun x41 =>
          (pf h40 o 3 3 (aI (x41 + (1 : Int32)))).bind (fun h42 =>
          some (.inl none, h42)))) xT))))))))))))))))) xT) xT)) xT) rfl rfl rfl (fun R E => rfl)
-- Chipcardhouse$Issuer.allStampsAreOfCards(Ljava/util/ArrayList;)Z
set_option maxRecDepth 100000 in
theorem lf_23_0 (o : Option (Nat × Nat)) (p0 : Option (Nat × Nat)) (h : Hp) : Ru 23 0 [(0, aR o), (1, aR p0)] [] h =
    Ru 23 2 [(0, aR o), (1, aR p0), (2, aI (0 : Int32))] [] h :=
  lift_of (k := 3) (rows := code_23) (cuts := cut_23) (hs := hdl_23) (r := fun R E =>
    R 2 [(0, aR o), (1, aR p0), (2, aI (0 : Int32))] [] h) rfl rfl rfl (fun R E => rfl)
set_option maxRecDepth 100000 in
theorem lf_23_2 (o : Option (Nat × Nat)) (v1 : Option (Nat × Nat)) (v2 : Int32) (h : Hp) : Ru 23 2 [(0, aR o), (1, aR v1), (2, aI v2)] [] h =
    (gfR h o 3 2).bind (fun x1 =>
    (len h x1).bind (fun x2 =>
    if x2 ≤ v2 then
      some (.inl (some (aI (1 : Int32))), h)
    else
      cI (Ex 17 [aR o, aI v2] h) (fun x4 h3 =>
      if x4 = 0 then
        Ru 23 2 [(0, aR o), (1, aR v1), (2, aI (v2 + (1 : Int32)))] [] h3
      else
        cR (Ex 14 [aR o, aI v2] h3) (fun x6 h5 =>
        cI (Ex 24 [aR x6, aR v1] h5) (fun x8 h7 =>
        if x8 = 0 then
          some (.inl (some (aI (0 : Int32))), h7)
        else
          Ru 23 2 [(0, aR o), (1, aR v1), (2, aI (v2 + (1 : Int32)))] [] h7) xT) xT) xT)) :=
  lift_of (k := 18) (rows := code_23) (cuts := cut_23) (hs := hdl_23) (r := fun R E =>
    (gfR h o 3 2).bind (fun x1 =>
    (len h x1).bind (fun x2 =>
    if x2 ≤ v2 then
      some (.inl (some (aI (1 : Int32))), h)
    else
      cI (E 17 [aR o, aI v2] h) (fun x4 h3 =>
      if x4 = 0 then
        R 2 [(0, aR o), (1, aR v1), (2, aI (v2 + (1 : Int32)))] [] h3
      else
        cR (E 14 [aR o, aI v2] h3) (fun x6 h5 =>
        cI (E 24 [aR x6, aR v1] h5) (fun x8 h7 =>
        if x8 = 0 then
          some (.inl (some (aI (0 : Int32))), h7)
        else
          R 2 [(0, aR o), (1, aR v1), (2, aI (v2 + (1 : Int32)))] [] h7) xT) xT) xT))) rfl rfl rfl (fun R E => rfl)
-- Chipcardhouse$Issuer.isStampOfOne(LChipcardhouse$Known;Ljava/util/ArrayList;)Z
set_option maxRecDepth 100000 in
theorem lf_24_0 (p0 : Option (Nat × Nat)) (p1 : Option (Nat × Nat)) (h : Hp) : Ru 24 0 [(0, aR p0), (1, aR p1)] [] h =
    if p0 = none then
      some (.inl (some (aI (0 : Int32))), h)
    else
      (gfR h p0 4 8).bind (fun x1 =>
      if x1 = none then
        some (.inl (some (aI (0 : Int32))), h)
      else
        (gfR h p0 4 8).bind (fun x2 =>
        Ru 24 20 [(0, aR p0), (1, aR p1), (2, aR x2), (3, aI (0 : Int32))] [] h)) :=
  lift_of (k := 11) (rows := code_24) (cuts := cut_24) (hs := hdl_24) (r := fun R E =>
    if p0 = none then
      some (.inl (some (aI (0 : Int32))), h)
    else
      (gfR h p0 4 8).bind (fun x1 =>
      if x1 = none then
        some (.inl (some (aI (0 : Int32))), h)
      else
        (gfR h p0 4 8).bind (fun x2 =>
        R 20 [(0, aR p0), (1, aR p1), (2, aR x2), (3, aI (0 : Int32))] [] h))) rfl rfl rfl (fun R E => rfl)
set_option maxRecDepth 100000 in
theorem lf_24_20 (o : Option (Nat × Nat)) (v1 : Option (Nat × Nat)) (v2 : Option (Nat × Nat)) (v3 : Int32) (h : Hp) : Ru 24 20 [(0, aR o), (1, aR v1), (2, aR v2), (3, aI v3)] [] h =
    cI (Ex 405 [aR v1] h) (fun x2 h1 =>
    if x2 ≤ v3 then
      some (.inl (some (aI (0 : Int32))), h1)
    else
      cR (Ex 402 [aR v1, aI v3] h1) (fun x4 h3 =>
      acc x4 7 h3 (
      (gfR h3 x4 7 1).bind (fun x5 =>
      (gfI h3 x5 1 0).bind (fun x6 =>
      (gfI h3 v2 6 2).bind (fun x7 =>
      if x6 = x7 then
        (gfI h3 x4 7 4).bind (fun x8 =>
        (gfI h3 v2 6 4).bind (fun x9 =>
        if x8 = x9 then
          (gfI h3 x4 7 3).bind (fun x10 =>
          (gfI h3 v2 6 5).bind (fun x11 =>
          if x10 = x11 then
            (gfR h3 x4 7 2).bind (fun x12 =>
            (gfR h3 o 4 10).bind (fun x13 =>
            aq h3 x12 x13 (if x12 = x13 then
              (gfI h3 x4 7 5).bind (fun x14 =>
              (gfI h3 v2 6 6).bind (fun x15 =>
              if x14 = x15 then
                some (.inl (some (aI (1 : Int32))), h3)
              else
                Ru 24 20 [(0, aR o), (1, aR v1), (2, aR v2), (3, aI (v3 + (1 : Int32)))] [] h3))
            else
              Ru 24 20 [(0, aR o), (1, aR v1), (2, aR v2), (3, aI (v3 + (1 : Int32)))] [] h3)))
          else
            Ru 24 20 [(0, aR o), (1, aR v1), (2, aR v2), (3, aI (v3 + (1 : Int32)))] [] h3))
        else
          Ru 24 20 [(0, aR o), (1, aR v1), (2, aR v2), (3, aI (v3 + (1 : Int32)))] [] h3))
      else
        Ru 24 20 [(0, aR o), (1, aR v1), (2, aR v2), (3, aI (v3 + (1 : Int32)))] [] h3))))) xT) xT :=
  lift_of (k := 38) (rows := code_24) (cuts := cut_24) (hs := hdl_24) (r := fun R E =>
    cI (E 405 [aR v1] h) (fun x2 h1 =>
    if x2 ≤ v3 then
      some (.inl (some (aI (0 : Int32))), h1)
    else
      cR (E 402 [aR v1, aI v3] h1) (fun x4 h3 =>
      acc x4 7 h3 (
      (gfR h3 x4 7 1).bind (fun x5 =>
      (gfI h3 x5 1 0).bind (fun x6 =>
      (gfI h3 v2 6 2).bind (fun x7 =>
      if x6 = x7 then
        (gfI h3 x4 7 4).bind (fun x8 =>
        (gfI h3 v2 6 4).bind (fun x9 =>
        if x8 = x9 then
          (gfI h3 x4 7 3).bind (fun x10 =>
          (gfI h3 v2 6 5).bind (fun x11 =>
          if x10 = x11 then
            (gfR h3 x4 7 2).bind (fun x12 =>
            (gfR h3 o 4 10).bind (fun x13 =>
            aq h3 x12 x13 (if x12 = x13 then
              (gfI h3 x4 7 5).bind (fun x14 =>
              (gfI h3 v2 6 6).bind (fun x15 =>
              if x14 = x15 then
                some (.inl (some (aI (1 : Int32))), h3)
              else
                R 20 [(0, aR o), (1, aR v1), (2, aR v2), (3, aI (v3 + (1 : Int32)))] [] h3))
            else
              R 20 [(0, aR o), (1, aR v1), (2, aR v2), (3, aI (v3 + (1 : Int32)))] [] h3)))
          else
            R 20 [(0, aR o), (1, aR v1), (2, aR v2), (3, aI (v3 + (1 : Int32)))] [] h3))
        else
          R 20 [(0, aR o), (1, aR v1), (2, aR v2), (3, aI (v3 + (1 : Int32)))] [] h3))
      else
        R 20 [(0, aR o), (1, aR v1), (2, aR v2), (3, aI (v3 + (1 : Int32)))] [] h3))))) xT) xT) rfl rfl rfl (fun R E => rfl)
-- Chipcardhouse$Issuer.eachCounterIsPostedOnce()Z
set_option maxRecDepth 100000 in
theorem lf_25_0 (o : Option (Nat × Nat)) (h : Hp) : Ru 25 0 [(0, aR o)] [] h =
    Ru 25 2 [(0, aR o), (1, aI (0 : Int32))] [] h :=
  lift_of (k := 3) (rows := code_25) (cuts := cut_25) (hs := hdl_25) (r := fun R E =>
    R 2 [(0, aR o), (1, aI (0 : Int32))] [] h) rfl rfl rfl (fun R E => rfl)
set_option maxRecDepth 100000 in
theorem lf_25_2 (o : Option (Nat × Nat)) (v1 : Int32) (h : Hp) : Ru 25 2 [(0, aR o), (1, aI v1)] [] h =
    (gfR h o 3 2).bind (fun x1 =>
    (len h x1).bind (fun x2 =>
    if x2 ≤ v1 then
      some (.inl (some (aI (1 : Int32))), h)
    else
      (gfR h o 3 2).bind (fun x3 =>
      (gaR h x3 v1).bind (fun x4 =>
      if x4 = none then
        Ru 25 2 [(0, aR o), (1, aI (v1 + (1 : Int32)))] [] h
      else
        (gfR h x4 4 8).bind (fun x5 =>
        if x5 = none then
          Ru 25 2 [(0, aR o), (1, aI (v1 + (1 : Int32)))] [] h
        else
          (gfR h x4 4 8).bind (fun x6 =>
          (gfI h x6 6 2).bind (fun x7 =>
          cR (Ex 16 [aR o, aI x7] h) (fun x9 h8 =>
          if x9 = none then
            some (.inl (some (aI (0 : Int32))), h8)
          else
            (gfR h8 x4 4 8).bind (fun x10 =>
            (gfI h8 x10 6 4).bind (fun x11 =>
            cI (Ex 10 [aR x9, aI x11] h8) (fun x13 h12 =>
            if x13 = v1 then
              Ru 25 2 [(0, aR o), (1, aI (v1 + (1 : Int32)))] [] h12
            else
              some (.inl (some (aI (0 : Int32))), h12)) xT))) xT))))))) :=
  lift_of (k := 33) (rows := code_25) (cuts := cut_25) (hs := hdl_25) (r := fun R E =>
    (gfR h o 3 2).bind (fun x1 =>
    (len h x1).bind (fun x2 =>
    if x2 ≤ v1 then
      some (.inl (some (aI (1 : Int32))), h)
    else
      (gfR h o 3 2).bind (fun x3 =>
      (gaR h x3 v1).bind (fun x4 =>
      if x4 = none then
        R 2 [(0, aR o), (1, aI (v1 + (1 : Int32)))] [] h
      else
        (gfR h x4 4 8).bind (fun x5 =>
        if x5 = none then
          R 2 [(0, aR o), (1, aI (v1 + (1 : Int32)))] [] h
        else
          (gfR h x4 4 8).bind (fun x6 =>
          (gfI h x6 6 2).bind (fun x7 =>
          cR (E 16 [aR o, aI x7] h) (fun x9 h8 =>
          if x9 = none then
            some (.inl (some (aI (0 : Int32))), h8)
          else
            (gfR h8 x4 4 8).bind (fun x10 =>
            (gfI h8 x10 6 4).bind (fun x11 =>
            cI (E 10 [aR x9, aI x11] h8) (fun x13 h12 =>
            if x13 = v1 then
              R 2 [(0, aR o), (1, aI (v1 + (1 : Int32)))] [] h12
            else
              some (.inl (some (aI (0 : Int32))), h12)) xT))) xT)))))))) rfl rfl rfl (fun R E => rfl)
-- Chipcardhouse$Issuer.noSettledHasHold()Z
set_option maxRecDepth 100000 in
theorem lf_26_0 (o : Option (Nat × Nat)) (h : Hp) : Ru 26 0 [(0, aR o)] [] h =
    Ru 26 2 [(0, aR o), (1, aI (0 : Int32))] [] h :=
  lift_of (k := 3) (rows := code_26) (cuts := cut_26) (hs := hdl_26) (r := fun R E =>
    R 2 [(0, aR o), (1, aI (0 : Int32))] [] h) rfl rfl rfl (fun R E => rfl)
set_option maxRecDepth 100000 in
theorem lf_26_2 (o : Option (Nat × Nat)) (v1 : Int32) (h : Hp) : Ru 26 2 [(0, aR o), (1, aI v1)] [] h =
    (gfR h o 3 2).bind (fun x1 =>
    (len h x1).bind (fun x2 =>
    if x2 ≤ v1 then
      some (.inl (some (aI (1 : Int32))), h)
    else
      (gfR h o 3 2).bind (fun x3 =>
      (gaR h x3 v1).bind (fun x4 =>
      if x4 = none then
        Ru 26 2 [(0, aR o), (1, aI (v1 + (1 : Int32)))] [] h
      else
        (gfR h x4 4 4).bind (fun x5 =>
        if x5 = none then
          Ru 26 2 [(0, aR o), (1, aI (v1 + (1 : Int32)))] [] h
        else
          cI (Ex 29 [aR x4] h) (fun x7 h6 =>
          if x7 = 0 then
            (gfI h6 x4 4 5).bind (fun x8 =>
            if x8 = 0 then
              Ru 26 2 [(0, aR o), (1, aI (v1 + (1 : Int32)))] [] h6
            else
              some (.inl (some (aI (0 : Int32))), h6))
          else
            some (.inl (some (aI (0 : Int32))), h6)) xT))))) :=
  lift_of (k := 24) (rows := code_26) (cuts := cut_26) (hs := hdl_26) (r := fun R E =>
    (gfR h o 3 2).bind (fun x1 =>
    (len h x1).bind (fun x2 =>
    if x2 ≤ v1 then
      some (.inl (some (aI (1 : Int32))), h)
    else
      (gfR h o 3 2).bind (fun x3 =>
      (gaR h x3 v1).bind (fun x4 =>
      if x4 = none then
        R 2 [(0, aR o), (1, aI (v1 + (1 : Int32)))] [] h
      else
        (gfR h x4 4 4).bind (fun x5 =>
        if x5 = none then
          R 2 [(0, aR o), (1, aI (v1 + (1 : Int32)))] [] h
        else
          cI (E 29 [aR x4] h) (fun x7 h6 =>
          if x7 = 0 then
            (gfI h6 x4 4 5).bind (fun x8 =>
            if x8 = 0 then
              R 2 [(0, aR o), (1, aI (v1 + (1 : Int32)))] [] h6
            else
              some (.inl (some (aI (0 : Int32))), h6))
          else
            some (.inl (some (aI (0 : Int32))), h6)) xT)))))) rfl rfl rfl (fun R E => rfl)
-- Chipcardhouse$Issuer.sumOfHolds(LChipcardhouse$Account;)J
set_option maxRecDepth 100000 in
theorem lf_27_0 (o : Option (Nat × Nat)) (p0 : Option (Nat × Nat)) (h : Hp) : Ru 27 0 [(0, aR o), (1, aR p0)] [] h =
    Ru 27 5 [(0, aR o), (1, aR p0), (2, aL (0 : Int64)), (4, aI (0 : Int32))] [] h :=
  lift_of (k := 5) (rows := code_27) (cuts := cut_27) (hs := hdl_27) (r := fun R E =>
    R 5 [(0, aR o), (1, aR p0), (2, aL (0 : Int64)), (4, aI (0 : Int32))] [] h) rfl rfl rfl (fun R E => rfl)
set_option maxRecDepth 100000 in
theorem lf_27_5 (o : Option (Nat × Nat)) (v1 : Option (Nat × Nat)) (v2 : Int64) (v4 : Int32) (h : Hp) : Ru 27 5 [(0, aR o), (1, aR v1), (2, aL v2), (4, aI v4)] [] h =
    (gfR h o 3 2).bind (fun x1 =>
    (len h x1).bind (fun x2 =>
    if x2 ≤ v4 then
      some (.inl (some (aL v2)), h)
    else
      (gfR h o 3 2).bind (fun x3 =>
      (gaR h x3 v4).bind (fun x4 =>
      if x4 = none then
        Ru 27 5 [(0, aR o), (1, aR v1), (2, aL v2), (4, aI (v4 + (1 : Int32)))] [] h
      else
        (gfR h x4 4 4).bind (fun x5 =>
        aq h x5 v1 (if x5 = v1 then
          (gfI h x4 4 3).bind (fun x6 =>
          Ru 27 5 [(0, aR o), (1, aR v1), (2, aL (v2 + x6.toInt64)), (4, aI (v4 + (1 : Int32)))] [] h)
        else
          Ru 27 5 [(0, aR o), (1, aR v1), (2, aL v2), (4, aI (v4 + (1 : Int32)))] [] h)))))) :=
  lift_of (k := 25) (rows := code_27) (cuts := cut_27) (hs := hdl_27) (r := fun R E =>
    (gfR h o 3 2).bind (fun x1 =>
    (len h x1).bind (fun x2 =>
    if x2 ≤ v4 then
      some (.inl (some (aL v2)), h)
    else
      (gfR h o 3 2).bind (fun x3 =>
      (gaR h x3 v4).bind (fun x4 =>
      if x4 = none then
        R 5 [(0, aR o), (1, aR v1), (2, aL v2), (4, aI (v4 + (1 : Int32)))] [] h
      else
        (gfR h x4 4 4).bind (fun x5 =>
        aq h x5 v1 (if x5 = v1 then
          (gfI h x4 4 3).bind (fun x6 =>
          R 5 [(0, aR o), (1, aR v1), (2, aL (v2 + x6.toInt64)), (4, aI (v4 + (1 : Int32)))] [] h)
        else
          R 5 [(0, aR o), (1, aR v1), (2, aL v2), (4, aI (v4 + (1 : Int32)))] [] h))))))) rfl rfl rfl (fun R E => rfl)
-- Chipcardhouse$Known.<init>()V
set_option maxRecDepth 100000 in
theorem lf_28_0 (o : Option (Nat × Nat)) (h : Hp) : Ru 28 0 [(0, aR o)] [] h =
    cV (Ex 420 [aR o] h) (fun h1 =>
    (pf h1 o 4 0 (aR none)).bind (fun h2 =>
    (pf h2 o 4 1 (aR none)).bind (fun h3 =>
    (pf h3 o 4 2 (aR none)).bind (fun h4 =>
    (pf h4 o 4 3 (aI (0 : Int32))).bind (fun h5 =>
    (pf h5 o 4 4 (aR none)).bind (fun h6 =>
    (pf h6 o 4 5 (aI (0 : Int32))).bind (fun h7 =>
    (pf h7 o 4 6 (aI (0 : Int32))).bind (fun h8 =>
    (pf h8 o 4 7 (aI (0 : Int32))).bind (fun h9 =>
    (pf h9 o 4 8 (aR none)).bind (fun h10 =>
    (pf h10 o 4 9 (aR none)).bind (fun h11 =>
    (pf h11 o 4 10 (aR none)).bind (fun h12 =>
    (pf h12 o 4 11 (aI (0 : Int32))).bind (fun h13 =>
    (pf h13 o 4 12 (aI (-1 : Int32))).bind (fun h14 =>
    some (.inl none, h14))))))))))))))) xT :=
  lift_of (k := 43) (rows := code_28) (cuts := cut_28) (hs := hdl_28) (r := fun R E =>
    cV (E 420 [aR o] h) (fun h1 =>
    (pf h1 o 4 0 (aR none)).bind (fun h2 =>
    (pf h2 o 4 1 (aR none)).bind (fun h3 =>
    (pf h3 o 4 2 (aR none)).bind (fun h4 =>
    (pf h4 o 4 3 (aI (0 : Int32))).bind (fun h5 =>
    (pf h5 o 4 4 (aR none)).bind (fun h6 =>
    (pf h6 o 4 5 (aI (0 : Int32))).bind (fun h7 =>
    (pf h7 o 4 6 (aI (0 : Int32))).bind (fun h8 =>
    (pf h8 o 4 7 (aI (0 : Int32))).bind (fun h9 =>
    (pf h9 o 4 8 (aR none)).bind (fun h10 =>
    (pf h10 o 4 9 (aR none)).bind (fun h11 =>
    (pf h11 o 4 10 (aR none)).bind (fun h12 =>
    (pf h12 o 4 11 (aI (0 : Int32))).bind (fun h13 =>
    (pf h13 o 4 12 (aI (-1 : Int32))).bind (fun h14 =>
    some (.inl none, h14))))))))))))))) xT) rfl rfl rfl (fun R E => rfl)
-- Chipcardhouse$Known.isPosted()Z
set_option maxRecDepth 100000 in
theorem lf_29_0 (o : Option (Nat × Nat)) (h : Hp) : Ru 29 0 [(0, aR o)] [] h =
    (gfR h o 4 8).bind (fun x1 =>
    if x1 = none then
      some (.inl (some (aI (0 : Int32))), h)
    else
      some (.inl (some (aI (1 : Int32))), h)) :=
  lift_of (k := 7) (rows := code_29) (cuts := cut_29) (hs := hdl_29) (r := fun R E =>
    (gfR h o 4 8).bind (fun x1 =>
    if x1 = none then
      some (.inl (some (aI (0 : Int32))), h)
    else
      some (.inl (some (aI (1 : Int32))), h))) rfl rfl rfl (fun R E => rfl)
-- Chipcardhouse$Known.beHeld(ILChipcardhouse$Account;)V
set_option maxRecDepth 100000 in
theorem lf_30_0 (o : Option (Nat × Nat)) (p0 : Int32) (p1 : Option (Nat × Nat)) (h : Hp) : Ru 30 0 [(0, aR o), (1, aI p0), (2, aR p1)] [] h =
    (gfR h o 4 4).bind (fun x1 =>
    if x1 = none then
      (pf h o 4 3 (aI p0)).bind (fun h2 =>
      (pf h2 o 4 4 (aR p1)).bind (fun h3 =>
      (gfL h3 p1 0 1).bind (fun x4 =>
      (pf h3 p1 0 1 (aL (x4 + p0.toInt64))).bind (fun h5 =>
      some (.inl none, h5)))))
    else
      some (.inl none, h)) :=
  lift_of (k := 18) (rows := code_30) (cuts := cut_30) (hs := hdl_30) (r := fun R E =>
    (gfR h o 4 4).bind (fun x1 =>
    if x1 = none then
      (pf h o 4 3 (aI p0)).bind (fun h2 =>
      (pf h2 o 4 4 (aR p1)).bind (fun h3 =>
      (gfL h3 p1 0 1).bind (fun x4 =>
      (pf h3 p1 0 1 (aL (x4 + p0.toInt64))).bind (fun h5 =>
      some (.inl none, h5)))))
    else
      some (.inl none, h))) rfl rfl rfl (fun R E => rfl)
-- Chipcardhouse$Known.endHold()V
set_option maxRecDepth 100000 in
theorem lf_31_0 (o : Option (Nat × Nat)) (h : Hp) : Ru 31 0 [(0, aR o)] [] h =
    (gfR h o 4 4).bind (fun x1 =>
    if x1 = none then
      some (.inl none, h)
    else
      (gfR h o 4 4).bind (fun x2 =>
      (gfL h x2 0 1).bind (fun x3 =>
      (gfI h o 4 3).bind (fun x4 =>
      (pf h x2 0 1 (aL (x3 - x4.toInt64))).bind (fun h5 =>
      (pf h5 o 4 3 (aI (0 : Int32))).bind (fun h6 =>
      (pf h6 o 4 4 (aR none)).bind (fun h7 =>
      some (.inl none, h7)))))))) :=
  lift_of (k := 20) (rows := code_31) (cuts := cut_31) (hs := hdl_31) (r := fun R E =>
    (gfR h o 4 4).bind (fun x1 =>
    if x1 = none then
      some (.inl none, h)
    else
      (gfR h o 4 4).bind (fun x2 =>
      (gfL h x2 0 1).bind (fun x3 =>
      (gfI h o 4 3).bind (fun x4 =>
      (pf h x2 0 1 (aL (x3 - x4.toInt64))).bind (fun h5 =>
      (pf h5 o 4 3 (aI (0 : Int32))).bind (fun h6 =>
      (pf h6 o 4 4 (aR none)).bind (fun h7 =>
      some (.inl none, h7))))))))) rfl rfl rfl (fun R E => rfl)
-- Chipcardhouse$Known.takeBack()V
set_option maxRecDepth 100000 in
theorem lf_32_0 (o : Option (Nat × Nat)) (h : Hp) : Ru 32 0 [(0, aR o)] [] h =
    cI (Ex 29 [aR o] h) (fun x2 h1 =>
    if x2 = 0 then
      (pf h1 o 4 5 (aI (1 : Int32))).bind (fun h3 =>
      cV (Ex 31 [aR o] h3) (fun h4 =>
      some (.inl none, h4)) xT)
    else
      cV (Ex 31 [aR o] h1) (fun h5 =>
      some (.inl none, h5)) xT) xT :=
  lift_of (k := 10) (rows := code_32) (cuts := cut_32) (hs := hdl_32) (r := fun R E =>
    cI (E 29 [aR o] h) (fun x2 h1 =>
    if x2 = 0 then
      (pf h1 o 4 5 (aI (1 : Int32))).bind (fun h3 =>
      cV (E 31 [aR o] h3) (fun h4 =>
      some (.inl none, h4)) xT)
    else
      cV (E 31 [aR o] h1) (fun h5 =>
      some (.inl none, h5)) xT) xT) rfl rfl rfl (fun R E => rfl)
-- Chipcardhouse$Known.isGranted(LChipcardhouse$Message;)Z
set_option maxRecDepth 100000 in
theorem lf_33_0 (o : Option (Nat × Nat)) (p0 : Option (Nat × Nat)) (h : Hp) : Ru 33 0 [(0, aR o), (1, aR p0)] [] h =
    (gfR h o 4 1).bind (fun x1 =>
    if x1 = none then
      (gfI h p0 6 7).bind (fun x2 =>
      if x2 = (2 : Int32) then
        (gfR h o 4 2).bind (fun x3 =>
        Ru 33 51 [(0, aR o), (1, aR p0)] [aR x3] h)
      else
        if (0 : Int32) = 0 then
          Ru 33 51 [(0, aR o), (1, aR p0)] [aR none] h
        else
          (gfR h o 4 0).bind (fun x4 =>
          Ru 33 51 [(0, aR o), (1, aR p0)] [aR x4] h))
    else
      (gfR h o 4 1).bind (fun x5 =>
      (gfI h x5 6 8).bind (fun x6 =>
      if x6 = (1 : Int32) then
        (gfI h p0 6 7).bind (fun x7 =>
        if x7 = (2 : Int32) then
          (gfR h o 4 2).bind (fun x8 =>
          Ru 33 51 [(0, aR o), (1, aR p0)] [aR x8] h)
        else
          if (1 : Int32) = 0 then
            Ru 33 51 [(0, aR o), (1, aR p0)] [aR none] h
          else
            (gfR h o 4 0).bind (fun x9 =>
            Ru 33 51 [(0, aR o), (1, aR p0)] [aR x9] h))
      else
        (gfI h p0 6 7).bind (fun x10 =>
        if x10 = (2 : Int32) then
          (gfR h o 4 2).bind (fun x11 =>
          Ru 33 51 [(0, aR o), (1, aR p0)] [aR x11] h)
        else
          if (0 : Int32) = 0 then
            Ru 33 51 [(0, aR o), (1, aR p0)] [aR none] h
          else
            (gfR h o 4 0).bind (fun x12 =>
            Ru 33 51 [(0, aR o), (1, aR p0)] [aR x12] h))))) :=
  lift_of (k := 21) (rows := code_33) (cuts := cut_33) (hs := hdl_33) (r := fun R E =>
    (gfR h o 4 1).bind (fun x1 =>
    if x1 = none then
      (gfI h p0 6 7).bind (fun x2 =>
      if x2 = (2 : Int32) then
        (gfR h o 4 2).bind (fun x3 =>
        R 51 [(0, aR o), (1, aR p0)] [aR x3] h)
      else
        if (0 : Int32) = 0 then
          R 51 [(0, aR o), (1, aR p0)] [aR none] h
        else
          (gfR h o 4 0).bind (fun x4 =>
          R 51 [(0, aR o), (1, aR p0)] [aR x4] h))
    else
      (gfR h o 4 1).bind (fun x5 =>
      (gfI h x5 6 8).bind (fun x6 =>
      if x6 = (1 : Int32) then
        (gfI h p0 6 7).bind (fun x7 =>
        if x7 = (2 : Int32) then
          (gfR h o 4 2).bind (fun x8 =>
          R 51 [(0, aR o), (1, aR p0)] [aR x8] h)
        else
          if (1 : Int32) = 0 then
            R 51 [(0, aR o), (1, aR p0)] [aR none] h
          else
            (gfR h o 4 0).bind (fun x9 =>
            R 51 [(0, aR o), (1, aR p0)] [aR x9] h))
      else
        (gfI h p0 6 7).bind (fun x10 =>
        if x10 = (2 : Int32) then
          (gfR h o 4 2).bind (fun x11 =>
          R 51 [(0, aR o), (1, aR p0)] [aR x11] h)
        else
          if (0 : Int32) = 0 then
            R 51 [(0, aR o), (1, aR p0)] [aR none] h
          else
            (gfR h o 4 0).bind (fun x12 =>
            R 51 [(0, aR o), (1, aR p0)] [aR x12] h)))))) rfl rfl rfl (fun R E => rfl)
set_option maxRecDepth 100000 in
theorem lf_33_51 (o : Option (Nat × Nat)) (v1 : Option (Nat × Nat)) (s0 : Option (Nat × Nat)) (h : Hp) : Ru 33 51 [(0, aR o), (1, aR v1)] [aR s0] h =
    if s0 = none then
      some (.inl (some (aI (0 : Int32))), h)
    else
      (gfI h o 4 5).bind (fun x1 =>
      if x1 = 0 then
        (gfI h s0 6 2).bind (fun x2 =>
        (gfI h v1 6 2).bind (fun x3 =>
        if x2 = x3 then
          (gfI h s0 6 4).bind (fun x4 =>
          (gfI h v1 6 4).bind (fun x5 =>
          if x4 = x5 then
            (gfI h s0 6 5).bind (fun x6 =>
            (gfI h v1 6 5).bind (fun x7 =>
            if x6 = x7 then
              some (.inl (some (aI (1 : Int32))), h)
            else
              some (.inl (some (aI (0 : Int32))), h)))
          else
            some (.inl (some (aI (0 : Int32))), h)))
        else
          some (.inl (some (aI (0 : Int32))), h)))
      else
        some (.inl (some (aI (0 : Int32))), h)) :=
  lift_of (k := 25) (rows := code_33) (cuts := cut_33) (hs := hdl_33) (r := fun R E =>
    if s0 = none then
      some (.inl (some (aI (0 : Int32))), h)
    else
      (gfI h o 4 5).bind (fun x1 =>
      if x1 = 0 then
        (gfI h s0 6 2).bind (fun x2 =>
        (gfI h v1 6 2).bind (fun x3 =>
        if x2 = x3 then
          (gfI h s0 6 4).bind (fun x4 =>
          (gfI h v1 6 4).bind (fun x5 =>
          if x4 = x5 then
            (gfI h s0 6 5).bind (fun x6 =>
            (gfI h v1 6 5).bind (fun x7 =>
            if x6 = x7 then
              some (.inl (some (aI (1 : Int32))), h)
            else
              some (.inl (some (aI (0 : Int32))), h)))
          else
            some (.inl (some (aI (0 : Int32))), h)))
        else
          some (.inl (some (aI (0 : Int32))), h)))
      else
        some (.inl (some (aI (0 : Int32))), h))) rfl rfl rfl (fun R E => rfl)
-- Chipcardhouse$Known.hearBackMoney(ILChipcardhouse$Terminal;)V
set_option maxRecDepth 100000 in
theorem lf_34_0 (o : Option (Nat × Nat)) (p0 : Int32) (p1 : Option (Nat × Nat)) (h : Hp) : Ru 34 0 [(0, aR o), (1, aI p0), (2, aR p1)] [] h =
    cI (Ex 29 [aR o] h) (fun x2 h1 =>
    if x2 = 0 then
      some (.inl none, h1)
    else
      (gfR h1 o 4 10).bind (fun x3 =>
      aq h1 x3 p1 (if x3 = p1 then
        (gfI h1 o 4 11).bind (fun x4 =>
        if x4 < p0 then
          some (.inl none, h1)
        else
          cV (Ex 35 [aR o, aI p0] h1) (fun h5 =>
          some (.inl none, h5)) xT)
      else
        some (.inl none, h1)))) xT :=
  lift_of (k := 16) (rows := code_34) (cuts := cut_34) (hs := hdl_34) (r := fun R E =>
    cI (E 29 [aR o] h) (fun x2 h1 =>
    if x2 = 0 then
      some (.inl none, h1)
    else
      (gfR h1 o 4 10).bind (fun x3 =>
      aq h1 x3 p1 (if x3 = p1 then
        (gfI h1 o 4 11).bind (fun x4 =>
        if x4 < p0 then
          some (.inl none, h1)
        else
          cV (E 35 [aR o, aI p0] h1) (fun h5 =>
          some (.inl none, h5)) xT)
      else
        some (.inl none, h1)))) xT) rfl rfl rfl (fun R E => rfl)
-- Chipcardhouse$Known.giveBack(I)V
set_option maxRecDepth 100000 in
theorem lf_35_0 (o : Option (Nat × Nat)) (p0 : Int32) (h : Hp) : Ru 35 0 [(0, aR o), (1, aI p0)] [] h =
    (gfR h o 4 9).bind (fun x1 =>
    if x1 = none then
      some (.inl none, h)
    else
      (gfR h o 4 10).bind (fun x2 =>
      if x2 = none then
        some (.inl none, h)
      else
        (gfI h o 4 11).bind (fun x3 =>
        (pf h o 4 11 (aI (x3 - p0))).bind (fun h4 =>
        (gfR h4 o 4 10).bind (fun x5 =>
        (gfL h4 x5 10 12).bind (fun x6 =>
        (pf h4 x5 10 12 (aL (x6 - p0.toInt64))).bind (fun h7 =>
        (gfR h7 o 4 9).bind (fun x8 =>
        (gfL h7 x8 0 0).bind (fun x9 =>
        (pf h7 x8 0 0 (aL (x9 + p0.toInt64))).bind (fun h10 =>
        some (.inl none, h10))))))))))) :=
  lift_of (k := 30) (rows := code_35) (cuts := cut_35) (hs := hdl_35) (r := fun R E =>
    (gfR h o 4 9).bind (fun x1 =>
    if x1 = none then
      some (.inl none, h)
    else
      (gfR h o 4 10).bind (fun x2 =>
      if x2 = none then
        some (.inl none, h)
      else
        (gfI h o 4 11).bind (fun x3 =>
        (pf h o 4 11 (aI (x3 - p0))).bind (fun h4 =>
        (gfR h4 o 4 10).bind (fun x5 =>
        (gfL h4 x5 10 12).bind (fun x6 =>
        (pf h4 x5 10 12 (aL (x6 - p0.toInt64))).bind (fun h7 =>
        (gfR h7 o 4 9).bind (fun x8 =>
        (gfL h7 x8 0 0).bind (fun x9 =>
        (pf h7 x8 0 0 (aL (x9 + p0.toInt64))).bind (fun h10 =>
        some (.inl none, h10)))))))))))) rfl rfl rfl (fun R E => rfl)
-- Chipcardhouse$Line.<init>(LChipcardhouse$Clock;)V
set_option maxRecDepth 100000 in
theorem lf_36_0 (o : Option (Nat × Nat)) (p0 : Option (Nat × Nat)) (h : Hp) : Ru 36 0 [(0, aR o), (1, aR p0)] [] h =
    cV (Ex 420 [aR o] h) (fun h1 =>
    (nwa h1 8 1000 (3 : Int32)).bind (fun q2 =>
    (pf q2.2 o 5 1 (aR q2.1)).bind (fun h3 =>
    cV (Ex 400 [aR (nob h3 9 21 [0, 4, 0]).1] (nob h3 9 21 [0, 4, 0]).2) (fun h4 =>
    (pf h4 o 5 2 (aR (nob h3 9 21 [0, 4, 0]).1)).bind (fun h5 =>
    (pf h5 o 5 3 (aI (0 : Int32))).bind (fun h6 =>
    (pf h6 o 5 0 (aR p0)).bind (fun h7 =>
    some (.inl none, h7))))) xT))) xT :=
  lift_of (k := 19) (rows := code_36) (cuts := cut_36) (hs := hdl_36) (r := fun R E =>
    cV (E 420 [aR o] h) (fun h1 =>
    (nwa h1 8 1000 (3 : Int32)).bind (fun q2 =>
    (pf q2.2 o 5 1 (aR q2.1)).bind (fun h3 =>
    cV (E 400 [aR (nob h3 9 21 [0, 4, 0]).1] (nob h3 9 21 [0, 4, 0]).2) (fun h4 =>
    (pf h4 o 5 2 (aR (nob h3 9 21 [0, 4, 0]).1)).bind (fun h5 =>
    (pf h5 o 5 3 (aI (0 : Int32))).bind (fun h6 =>
    (pf h6 o 5 0 (aR p0)).bind (fun h7 =>
    some (.inl none, h7))))) xT))) xT) rfl rfl rfl (fun R E => rfl)
-- Chipcardhouse$Line.put(LChipcardhouse$Message;)V
set_option maxRecDepth 100000 in
theorem lf_37_0 (o : Option (Nat × Nat)) (p0 : Option (Nat × Nat)) (h : Hp) : Ru 37 0 [(0, aR o), (1, aR p0)] [] h =
    cI (Ex 38 [aR o] h) (fun x2 h1 =>
    if x2 = 0 then
      Ru 37 27 [(0, aR o), (1, aR p0), (2, aI x2), (3, aI (0 : Int32)), (4, aI (0 : Int32))] [] h1
    else
      if x2 = (1 : Int32) then
        Ru 37 27 [(0, aR o), (1, aR p0), (2, aI x2), (3, aI (2 : Int32)), (4, aI (0 : Int32))] [] h1
      else
        Ru 37 27 [(0, aR o), (1, aR p0), (2, aI x2), (3, aI (1 : Int32)), (4, aI (0 : Int32))] [] h1) xT :=
  lift_of (k := 14) (rows := code_37) (cuts := cut_37) (hs := hdl_37) (r := fun R E =>
    cI (E 38 [aR o] h) (fun x2 h1 =>
    if x2 = 0 then
      R 27 [(0, aR o), (1, aR p0), (2, aI x2), (3, aI (0 : Int32)), (4, aI (0 : Int32))] [] h1
    else
      if x2 = (1 : Int32) then
        R 27 [(0, aR o), (1, aR p0), (2, aI x2), (3, aI (2 : Int32)), (4, aI (0 : Int32))] [] h1
      else
        R 27 [(0, aR o), (1, aR p0), (2, aI x2), (3, aI (1 : Int32)), (4, aI (0 : Int32))] [] h1) xT) rfl rfl rfl (fun R E => rfl)
set_option maxRecDepth 100000 in
theorem lf_37_27 (o : Option (Nat × Nat)) (v1 : Option (Nat × Nat)) (v2 : Int32) (v3 : Int32) (v4 : Int32) (h : Hp) : Ru 37 27 [(0, aR o), (1, aR v1), (2, aI v2), (3, aI v3), (4, aI v4)] [] h =
    if v3 ≤ v4 then
      some (.inl none, h)
    else
      (gfI h o 5 3).bind (fun x1 =>
      (gfR h o 5 2).bind (fun x2 =>
      cI (Ex 405 [aR x2] h) (fun x4 h3 =>
      if x1 < x4 then
        (gfR h3 o 5 2).bind (fun x5 =>
        (gfI h3 o 5 3).bind (fun x6 =>
        cR (Ex 402 [aR x5, aI x6] h3) (fun x8 h7 =>
        acc x8 6 h7 (
        cR (Ex 41 [aR x8, aR v1] h7) (fun x10 h9 =>
        (gfR h9 o 5 0).bind (fun x11 =>
        (gfI h9 x11 2 0).bind (fun x12 =>
        (gfR h9 o 5 0).bind (fun x13 =>
        (gfI h9 x13 2 2).bind (fun x14 =>
        if v2 = (2 : Int32) then
          (pf h9 x10 6 12 (aI ((x12 + x14) + (4 : Int32)))).bind (fun h15 =>
          (gfI h15 o 5 3).bind (fun x16 =>
          (pf h15 o 5 3 (aI (x16 + (1 : Int32)))).bind (fun h17 =>
          Ru 37 27 [(0, aR o), (1, aR v1), (2, aI v2), (3, aI v3), (4, aI (v4 + (1 : Int32)))] [] h17)))
        else
          (pf h9 x10 6 12 (aI ((x12 + x14) + (0 : Int32)))).bind (fun h18 =>
          (gfI h18 o 5 3).bind (fun x19 =>
          (pf h18 o 5 3 (aI (x19 + (1 : Int32)))).bind (fun h20 =>
          Ru 37 27 [(0, aR o), (1, aR v1), (2, aI v2), (3, aI v3), (4, aI (v4 + (1 : Int32)))] [] h20)))))))) xT)) xT))
      else
        (gfR h3 o 5 2).bind (fun x21 =>
        cV (Ex 40 [aR (nob h3 10 6 [0, 0, 0, 0, 0, 0, 0, 0, 0, 0, 0, 0, 0, 0, 0]).1, aI (0 : Int32), aI (-1 : Int32)] (nob h3 10 6 [0, 0, 0, 0, 0, 0, 0, 0, 0, 0, 0, 0, 0, 0, 0]).2) (fun h22 =>
        cI (Ex 401 [aR x21, aR (nob h3 10 6 [0, 0, 0, 0, 0, 0, 0, 0, 0, 0, 0, 0, 0, 0, 0]).1] h22) (fun x24 h23 =>
        (gfR h23 o 5 2).bind (fun x25 =>
        (gfI h23 o 5 3).bind (fun x26 =>
        cR (Ex 402 [aR x25, aI x26] h23) (fun x28 h27 =>
        acc x28 6 h27 (
        cR (Ex 41 [aR x28, aR v1] h27) (fun x30 h29 =>
        (gfR h29 o 5 0).bind (fun x31 =>
        (gfI h29 x31 2 0).bind (fun x32 =>
        (gfR h29 o 5 0).bind (fun x33 =>
        (gfI h29 x33 2 2).bind (fun x34 =>
        if v2 = (2 : Int32) then
          (pf h29 x30 6 12 (aI ((x32 + x34) + (4 : Int32)))).bind (fun h35 =>
          (gfI h35 o 5 3).bind (fun x36 =>
          (pf h35 o 5 3 (aI (x36 + (1 : Int32)))).bind (fun h37 =>
          Ru 37 27 [(0, aR o), (1, aR v1), (2, aI v2), (3, aI v3), (4, aI (v4 + (1 : Int32)))] [] h37)))
        else
          (pf h29 x30 6 12 (aI ((x32 + x34) + (0 : Int32)))).bind (fun h38 =>
          (gfI h38 o 5 3).bind (fun x39 =>
          (pf h38 o 5 3 (aI (x39 + (1 : Int32)))).bind (fun h40 =>
          Ru 37 27 [(0, aR o), (1, aR v1), (2, aI v2), (3, aI v3), (4, aI (v4 + (1 : Int32)))] [] h40)))))))) xT)) xT))) xT) xT)) xT)) :=
  lift_of (k := 51) (rows := code_37) (cuts := cut_37) (hs := hdl_37) (r := fun R E =>
    if v3 ≤ v4 then
      some (.inl none, h)
    else
      (gfI h o 5 3).bind (fun x1 =>
      (gfR h o 5 2).bind (fun x2 =>
      cI (E 405 [aR x2] h) (fun x4 h3 =>
      if x1 < x4 then
        (gfR h3 o 5 2).bind (fun x5 =>
        (gfI h3 o 5 3).bind (fun x6 =>
        cR (E 402 [aR x5, aI x6] h3) (fun x8 h7 =>
        acc x8 6 h7 (
        cR (E 41 [aR x8, aR v1] h7) (fun x10 h9 =>
        (gfR h9 o 5 0).bind (fun x11 =>
        (gfI h9 x11 2 0).bind (fun x12 =>
        (gfR h9 o 5 0).bind (fun x13 =>
        (gfI h9 x13 2 2).bind (fun x14 =>
        if v2 = (2 : Int32) then
          (pf h9 x10 6 12 (aI ((x12 + x14) + (4 : Int32)))).bind (fun h15 =>
          (gfI h15 o 5 3).bind (fun x16 =>
          (pf h15 o 5 3 (aI (x16 + (1 : Int32)))).bind (fun h17 =>
          R 27 [(0, aR o), (1, aR v1), (2, aI v2), (3, aI v3), (4, aI (v4 + (1 : Int32)))] [] h17)))
        else
          (pf h9 x10 6 12 (aI ((x12 + x14) + (0 : Int32)))).bind (fun h18 =>
          (gfI h18 o 5 3).bind (fun x19 =>
          (pf h18 o 5 3 (aI (x19 + (1 : Int32)))).bind (fun h20 =>
          R 27 [(0, aR o), (1, aR v1), (2, aI v2), (3, aI v3), (4, aI (v4 + (1 : Int32)))] [] h20)))))))) xT)) xT))
      else
        (gfR h3 o 5 2).bind (fun x21 =>
        cV (E 40 [aR (nob h3 10 6 [0, 0, 0, 0, 0, 0, 0, 0, 0, 0, 0, 0, 0, 0, 0]).1, aI (0 : Int32), aI (-1 : Int32)] (nob h3 10 6 [0, 0, 0, 0, 0, 0, 0, 0, 0, 0, 0, 0, 0, 0, 0]).2) (fun h22 =>
        cI (E 401 [aR x21, aR (nob h3 10 6 [0, 0, 0, 0, 0, 0, 0, 0, 0, 0, 0, 0, 0, 0, 0]).1] h22) (fun x24 h23 =>
        (gfR h23 o 5 2).bind (fun x25 =>
        (gfI h23 o 5 3).bind (fun x26 =>
        cR (E 402 [aR x25, aI x26] h23) (fun x28 h27 =>
        acc x28 6 h27 (
        cR (E 41 [aR x28, aR v1] h27) (fun x30 h29 =>
        (gfR h29 o 5 0).bind (fun x31 =>
        (gfI h29 x31 2 0).bind (fun x32 =>
        (gfR h29 o 5 0).bind (fun x33 =>
        (gfI h29 x33 2 2).bind (fun x34 =>
        if v2 = (2 : Int32) then
          (pf h29 x30 6 12 (aI ((x32 + x34) + (4 : Int32)))).bind (fun h35 =>
          (gfI h35 o 5 3).bind (fun x36 =>
          (pf h35 o 5 3 (aI (x36 + (1 : Int32)))).bind (fun h37 =>
          R 27 [(0, aR o), (1, aR v1), (2, aI v2), (3, aI v3), (4, aI (v4 + (1 : Int32)))] [] h37)))
        else
          (pf h29 x30 6 12 (aI ((x32 + x34) + (0 : Int32)))).bind (fun h38 =>
          (gfI h38 o 5 3).bind (fun x39 =>
          (pf h38 o 5 3 (aI (x39 + (1 : Int32)))).bind (fun h40 =>
          R 27 [(0, aR o), (1, aR v1), (2, aI v2), (3, aI v3), (4, aI (v4 + (1 : Int32)))] [] h40)))))))) xT)) xT))) xT) xT)) xT))) rfl rfl rfl (fun R E => rfl)
-- Chipcardhouse$Line.takeFault()I
set_option maxRecDepth 100000 in
theorem lf_38_0 (o : Option (Nat × Nat)) (h : Hp) : Ru 38 0 [(0, aR o)] [] h =
    Ru 38 2 [(0, aR o), (1, aI (0 : Int32))] [] h :=
  lift_of (k := 3) (rows := code_38) (cuts := cut_38) (hs := hdl_38) (r := fun R E =>
    R 2 [(0, aR o), (1, aI (0 : Int32))] [] h) rfl rfl rfl (fun R E => rfl)
set_option maxRecDepth 100000 in
theorem lf_38_2 (o : Option (Nat × Nat)) (v1 : Int32) (h : Hp) : Ru 38 2 [(0, aR o), (1, aI v1)] [] h =
    (gfR h o 5 1).bind (fun x1 =>
    (len h x1).bind (fun x2 =>
    if x2 ≤ v1 then
      some (.inl (some (aI (-1 : Int32))), h)
    else
      (gfR h o 5 1).bind (fun x3 =>
      (gaI h x3 1000 v1).bind (fun x4 =>
      if x4 ≤ 0 then
        Ru 38 2 [(0, aR o), (1, aI (v1 + (1 : Int32)))] [] h
      else
        (gfR h o 5 1).bind (fun x5 =>
        (gaI h x5 1000 v1).bind (fun x6 =>
        (pa h x5 1000 v1 (aI (x6 - (1 : Int32)))).bind (fun h7 =>
        some (.inl (some (aI v1)), h7)))))))) :=
  lift_of (k := 21) (rows := code_38) (cuts := cut_38) (hs := hdl_38) (r := fun R E =>
    (gfR h o 5 1).bind (fun x1 =>
    (len h x1).bind (fun x2 =>
    if x2 ≤ v1 then
      some (.inl (some (aI (-1 : Int32))), h)
    else
      (gfR h o 5 1).bind (fun x3 =>
      (gaI h x3 1000 v1).bind (fun x4 =>
      if x4 ≤ 0 then
        R 2 [(0, aR o), (1, aI (v1 + (1 : Int32)))] [] h
      else
        (gfR h o 5 1).bind (fun x5 =>
        (gaI h x5 1000 v1).bind (fun x6 =>
        (pa h x5 1000 v1 (aI (x6 - (1 : Int32)))).bind (fun h7 =>
        some (.inl (some (aI v1)), h7))))))))) rfl rfl rfl (fun R E => rfl)
-- Chipcardhouse$Line.dropCome()V
set_option maxRecDepth 100000 in
theorem lf_39_0 (o : Option (Nat × Nat)) (h : Hp) : Ru 39 0 [(0, aR o)] [] h =
    Ru 39 4 [(0, aR o), (1, aI (0 : Int32)), (2, aI (0 : Int32))] [] h :=
  lift_of (k := 5) (rows := code_39) (cuts := cut_39) (hs := hdl_39) (r := fun R E =>
    R 4 [(0, aR o), (1, aI (0 : Int32)), (2, aI (0 : Int32))] [] h) rfl rfl rfl (fun R E => rfl)
set_option maxRecDepth 100000 in
theorem lf_39_4 (o : Option (Nat × Nat)) (v1 : Int32) (v2 : Int32) (h : Hp) : Ru 39 4 [(0, aR o), (1, aI v1), (2, aI v2)] [] h =
    (gfI h o 5 3).bind (fun x1 =>
    if x1 ≤ v2 then
      (pf h o 5 3 (aI v1)).bind (fun h2 =>
      some (.inl none, h2))
    else
      (gfR h o 5 2).bind (fun x3 =>
      cR (Ex 402 [aR x3, aI v2] h) (fun x5 h4 =>
      acc x5 6 h4 (
      (gfI h4 x5 6 12).bind (fun x6 =>
      (gfR h4 o 5 0).bind (fun x7 =>
      (gfI h4 x7 2 0).bind (fun x8 =>
      if x6 = x8 then
        Ru 39 4 [(0, aR o), (1, aI v1), (2, aI (v2 + (1 : Int32)))] [] h4
      else
        (gfR h4 o 5 2).bind (fun x9 =>
        (gfR h4 o 5 2).bind (fun x10 =>
        cR (Ex 402 [aR x10, aI v1] h4) (fun x12 h11 =>
        acc x12 6 h11 (
        cR (Ex 403 [aR x9, aI v2, aR x12] h11) (fun x14 h13 =>
        (gfR h13 o 5 2).bind (fun x15 =>
        cR (Ex 403 [aR x15, aI v1, aR x5] h13) (fun x17 h16 =>
        Ru 39 4 [(0, aR o), (1, aI (v1 + (1 : Int32))), (2, aI (v2 + (1 : Int32)))] [] h16) xT)) xT)) xT))))))) xT)) :=
  lift_of (k := 36) (rows := code_39) (cuts := cut_39) (hs := hdl_39) (r := fun R E =>
    (gfI h o 5 3).bind (fun x1 =>
    if x1 ≤ v2 then
      (pf h o 5 3 (aI v1)).bind (fun h2 =>
      some (.inl none, h2))
    else
      (gfR h o 5 2).bind (fun x3 =>
      cR (E 402 [aR x3, aI v2] h) (fun x5 h4 =>
      acc x5 6 h4 (
      (gfI h4 x5 6 12).bind (fun x6 =>
      (gfR h4 o 5 0).bind (fun x7 =>
      (gfI h4 x7 2 0).bind (fun x8 =>
      if x6 = x8 then
        R 4 [(0, aR o), (1, aI v1), (2, aI (v2 + (1 : Int32)))] [] h4
      else
        (gfR h4 o 5 2).bind (fun x9 =>
        (gfR h4 o 5 2).bind (fun x10 =>
        cR (E 402 [aR x10, aI v1] h4) (fun x12 h11 =>
        acc x12 6 h11 (
        cR (E 403 [aR x9, aI v2, aR x12] h11) (fun x14 h13 =>
        (gfR h13 o 5 2).bind (fun x15 =>
        cR (E 403 [aR x15, aI v1, aR x5] h13) (fun x17 h16 =>
        R 4 [(0, aR o), (1, aI (v1 + (1 : Int32))), (2, aI (v2 + (1 : Int32)))] [] h16) xT)) xT)) xT))))))) xT))) rfl rfl rfl (fun R E => rfl)
-- Chipcardhouse$Message.<init>(II)V
set_option maxRecDepth 100000 in
theorem lf_40_0 (o : Option (Nat × Nat)) (p0 : Int32) (p1 : Int32) (h : Hp) : Ru 40 0 [(0, aR o), (1, aI p0), (2, aI p1)] [] h =
    cV (Ex 420 [aR o] h) (fun h1 =>
    (pf h1 o 6 2 (aI (-1 : Int32))).bind (fun h2 =>
    (pf h2 o 6 3 (aI (-1 : Int32))).bind (fun h3 =>
    (pf h3 o 6 4 (aI (0 : Int32))).bind (fun h4 =>
    (pf h4 o 6 5 (aI (0 : Int32))).bind (fun h5 =>
    (pf h5 o 6 6 (aI (0 : Int32))).bind (fun h6 =>
    (pf h6 o 6 7 (aI (0 : Int32))).bind (fun h7 =>
    (pf h7 o 6 8 (aI (0 : Int32))).bind (fun h8 =>
    (pf h8 o 6 9 (aI (0 : Int32))).bind (fun h9 =>
    (pf h9 o 6 10 (aI (0 : Int32))).bind (fun h10 =>
    (pf h10 o 6 11 (aI (0 : Int32))).bind (fun h11 =>
    (pf h11 o 6 12 (aI (-1 : Int32))).bind (fun h12 =>
    (pf h12 o 6 13 (aI (-1 : Int32))).bind (fun h13 =>
    (pf h13 o 6 14 (aI (0 : Int32))).bind (fun h14 =>
    (pf h14 o 6 0 (aI p0)).bind (fun h15 =>
    (pf h15 o 6 1 (aI p1)).bind (fun h16 =>
    some (.inl none, h16))))))))))))))))) xT :=
  lift_of (k := 49) (rows := code_40) (cuts := cut_40) (hs := hdl_40) (r := fun R E =>
    cV (E 420 [aR o] h) (fun h1 =>
    (pf h1 o 6 2 (aI (-1 : Int32))).bind (fun h2 =>
    (pf h2 o 6 3 (aI (-1 : Int32))).bind (fun h3 =>
    (pf h3 o 6 4 (aI (0 : Int32))).bind (fun h4 =>
    (pf h4 o 6 5 (aI (0 : Int32))).bind (fun h5 =>
    (pf h5 o 6 6 (aI (0 : Int32))).bind (fun h6 =>
    (pf h6 o 6 7 (aI (0 : Int32))).bind (fun h7 =>
    (pf h7 o 6 8 (aI (0 : Int32))).bind (fun h8 =>
    (pf h8 o 6 9 (aI (0 : Int32))).bind (fun h9 =>
    (pf h9 o 6 10 (aI (0 : Int32))).bind (fun h10 =>
    (pf h10 o 6 11 (aI (0 : Int32))).bind (fun h11 =>
    (pf h11 o 6 12 (aI (-1 : Int32))).bind (fun h12 =>
    (pf h12 o 6 13 (aI (-1 : Int32))).bind (fun h13 =>
    (pf h13 o 6 14 (aI (0 : Int32))).bind (fun h14 =>
    (pf h14 o 6 0 (aI p0)).bind (fun h15 =>
    (pf h15 o 6 1 (aI p1)).bind (fun h16 =>
    some (.inl none, h16))))))))))))))))) xT) rfl rfl rfl (fun R E => rfl)
-- Chipcardhouse$Message.becomeLike(LChipcardhouse$Message;)LChipcardhouse$Message;
set_option maxRecDepth 100000 in
theorem lf_41_0 (o : Option (Nat × Nat)) (p0 : Option (Nat × Nat)) (h : Hp) : Ru 41 0 [(0, aR o), (1, aR p0)] [] h =
    (gfI h p0 6 0).bind (fun x1 =>
    (pf h o 6 0 (aI x1)).bind (fun h2 =>
    (gfI h2 p0 6 1).bind (fun x3 =>
    (pf h2 o 6 1 (aI x3)).bind (fun h4 =>
    (gfI h4 p0 6 2).bind (fun x5 =>
    (pf h4 o 6 2 (aI x5)).bind (fun h6 =>
    (gfI h6 p0 6 3).bind (fun x7 =>
    (pf h6 o 6 3 (aI x7)).bind (fun h8 =>
    (gfI h8 p0 6 4).bind (fun x9 =>
    (pf h8 o 6 4 (aI x9)).bind (fun h10 =>
    (gfI h10 p0 6 5).bind (fun x11 =>
    (pf h10 o 6 5 (aI x11)).bind (fun h12 =>
    (gfI h12 p0 6 6).bind (fun x13 =>
    (pf h12 o 6 6 (aI x13)).bind (fun h14 =>
    (gfI h14 p0 6 7).bind (fun x15 =>
    (pf h14 o 6 7 (aI x15)).bind (fun h16 =>
    (gfI h16 p0 6 8).bind (fun x17 =>
    (pf h16 o 6 8 (aI x17)).bind (fun h18 =>
    (gfI h18 p0 6 9).bind (fun x19 =>
    (pf h18 o 6 9 (aI x19)).bind (fun h20 =>
    (gfI h20 p0 6 10).bind (fun x21 =>
    (pf h20 o 6 10 (aI x21)).bind (fun h22 =>
    (gfI h22 p0 6 11).bind (fun x23 =>
    (pf h22 o 6 11 (aI x23)).bind (fun h24 =>
    (gfI h24 p0 6 14).bind (fun x25 =>
    gz x25 ((pf h24 o 6 14 (aI x25)).bind (fun h26 =>
    some (.inl (some (aR o)), h26)))))))))))))))))))))))))))) :=
  lift_of (k := 55) (rows := code_41) (cuts := cut_41) (hs := hdl_41) (r := fun R E =>
    (gfI h p0 6 0).bind (fun x1 =>
    (pf h o 6 0 (aI x1)).bind (fun h2 =>
    (gfI h2 p0 6 1).bind (fun x3 =>
    (pf h2 o 6 1 (aI x3)).bind (fun h4 =>
    (gfI h4 p0 6 2).bind (fun x5 =>
    (pf h4 o 6 2 (aI x5)).bind (fun h6 =>
    (gfI h6 p0 6 3).bind (fun x7 =>
    (pf h6 o 6 3 (aI x7)).bind (fun h8 =>
    (gfI h8 p0 6 4).bind (fun x9 =>
    (pf h8 o 6 4 (aI x9)).bind (fun h10 =>
    (gfI h10 p0 6 5).bind (fun x11 =>
    (pf h10 o 6 5 (aI x11)).bind (fun h12 =>
    (gfI h12 p0 6 6).bind (fun x13 =>
    (pf h12 o 6 6 (aI x13)).bind (fun h14 =>
    (gfI h14 p0 6 7).bind (fun x15 =>
    (pf h14 o 6 7 (aI x15)).bind (fun h16 =>
    (gfI h16 p0 6 8).bind (fun x17 =>
    (pf h16 o 6 8 (aI x17)).bind (fun h18 =>
    (gfI h18 p0 6 9).bind (fun x19 =>
    (pf h18 o 6 9 (aI x19)).bind (fun h20 =>
    (gfI h20 p0 6 10).bind (fun x21 =>
    (pf h20 o 6 10 (aI x21)).bind (fun h22 =>
    (gfI h22 p0 6 11).bind (fun x23 =>
    (pf h22 o 6 11 (aI x23)).bind (fun h24 =>
    (gfI h24 p0 6 14).bind (fun x25 =>
    gz x25 ((pf h24 o 6 14 (aI x25)).bind (fun h26 =>
    some (.inl (some (aR o)), h26))))))))))))))))))))))))))))) rfl rfl rfl (fun R E => rfl)
-- Chipcardhouse$Payment.<init>(ILChipcardhouse$Card;LChipcardhouse$Terminal;I)V
set_option maxRecDepth 100000 in
theorem lf_42_0 (o : Option (Nat × Nat)) (p0 : Int32) (p1 : Option (Nat × Nat)) (p2 : Option (Nat × Nat)) (p3 : Int32) (h : Hp) : Ru 42 0 [(0, aR o), (1, aI p0), (2, aR p1), (3, aR p2), (4, aI p3)] [] h =
    cV (Ex 420 [aR o] h) (fun h1 =>
    (pf h1 o 7 5 (aI (0 : Int32))).bind (fun h2 =>
    (pf h2 o 7 6 (aI (0 : Int32))).bind (fun h3 =>
    (pf h3 o 7 7 (aI (1 : Int32))).bind (fun h4 =>
    (pf h4 o 7 8 (aI (0 : Int32))).bind (fun h5 =>
    (pf h5 o 7 9 (aI (0 : Int32))).bind (fun h6 =>
    (pf h6 o 7 10 (aI (0 : Int32))).bind (fun h7 =>
    (pf h7 o 7 11 (aI (0 : Int32))).bind (fun h8 =>
    (pf h8 o 7 0 (aI p0)).bind (fun h9 =>
    (pf h9 o 7 1 (aR p1)).bind (fun h10 =>
    (pf h10 o 7 2 (aR p2)).bind (fun h11 =>
    (pf h11 o 7 3 (aI p3)).bind (fun h12 =>
    (gfI h12 p1 1 6).bind (fun x13 =>
    (pf h12 o 7 4 (aI x13)).bind (fun h14 =>
    some (.inl none, h14))))))))))))))) xT :=
  lift_of (k := 41) (rows := code_42) (cuts := cut_42) (hs := hdl_42) (r := fun R E =>
    cV (E 420 [aR o] h) (fun h1 =>
    (pf h1 o 7 5 (aI (0 : Int32))).bind (fun h2 =>
    (pf h2 o 7 6 (aI (0 : Int32))).bind (fun h3 =>
    (pf h3 o 7 7 (aI (1 : Int32))).bind (fun h4 =>
    (pf h4 o 7 8 (aI (0 : Int32))).bind (fun h5 =>
    (pf h5 o 7 9 (aI (0 : Int32))).bind (fun h6 =>
    (pf h6 o 7 10 (aI (0 : Int32))).bind (fun h7 =>
    (pf h7 o 7 11 (aI (0 : Int32))).bind (fun h8 =>
    (pf h8 o 7 0 (aI p0)).bind (fun h9 =>
    (pf h9 o 7 1 (aR p1)).bind (fun h10 =>
    (pf h10 o 7 2 (aR p2)).bind (fun h11 =>
    (pf h11 o 7 3 (aI p3)).bind (fun h12 =>
    (gfI h12 p1 1 6).bind (fun x13 =>
    (pf h12 o 7 4 (aI x13)).bind (fun h14 =>
    some (.inl none, h14))))))))))))))) xT) rfl rfl rfl (fun R E => rfl)
-- Chipcardhouse$Payment.bePaid()V
set_option maxRecDepth 100000 in
theorem lf_43_0 (o : Option (Nat × Nat)) (h : Hp) : Ru 43 0 [(0, aR o)] [] h =
    (pf h o 7 7 (aI (0 : Int32))).bind (fun h1 =>
    (gfR h1 o 7 1).bind (fun x2 =>
    (gfI h1 o 7 4).bind (fun x3 =>
    (gfI h1 o 7 3).bind (fun x4 =>
    (gfR h1 o 7 2).bind (fun x5 =>
    (gfI h1 x5 10 0).bind (fun x6 =>
    cI (Ex 2 [aR x2, aI x3, aI x4, aI x6, aI (1 : Int32)] h1) (fun x8 h7 =>
    (pf h7 o 7 5 (aI x8)).bind (fun h9 =>
    some (.inl none, h9))) xT)))))) :=
  lift_of (k := 18) (rows := code_43) (cuts := cut_43) (hs := hdl_43) (r := fun R E =>
    (pf h o 7 7 (aI (0 : Int32))).bind (fun h1 =>
    (gfR h1 o 7 1).bind (fun x2 =>
    (gfI h1 o 7 4).bind (fun x3 =>
    (gfI h1 o 7 3).bind (fun x4 =>
    (gfR h1 o 7 2).bind (fun x5 =>
    (gfI h1 x5 10 0).bind (fun x6 =>
    cI (E 2 [aR x2, aI x3, aI x4, aI x6, aI (1 : Int32)] h1) (fun x8 h7 =>
    (pf h7 o 7 5 (aI x8)).bind (fun h9 =>
    some (.inl none, h9))) xT))))))) rfl rfl rfl (fun R E => rfl)
-- Chipcardhouse$Payment.beAsking()V
set_option maxRecDepth 100000 in
theorem lf_44_0 (o : Option (Nat × Nat)) (h : Hp) : Ru 44 0 [(0, aR o)] [] h =
    (pf h o 7 7 (aI (1 : Int32))).bind (fun h1 =>
    (gfR h1 o 7 1).bind (fun x2 =>
    (gfI h1 o 7 4).bind (fun x3 =>
    (gfI h1 o 7 3).bind (fun x4 =>
    (gfR h1 o 7 2).bind (fun x5 =>
    (gfI h1 x5 10 0).bind (fun x6 =>
    cI (Ex 2 [aR x2, aI x3, aI x4, aI x6, aI (2 : Int32)] h1) (fun x8 h7 =>
    (pf h7 o 7 5 (aI x8)).bind (fun h9 =>
    some (.inl none, h9))) xT)))))) :=
  lift_of (k := 18) (rows := code_44) (cuts := cut_44) (hs := hdl_44) (r := fun R E =>
    (pf h o 7 7 (aI (1 : Int32))).bind (fun h1 =>
    (gfR h1 o 7 1).bind (fun x2 =>
    (gfI h1 o 7 4).bind (fun x3 =>
    (gfI h1 o 7 3).bind (fun x4 =>
    (gfR h1 o 7 2).bind (fun x5 =>
    (gfI h1 x5 10 0).bind (fun x6 =>
    cI (E 2 [aR x2, aI x3, aI x4, aI x6, aI (2 : Int32)] h1) (fun x8 h7 =>
    (pf h7 o 7 5 (aI x8)).bind (fun h9 =>
    some (.inl none, h9))) xT))))))) rfl rfl rfl (fun R E => rfl)
-- Chipcardhouse$Payment.isGood()Z
set_option maxRecDepth 100000 in
theorem lf_45_0 (o : Option (Nat × Nat)) (h : Hp) : Ru 45 0 [(0, aR o)] [] h =
    (gfI h o 7 7).bind (fun x1 =>
    if x1 = 0 then
      some (.inl (some (aI (1 : Int32))), h)
    else
      (gfI h o 7 7).bind (fun x2 =>
      if x2 = (2 : Int32) then
        some (.inl (some (aI (1 : Int32))), h)
      else
        some (.inl (some (aI (0 : Int32))), h))) :=
  lift_of (k := 11) (rows := code_45) (cuts := cut_45) (hs := hdl_45) (r := fun R E =>
    (gfI h o 7 7).bind (fun x1 =>
    if x1 = 0 then
      some (.inl (some (aI (1 : Int32))), h)
    else
      (gfI h o 7 7).bind (fun x2 =>
      if x2 = (2 : Int32) then
        some (.inl (some (aI (1 : Int32))), h)
      else
        some (.inl (some (aI (0 : Int32))), h)))) rfl rfl rfl (fun R E => rfl)
-- Chipcardhouse$Payment.giveUp()V
set_option maxRecDepth 100000 in
theorem lf_46_0 (o : Option (Nat × Nat)) (h : Hp) : Ru 46 0 [(0, aR o)] [] h =
    (gfI h o 7 3).bind (fun x1 =>
    (gfR h o 7 2).bind (fun x2 =>
    (gfI h x2 10 1).bind (fun x3 =>
    if x3 < x1 then
      (pf h o 7 7 (aI (4 : Int32))).bind (fun h4 =>
      some (.inl none, h4))
    else
      (gfR h o 7 1).bind (fun x5 =>
      (gfI h x5 1 11).bind (fun x6 =>
      if x6 = 0 then
        (gfR h o 7 1).bind (fun x7 =>
        (gfI h o 7 3).bind (fun x8 =>
        cI (Ex 5 [aR x7, aI x8] h) (fun x10 h9 =>
        if x10 = 0 then
          (pf h9 o 7 7 (aI (4 : Int32))).bind (fun h11 =>
          some (.inl none, h11))
        else
          cV (Ex 43 [aR o] h9) (fun h12 =>
          some (.inl none, h12)) xT) xT))
      else
        (pf h o 7 7 (aI (4 : Int32))).bind (fun h13 =>
        some (.inl none, h13))))))) :=
  lift_of (k := 21) (rows := code_46) (cuts := cut_46) (hs := hdl_46) (r := fun R E =>
    (gfI h o 7 3).bind (fun x1 =>
    (gfR h o 7 2).bind (fun x2 =>
    (gfI h x2 10 1).bind (fun x3 =>
    if x3 < x1 then
      (pf h o 7 7 (aI (4 : Int32))).bind (fun h4 =>
      some (.inl none, h4))
    else
      (gfR h o 7 1).bind (fun x5 =>
      (gfI h x5 1 11).bind (fun x6 =>
      if x6 = 0 then
        (gfR h o 7 1).bind (fun x7 =>
        (gfI h o 7 3).bind (fun x8 =>
        cI (E 5 [aR x7, aI x8] h) (fun x10 h9 =>
        if x10 = 0 then
          (pf h9 o 7 7 (aI (4 : Int32))).bind (fun h11 =>
          some (.inl none, h11))
        else
          cV (E 43 [aR o] h9) (fun h12 =>
          some (.inl none, h12)) xT) xT))
      else
        (pf h o 7 7 (aI (4 : Int32))).bind (fun h13 =>
        some (.inl none, h13)))))))) rfl rfl rfl (fun R E => rfl)
-- Chipcardhouse$Payment.hearAnswer(LChipcardhouse$Message;)V
set_option maxRecDepth 100000 in
theorem lf_47_0 (o : Option (Nat × Nat)) (p0 : Option (Nat × Nat)) (h : Hp) : Ru 47 0 [(0, aR o), (1, aR p0)] [] h =
    (gfI h p0 6 7).bind (fun x1 =>
    if x1 = (1 : Int32) then
      (gfI h p0 6 6).bind (fun x2 =>
      (gfR h o 7 1).bind (fun x3 =>
      (gfI h o 7 4).bind (fun x4 =>
      (gfI h o 7 3).bind (fun x5 =>
      (gfR h o 7 2).bind (fun x6 =>
      (gfI h x6 10 0).bind (fun x7 =>
      cI (Ex 2 [aR x3, aI x4, aI x5, aI x7, aI (3 : Int32)] h) (fun x9 h8 =>
      if x2 = x9 then
        (gfI h8 p0 6 8).bind (fun x10 =>
        if x10 = (2 : Int32) then
          (pf h8 o 7 7 (aI (3 : Int32))).bind (fun h11 =>
          (gfI h11 p0 6 9).bind (fun x12 =>
          (pf h11 o 7 8 (aI x12)).bind (fun h13 =>
          Ru 47 93 [(0, aR o), (1, aR p0), (2, aI (1 : Int32))] [] h13)))
        else
          if (1 : Int32) = 0 then
            (gfI h8 p0 6 7).bind (fun x14 =>
            if x14 = (2 : Int32) then
              (pf h8 o 7 7 (aI (2 : Int32))).bind (fun h15 =>
              (gfI h15 p0 6 7).bind (fun x16 =>
              (pf h15 o 7 9 (aI x16)).bind (fun h17 =>
              Ru 47 93 [(0, aR o), (1, aR p0), (2, aI (1 : Int32))] [] h17)))
            else
              Ru 47 93 [(0, aR o), (1, aR p0), (2, aI (1 : Int32))] [] h8)
          else
            (pf h8 o 7 7 (aI (2 : Int32))).bind (fun h18 =>
            (gfI h18 p0 6 7).bind (fun x19 =>
            (pf h18 o 7 9 (aI x19)).bind (fun h20 =>
            Ru 47 93 [(0, aR o), (1, aR p0), (2, aI (1 : Int32))] [] h20))))
      else
        (gfI h8 p0 6 8).bind (fun x21 =>
        if x21 = (2 : Int32) then
          (pf h8 o 7 7 (aI (3 : Int32))).bind (fun h22 =>
          (gfI h22 p0 6 9).bind (fun x23 =>
          (pf h22 o 7 8 (aI x23)).bind (fun h24 =>
          Ru 47 93 [(0, aR o), (1, aR p0), (2, aI (0 : Int32))] [] h24)))
        else
          if (0 : Int32) = 0 then
            (gfI h8 p0 6 7).bind (fun x25 =>
            if x25 = (2 : Int32) then
              (pf h8 o 7 7 (aI (2 : Int32))).bind (fun h26 =>
              (gfI h26 p0 6 7).bind (fun x27 =>
              (pf h26 o 7 9 (aI x27)).bind (fun h28 =>
              Ru 47 93 [(0, aR o), (1, aR p0), (2, aI (0 : Int32))] [] h28)))
            else
              Ru 47 93 [(0, aR o), (1, aR p0), (2, aI (0 : Int32))] [] h8)
          else
            (pf h8 o 7 7 (aI (2 : Int32))).bind (fun h29 =>
            (gfI h29 p0 6 7).bind (fun x30 =>
            (pf h29 o 7 9 (aI x30)).bind (fun h31 =>
            Ru 47 93 [(0, aR o), (1, aR p0), (2, aI (0 : Int32))] [] h31))))) xT))))))
    else
      (gfI h p0 6 8).bind (fun x32 =>
      if x32 = (2 : Int32) then
        (pf h o 7 7 (aI (3 : Int32))).bind (fun h33 =>
        (gfI h33 p0 6 9).bind (fun x34 =>
        (pf h33 o 7 8 (aI x34)).bind (fun h35 =>
        Ru 47 93 [(0, aR o), (1, aR p0), (2, aI (0 : Int32))] [] h35)))
      else
        if (0 : Int32) = 0 then
          (gfI h p0 6 7).bind (fun x36 =>
          if x36 = (2 : Int32) then
            (pf h o 7 7 (aI (2 : Int32))).bind (fun h37 =>
            (gfI h37 p0 6 7).bind (fun x38 =>
            (pf h37 o 7 9 (aI x38)).bind (fun h39 =>
            Ru 47 93 [(0, aR o), (1, aR p0), (2, aI (0 : Int32))] [] h39)))
          else
            Ru 47 93 [(0, aR o), (1, aR p0), (2, aI (0 : Int32))] [] h)
        else
          (pf h o 7 7 (aI (2 : Int32))).bind (fun h40 =>
          (gfI h40 p0 6 7).bind (fun x41 =>
          (pf h40 o 7 9 (aI x41)).bind (fun h42 =>
          Ru 47 93 [(0, aR o), (1, aR p0), (2, aI (0 : Int32))] [] h42))))) :=
  lift_of (k := 39) (rows := code_47) (cuts := cut_47) (hs := hdl_47) (r := fun R E =>
    (gfI h p0 6 7).bind (fun x1 =>
    if x1 = (1 : Int32) then
      (gfI h p0 6 6).bind (fun x2 =>
      (gfR h o 7 1).bind (fun x3 =>
      (gfI h o 7 4).bind (fun x4 =>
      (gfI h o 7 3).bind (fun x5 =>
      (gfR h o 7 2).bind (fun x6 =>
      (gfI h x6 10 0).bind (fun x7 =>
      cI (E 2 [aR x3, aI x4, aI x5, aI x7, aI (3 : Int32)] h) (fun x9 h8 =>
      if x2 = x9 then
        (gfI h8 p0 6 8).bind (fun x10 =>
        if x10 = (2 : Int32) then
          (pf h8 o 7 7 (aI (3 : Int32))).bind (fun h11 =>
          (gfI h11 p0 6 9).bind (fun x12 =>
          (pf h11 o 7 8 (aI x12)).bind (fun h13 =>
          R 93 [(0, aR o), (1, aR p0), (2, aI (1 : Int32))] [] h13)))
        else
          if (1 : Int32) = 0 then
            (gfI h8 p0 6 7).bind (fun x14 =>
            if x14 = (2 : Int32) then
              (pf h8 o 7 7 (aI (2 : Int32))).bind (fun h15 =>
              (gfI h15 p0 6 7).bind (fun x16 =>
              (pf h15 o 7 9 (aI x16)).bind (fun h17 =>
              R 93 [(0, aR o), (1, aR p0), (2, aI (1 : Int32))] [] h17)))
            else
              R 93 [(0, aR o), (1, aR p0), (2, aI (1 : Int32))] [] h8)
          else
            (pf h8 o 7 7 (aI (2 : Int32))).bind (fun h18 =>
            (gfI h18 p0 6 7).bind (fun x19 =>
            (pf h18 o 7 9 (aI x19)).bind (fun h20 =>
            R 93 [(0, aR o), (1, aR p0), (2, aI (1 : Int32))] [] h20))))
      else
        (gfI h8 p0 6 8).bind (fun x21 =>
        if x21 = (2 : Int32) then
          (pf h8 o 7 7 (aI (3 : Int32))).bind (fun h22 =>
          (gfI h22 p0 6 9).bind (fun x23 =>
          (pf h22 o 7 8 (aI x23)).bind (fun h24 =>
          R 93 [(0, aR o), (1, aR p0), (2, aI (0 : Int32))] [] h24)))
        else
          if (0 : Int32) = 0 then
            (gfI h8 p0 6 7).bind (fun x25 =>
            if x25 = (2 : Int32) then
              (pf h8 o 7 7 (aI (2 : Int32))).bind (fun h26 =>
              (gfI h26 p0 6 7).bind (fun x27 =>
              (pf h26 o 7 9 (aI x27)).bind (fun h28 =>
              R 93 [(0, aR o), (1, aR p0), (2, aI (0 : Int32))] [] h28)))
            else
              R 93 [(0, aR o), (1, aR p0), (2, aI (0 : Int32))] [] h8)
          else
            (pf h8 o 7 7 (aI (2 : Int32))).bind (fun h29 =>
            (gfI h29 p0 6 7).bind (fun x30 =>
            (pf h29 o 7 9 (aI x30)).bind (fun h31 =>
            R 93 [(0, aR o), (1, aR p0), (2, aI (0 : Int32))] [] h31))))) xT))))))
    else
      (gfI h p0 6 8).bind (fun x32 =>
      if x32 = (2 : Int32) then
        (pf h o 7 7 (aI (3 : Int32))).bind (fun h33 =>
        (gfI h33 p0 6 9).bind (fun x34 =>
        (pf h33 o 7 8 (aI x34)).bind (fun h35 =>
        R 93 [(0, aR o), (1, aR p0), (2, aI (0 : Int32))] [] h35)))
      else
        if (0 : Int32) = 0 then
          (gfI h p0 6 7).bind (fun x36 =>
          if x36 = (2 : Int32) then
            (pf h o 7 7 (aI (2 : Int32))).bind (fun h37 =>
            (gfI h37 p0 6 7).bind (fun x38 =>
            (pf h37 o 7 9 (aI x38)).bind (fun h39 =>
            R 93 [(0, aR o), (1, aR p0), (2, aI (0 : Int32))] [] h39)))
          else
            R 93 [(0, aR o), (1, aR p0), (2, aI (0 : Int32))] [] h)
        else
          (pf h o 7 7 (aI (2 : Int32))).bind (fun h40 =>
          (gfI h40 p0 6 7).bind (fun x41 =>
          (pf h40 o 7 9 (aI x41)).bind (fun h42 =>
          R 93 [(0, aR o), (1, aR p0), (2, aI (0 : Int32))] [] h42)))))) rfl rfl rfl (fun R E => rfl)
set_option maxRecDepth 100000 in
theorem lf_47_93 (o : Option (Nat × Nat)) (v1 : Option (Nat × Nat)) (v2 : Int32) (h : Hp) : Ru 47 93 [(0, aR o), (1, aR v1), (2, aI v2)] [] h =
    if v2 = 0 then
      if v2 = 0 then
        some (.inl none, h)
      else
        (gfR h o 7 1).bind (fun x1 =>
        (gfI h v1 6 10).bind (fun x2 =>
        cV (Ex 7 [aR x1, aI x2] h) (fun h3 =>
        some (.inl none, h3)) xT))
    else
      (gfI h o 7 7).bind (fun x4 =>
      if x4 = (2 : Int32) then
        (gfR h o 7 1).bind (fun x5 =>
        cV (Ex 6 [aR x5] h) (fun h6 =>
        if v2 = 0 then
          some (.inl none, h6)
        else
          (gfR h6 o 7 1).bind (fun x7 =>
          (gfI h6 v1 6 10).bind (fun x8 =>
          cV (Ex 7 [aR x7, aI x8] h6) (fun h9 =>
          some (.inl none, h9)) xT))) xT)
      else
        if v2 = 0 then
          some (.inl none, h)
        else
          (gfR h o 7 1).bind (fun x10 =>
          (gfI h v1 6 10).bind (fun x11 =>
          cV (Ex 7 [aR x10, aI x11] h) (fun h12 =>
          some (.inl none, h12)) xT))) :=
  lift_of (k := 18) (rows := code_47) (cuts := cut_47) (hs := hdl_47) (r := fun R E =>
    if v2 = 0 then
      if v2 = 0 then
        some (.inl none, h)
      else
        (gfR h o 7 1).bind (fun x1 =>
        (gfI h v1 6 10).bind (fun x2 =>
        cV (E 7 [aR x1, aI x2] h) (fun h3 =>
        some (.inl none, h3)) xT))
    else
      (gfI h o 7 7).bind (fun x4 =>
      if x4 = (2 : Int32) then
        (gfR h o 7 1).bind (fun x5 =>
        cV (E 6 [aR x5] h) (fun h6 =>
        if v2 = 0 then
          some (.inl none, h6)
        else
          (gfR h6 o 7 1).bind (fun x7 =>
          (gfI h6 v1 6 10).bind (fun x8 =>
          cV (E 7 [aR x7, aI x8] h6) (fun h9 =>
          some (.inl none, h9)) xT))) xT)
      else
        if v2 = 0 then
          some (.inl none, h)
        else
          (gfR h o 7 1).bind (fun x10 =>
          (gfI h v1 6 10).bind (fun x11 =>
          cV (E 7 [aR x10, aI x11] h) (fun h12 =>
          some (.inl none, h12)) xT)))) rfl rfl rfl (fun R E => rfl)
-- Chipcardhouse$Payment.ask()LChipcardhouse$Message;
set_option maxRecDepth 100000 in
theorem lf_48_0 (o : Option (Nat × Nat)) (h : Hp) : Ru 48 0 [(0, aR o)] [] h =
    (gfI (nob h 11 6 [0, 0, 0, 0, 0, 0, 0, 0, 0, 0, 0, 0, 0, 0, 0]).2 o 7 0).bind (fun x1 =>
    cV (Ex 40 [aR (nob h 11 6 [0, 0, 0, 0, 0, 0, 0, 0, 0, 0, 0, 0, 0, 0, 0]).1, aI (1 : Int32), aI x1] (nob h 11 6 [0, 0, 0, 0, 0, 0, 0, 0, 0, 0, 0, 0, 0, 0, 0]).2) (fun h2 =>
    cR (Ex 50 [aR o, aR (nob h 11 6 [0, 0, 0, 0, 0, 0, 0, 0, 0, 0, 0, 0, 0, 0, 0]).1] h2) (fun x4 h3 =>
    some (.inl (some (aR x4)), h3)) xT) xT) :=
  lift_of (k := 10) (rows := code_48) (cuts := cut_48) (hs := hdl_48) (r := fun R E =>
    (gfI (nob h 11 6 [0, 0, 0, 0, 0, 0, 0, 0, 0, 0, 0, 0, 0, 0, 0]).2 o 7 0).bind (fun x1 =>
    cV (E 40 [aR (nob h 11 6 [0, 0, 0, 0, 0, 0, 0, 0, 0, 0, 0, 0, 0, 0, 0]).1, aI (1 : Int32), aI x1] (nob h 11 6 [0, 0, 0, 0, 0, 0, 0, 0, 0, 0, 0, 0, 0, 0, 0]).2) (fun h2 =>
    cR (E 50 [aR o, aR (nob h 11 6 [0, 0, 0, 0, 0, 0, 0, 0, 0, 0, 0, 0, 0, 0, 0]).1] h2) (fun x4 h3 =>
    some (.inl (some (aR x4)), h3)) xT) xT)) rfl rfl rfl (fun R E => rfl)
-- Chipcardhouse$Payment.record()LChipcardhouse$Message;
set_option maxRecDepth 100000 in
theorem lf_49_0 (o : Option (Nat × Nat)) (h : Hp) : Ru 49 0 [(0, aR o)] [] h =
    (gfI (nob h 12 6 [0, 0, 0, 0, 0, 0, 0, 0, 0, 0, 0, 0, 0, 0, 0]).2 o 7 0).bind (fun x1 =>
    cV (Ex 40 [aR (nob h 12 6 [0, 0, 0, 0, 0, 0, 0, 0, 0, 0, 0, 0, 0, 0, 0]).1, aI (3 : Int32), aI x1] (nob h 12 6 [0, 0, 0, 0, 0, 0, 0, 0, 0, 0, 0, 0, 0, 0, 0]).2) (fun h2 =>
    cR (Ex 50 [aR o, aR (nob h 12 6 [0, 0, 0, 0, 0, 0, 0, 0, 0, 0, 0, 0, 0, 0, 0]).1] h2) (fun x4 h3 =>
    (gfI h3 o 7 9).bind (fun x5 =>
    (pf h3 x4 6 7 (aI x5)).bind (fun h6 =>
    some (.inl (some (aR x4)), h6)))) xT) xT) :=
  lift_of (k := 16) (rows := code_49) (cuts := cut_49) (hs := hdl_49) (r := fun R E =>
    (gfI (nob h 12 6 [0, 0, 0, 0, 0, 0, 0, 0, 0, 0, 0, 0, 0, 0, 0]).2 o 7 0).bind (fun x1 =>
    cV (E 40 [aR (nob h 12 6 [0, 0, 0, 0, 0, 0, 0, 0, 0, 0, 0, 0, 0, 0, 0]).1, aI (3 : Int32), aI x1] (nob h 12 6 [0, 0, 0, 0, 0, 0, 0, 0, 0, 0, 0, 0, 0, 0, 0]).2) (fun h2 =>
    cR (E 50 [aR o, aR (nob h 12 6 [0, 0, 0, 0, 0, 0, 0, 0, 0, 0, 0, 0, 0, 0, 0]).1] h2) (fun x4 h3 =>
    (gfI h3 o 7 9).bind (fun x5 =>
    (pf h3 x4 6 7 (aI x5)).bind (fun h6 =>
    some (.inl (some (aR x4)), h6)))) xT) xT)) rfl rfl rfl (fun R E => rfl)
-- Chipcardhouse$Payment.fill(LChipcardhouse$Message;)LChipcardhouse$Message;
set_option maxRecDepth 100000 in
theorem lf_50_0 (o : Option (Nat × Nat)) (p0 : Option (Nat × Nat)) (h : Hp) : Ru 50 0 [(0, aR o), (1, aR p0)] [] h =
    (gfR h o 7 1).bind (fun x1 =>
    (gfI h x1 1 0).bind (fun x2 =>
    (pf h p0 6 2 (aI x2)).bind (fun h3 =>
    (gfI h3 o 7 4).bind (fun x4 =>
    (pf h3 p0 6 4 (aI x4)).bind (fun h5 =>
    (gfI h5 o 7 3).bind (fun x6 =>
    (pf h5 p0 6 5 (aI x6)).bind (fun h7 =>
    (gfI h7 o 7 5).bind (fun x8 =>
    (pf h7 p0 6 6 (aI x8)).bind (fun h9 =>
    some (.inl (some (aR p0)), h9)))))))))) :=
  lift_of (k := 20) (rows := code_50) (cuts := cut_50) (hs := hdl_50) (r := fun R E =>
    (gfR h o 7 1).bind (fun x1 =>
    (gfI h x1 1 0).bind (fun x2 =>
    (pf h p0 6 2 (aI x2)).bind (fun h3 =>
    (gfI h3 o 7 4).bind (fun x4 =>
    (pf h3 p0 6 4 (aI x4)).bind (fun h5 =>
    (gfI h5 o 7 3).bind (fun x6 =>
    (pf h5 p0 6 5 (aI x6)).bind (fun h7 =>
    (gfI h7 o 7 5).bind (fun x8 =>
    (pf h7 p0 6 6 (aI x8)).bind (fun h9 =>
    some (.inl (some (aR p0)), h9))))))))))) rfl rfl rfl (fun R E => rfl)
-- Chipcardhouse$Script.<init>()V
set_option maxRecDepth 100000 in
theorem lf_51_0 (o : Option (Nat × Nat)) (h : Hp) : Ru 51 0 [(0, aR o)] [] h =
    cV (Ex 420 [aR o] h) (fun h1 =>
    cV (Ex 410 [aR (nob h1 13 22 [4, 0, 0, 0]).1] (nob h1 13 22 [4, 0, 0, 0]).2) (fun h2 =>
    (pf h2 o 8 0 (aR (nob h1 13 22 [4, 0, 0, 0]).1)).bind (fun h3 =>
    (pf h3 o 8 1 (aI (0 : Int32))).bind (fun h4 =>
    (pf h4 o 8 2 (aI (-1 : Int32))).bind (fun h5 =>
    (nwa h5 14 1000 (4 : Int32)).bind (fun q6 =>
    (pf q6.2 o 8 3 (aR q6.1)).bind (fun h7 =>
    some (.inl none, h7))))))) xT) xT :=
  lift_of (k := 19) (rows := code_51) (cuts := cut_51) (hs := hdl_51) (r := fun R E =>
    cV (E 420 [aR o] h) (fun h1 =>
    cV (E 410 [aR (nob h1 13 22 [4, 0, 0, 0]).1] (nob h1 13 22 [4, 0, 0, 0]).2) (fun h2 =>
    (pf h2 o 8 0 (aR (nob h1 13 22 [4, 0, 0, 0]).1)).bind (fun h3 =>
    (pf h3 o 8 1 (aI (0 : Int32))).bind (fun h4 =>
    (pf h4 o 8 2 (aI (-1 : Int32))).bind (fun h5 =>
    (nwa h5 14 1000 (4 : Int32)).bind (fun q6 =>
    (pf q6.2 o 8 3 (aR q6.1)).bind (fun h7 =>
    some (.inl none, h7))))))) xT) xT) rfl rfl rfl (fun R E => rfl)
-- Chipcardhouse$Script.firstFault()I
set_option maxRecDepth 100000 in
theorem lf_52_0 (o : Option (Nat × Nat)) (h : Hp) : Ru 52 0 [(0, aR o)] [] h =
    (pf h o 8 1 (aI (0 : Int32))).bind (fun h1 =>
    Ru 52 7 [(0, aR o), (1, aI (0 : Int32))] [] h1) :=
  lift_of (k := 6) (rows := code_52) (cuts := cut_52) (hs := hdl_52) (r := fun R E =>
    (pf h o 8 1 (aI (0 : Int32))).bind (fun h1 =>
    R 7 [(0, aR o), (1, aI (0 : Int32))] [] h1)) rfl rfl rfl (fun R E => rfl)
set_option maxRecDepth 100000 in
theorem lf_52_7 (o : Option (Nat × Nat)) (v1 : Int32) (h : Hp) : Ru 52 7 [(0, aR o), (1, aI v1)] [] h =
    if (600 : Int32) < v1 then
      some (.inl (some (aI (-1 : Int32))), h)
    else
      cI (Ex 53 [aR o] h) (fun x2 h1 =>
      if x2 = 0 then
        cI (Ex 54 [aR o] h1) (fun x4 h3 =>
        if x4 = (-1 : Int32) then
          Ru 52 7 [(0, aR o), (1, aI (v1 + (1 : Int32)))] [] h3
        else
          some (.inl (some (aI x4)), h3)) xT
      else
        some (.inl (some (aI (-1 : Int32))), h1)) xT :=
  lift_of (k := 15) (rows := code_52) (cuts := cut_52) (hs := hdl_52) (r := fun R E =>
    if (600 : Int32) < v1 then
      some (.inl (some (aI (-1 : Int32))), h)
    else
      cI (E 53 [aR o] h) (fun x2 h1 =>
      if x2 = 0 then
        cI (E 54 [aR o] h1) (fun x4 h3 =>
        if x4 = (-1 : Int32) then
          R 7 [(0, aR o), (1, aI (v1 + (1 : Int32)))] [] h3
        else
          some (.inl (some (aI x4)), h3)) xT
      else
        some (.inl (some (aI (-1 : Int32))), h1)) xT) rfl rfl rfl (fun R E => rfl)
-- Chipcardhouse$Script.isAtEnd()Z
set_option maxRecDepth 100000 in
theorem lf_53_0 (o : Option (Nat × Nat)) (h : Hp) : Ru 53 0 [(0, aR o)] [] h =
    (gfI h o 8 1).bind (fun x1 =>
    cI (Ex 58 [aR o, aI x1] h) (fun x3 h2 =>
    (gfR h2 o 8 0).bind (fun x4 =>
    cI (Ex 412 [aR x4] h2) (fun x6 h5 =>
    if x3 < x6 then
      some (.inl (some (aI (0 : Int32))), h5)
    else
      some (.inl (some (aI (1 : Int32))), h5)) xT)) xT) :=
  lift_of (k := 12) (rows := code_53) (cuts := cut_53) (hs := hdl_53) (r := fun R E =>
    (gfI h o 8 1).bind (fun x1 =>
    cI (E 58 [aR o, aI x1] h) (fun x3 h2 =>
    (gfR h2 o 8 0).bind (fun x4 =>
    cI (E 412 [aR x4] h2) (fun x6 h5 =>
    if x3 < x6 then
      some (.inl (some (aI (0 : Int32))), h5)
    else
      some (.inl (some (aI (1 : Int32))), h5)) xT)) xT)) rfl rfl rfl (fun R E => rfl)
-- Chipcardhouse$Script.readCommand()I
set_option maxRecDepth 100000 in
theorem lf_54_0 (o : Option (Nat × Nat)) (h : Hp) : Ru 54 0 [(0, aR o)] [] h =
    (gfI h o 8 1).bind (fun x1 =>
    cI (Ex 58 [aR o, aI x1] h) (fun x3 h2 =>
    cI (Ex 59 [aR o, aI x3, aI (97 : Int32), aI (122 : Int32)] h2) (fun x5 h4 =>
    cI (Ex 61 [aR o, aI x3, aI x5] h4) (fun x7 h6 =>
    (pf h6 o 8 2 (aI x7)).bind (fun h8 =>
    (gfI h8 o 8 2).bind (fun x9 =>
    if x9 < 0 then
      some (.inl (some (aI x3)), h8)
    else
      (gfI h8 o 8 2).bind (fun x10 =>
      (len h8 (some (0, 1))).bind (fun x11 =>
      if x10 < x11 then
        (pf h8 o 8 1 (aI x5)).bind (fun h12 =>
        Ru 54 59 [(0, aR o), (3, aI (-1 : Int32)), (4, aI (0 : Int32))] [] h12)
      else
        some (.inl (some (aI x3)), h8)))))) xT) xT) xT) :=
  lift_of (k := 33) (rows := code_54) (cuts := cut_54) (hs := hdl_54) (r := fun R E =>
    (gfI h o 8 1).bind (fun x1 =>
    cI (E 58 [aR o, aI x1] h) (fun x3 h2 =>
    cI (E 59 [aR o, aI x3, aI (97 : Int32), aI (122 : Int32)] h2) (fun x5 h4 =>
    cI (E 61 [aR o, aI x3, aI x5] h4) (fun x7 h6 =>
    (pf h6 o 8 2 (aI x7)).bind (fun h8 =>
    (gfI h8 o 8 2).bind (fun x9 =>
    if x9 < 0 then
      some (.inl (some (aI x3)), h8)
    else
      (gfI h8 o 8 2).bind (fun x10 =>
      (len h8 (some (0, 1))).bind (fun x11 =>
      if x10 < x11 then
        (pf h8 o 8 1 (aI x5)).bind (fun h12 =>
        R 59 [(0, aR o), (3, aI (-1 : Int32)), (4, aI (0 : Int32))] [] h12)
      else
        some (.inl (some (aI x3)), h8)))))) xT) xT) xT)) rfl rfl rfl (fun R E => rfl)
set_option maxRecDepth 100000 in
theorem lf_54_59 (o : Option (Nat × Nat)) (v3 : Int32) (v4 : Int32) (h : Hp) : Ru 54 59 [(0, aR o), (3, aI v3), (4, aI v4)] [] h =
    (gfI h o 8 2).bind (fun x1 =>
    (gaI h (some (0, 1)) 1000 x1).bind (fun x2 =>
    if x2 ≤ v4 then
      if v3 = (-1 : Int32) then
        (gfI h o 8 2).bind (fun x3 =>
        if x3 = (3 : Int32) then
          cI (Ex 56 [aR o] h) (fun x5 h4 =>
          if x5 = (-1 : Int32) then
            cI (Ex 57 [aR o] h4) (fun x7 h6 =>
            some (.inl (some (aI x7)), h6)) xT
          else
            some (.inl (some (aI x5)), h4)) xT
        else
          if v3 = (-1 : Int32) then
            cI (Ex 57 [aR o] h) (fun x9 h8 =>
            some (.inl (some (aI x9)), h8)) xT
          else
            some (.inl (some (aI v3)), h))
      else
        if v3 = (-1 : Int32) then
          cI (Ex 57 [aR o] h) (fun x11 h10 =>
          some (.inl (some (aI x11)), h10)) xT
        else
          some (.inl (some (aI v3)), h)
    else
      if v3 = (-1 : Int32) then
        cI (Ex 55 [aR o, aI v4] h) (fun x13 h12 =>
        Ru 54 59 [(0, aR o), (3, aI x13), (4, aI (v4 + (1 : Int32)))] [] h12) xT
      else
        if v3 = (-1 : Int32) then
          (gfI h o 8 2).bind (fun x14 =>
          if x14 = (3 : Int32) then
            cI (Ex 56 [aR o] h) (fun x16 h15 =>
            if x16 = (-1 : Int32) then
              cI (Ex 57 [aR o] h15) (fun x18 h17 =>
              some (.inl (some (aI x18)), h17)) xT
            else
              some (.inl (some (aI x16)), h15)) xT
          else
            if v3 = (-1 : Int32) then
              cI (Ex 57 [aR o] h) (fun x20 h19 =>
              some (.inl (some (aI x20)), h19)) xT
            else
              some (.inl (some (aI v3)), h))
        else
          if v3 = (-1 : Int32) then
            cI (Ex 57 [aR o] h) (fun x22 h21 =>
            some (.inl (some (aI x22)), h21)) xT
          else
            some (.inl (some (aI v3)), h))) :=
  lift_of (k := 27) (rows := code_54) (cuts := cut_54) (hs := hdl_54) (r := fun R E =>
    (gfI h o 8 2).bind (fun x1 =>
    (gaI h (some (0, 1)) 1000 x1).bind (fun x2 =>
    if x2 ≤ v4 then
      if v3 = (-1 : Int32) then
        (gfI h o 8 2).bind (fun x3 =>
        if x3 = (3 : Int32) then
          cI (E 56 [aR o] h) (fun x5 h4 =>
          if x5 = (-1 : Int32) then
            cI (E 57 [aR o] h4) (fun x7 h6 =>
            some (.inl (some (aI x7)), h6)) xT
          else
            some (.inl (some (aI x5)), h4)) xT
        else
          if v3 = (-1 : Int32) then
            cI (E 57 [aR o] h) (fun x9 h8 =>
            some (.inl (some (aI x9)), h8)) xT
          else
            some (.inl (some (aI v3)), h))
      else
        if v3 = (-1 : Int32) then
          cI (E 57 [aR o] h) (fun x11 h10 =>
          some (.inl (some (aI x11)), h10)) xT
        else
          some (.inl (some (aI v3)), h)
    else
      if v3 = (-1 : Int32) then
        cI (E 55 [aR o, aI v4] h) (fun x13 h12 =>
        R 59 [(0, aR o), (3, aI x13), (4, aI (v4 + (1 : Int32)))] [] h12) xT
      else
        if v3 = (-1 : Int32) then
          (gfI h o 8 2).bind (fun x14 =>
          if x14 = (3 : Int32) then
            cI (E 56 [aR o] h) (fun x16 h15 =>
            if x16 = (-1 : Int32) then
              cI (E 57 [aR o] h15) (fun x18 h17 =>
              some (.inl (some (aI x18)), h17)) xT
            else
              some (.inl (some (aI x16)), h15)) xT
          else
            if v3 = (-1 : Int32) then
              cI (E 57 [aR o] h) (fun x20 h19 =>
              some (.inl (some (aI x20)), h19)) xT
            else
              some (.inl (some (aI v3)), h))
        else
          if v3 = (-1 : Int32) then
            cI (E 57 [aR o] h) (fun x22 h21 =>
            some (.inl (some (aI x22)), h21)) xT
          else
            some (.inl (some (aI v3)), h)))) rfl rfl rfl (fun R E => rfl)
-- Chipcardhouse$Script.readNumber(I)I
set_option maxRecDepth 100000 in
theorem lf_55_0 (o : Option (Nat × Nat)) (p0 : Int32) (h : Hp) : Ru 55 0 [(0, aR o), (1, aI p0)] [] h =
    (gfI h o 8 1).bind (fun x1 =>
    cI (Ex 58 [aR o, aI x1] h) (fun x3 h2 =>
    cI (Ex 59 [aR o, aI x3, aI (48 : Int32), aI (57 : Int32)] h2) (fun x5 h4 =>
    if x5 = x3 then
      some (.inl (some (aI x3)), h4)
    else
      if (7 : Int32) < (x5 - x3) then
        some (.inl (some (aI x3)), h4)
      else
        if p0 < 0 then
          some (.inl (some (aI x3)), h4)
        else
          (gfR h4 o 8 3).bind (fun x6 =>
          (len h4 x6).bind (fun x7 =>
          if p0 < x7 then
            Ru 55 53 [(0, aR o), (1, aI p0), (3, aI x5), (4, aI (0 : Int32)), (5, aI x3)] [] h4
          else
            some (.inl (some (aI x3)), h4)))) xT) xT) :=
  lift_of (k := 31) (rows := code_55) (cuts := cut_55) (hs := hdl_55) (r := fun R E =>
    (gfI h o 8 1).bind (fun x1 =>
    cI (E 58 [aR o, aI x1] h) (fun x3 h2 =>
    cI (E 59 [aR o, aI x3, aI (48 : Int32), aI (57 : Int32)] h2) (fun x5 h4 =>
    if x5 = x3 then
      some (.inl (some (aI x3)), h4)
    else
      if (7 : Int32) < (x5 - x3) then
        some (.inl (some (aI x3)), h4)
      else
        if p0 < 0 then
          some (.inl (some (aI x3)), h4)
        else
          (gfR h4 o 8 3).bind (fun x6 =>
          (len h4 x6).bind (fun x7 =>
          if p0 < x7 then
            R 53 [(0, aR o), (1, aI p0), (3, aI x5), (4, aI (0 : Int32)), (5, aI x3)] [] h4
          else
            some (.inl (some (aI x3)), h4)))) xT) xT)) rfl rfl rfl (fun R E => rfl)
set_option maxRecDepth 100000 in
theorem lf_55_53 (o : Option (Nat × Nat)) (v1 : Int32) (v3 : Int32) (v4 : Int32) (v5 : Int32) (h : Hp) : Ru 55 53 [(0, aR o), (1, aI v1), (3, aI v3), (4, aI v4), (5, aI v5)] [] h =
    if v3 ≤ v5 then
      (gfR h o 8 3).bind (fun x1 =>
      (pa h x1 1000 v1 (aI v4)).bind (fun h2 =>
      (pf h2 o 8 1 (aI v3)).bind (fun h3 =>
      some (.inl (some (aI (-1 : Int32))), h3))))
    else
      (gfR h o 8 0).bind (fun x4 =>
      cI (Ex 413 [aR x4, aI v5] h) (fun x6 h5 =>
      Ru 55 53 [(0, aR o), (1, aI v1), (3, aI v3), (4, aI (((v4 * (10 : Int32)) + x6) - (48 : Int32))), (5, aI (v5 + (1 : Int32)))] [] h5) xT) :=
  lift_of (k := 17) (rows := code_55) (cuts := cut_55) (hs := hdl_55) (r := fun R E =>
    if v3 ≤ v5 then
      (gfR h o 8 3).bind (fun x1 =>
      (pa h x1 1000 v1 (aI v4)).bind (fun h2 =>
      (pf h2 o 8 1 (aI v3)).bind (fun h3 =>
      some (.inl (some (aI (-1 : Int32))), h3))))
    else
      (gfR h o 8 0).bind (fun x4 =>
      cI (E 413 [aR x4, aI v5] h) (fun x6 h5 =>
      R 53 [(0, aR o), (1, aI v1), (3, aI v3), (4, aI (((v4 * (10 : Int32)) + x6) - (48 : Int32))), (5, aI (v5 + (1 : Int32)))] [] h5) xT)) rfl rfl rfl (fun R E => rfl)
-- Chipcardhouse$Script.readPin()I
set_option maxRecDepth 100000 in
theorem lf_56_0 (o : Option (Nat × Nat)) (h : Hp) : Ru 56 0 [(0, aR o)] [] h =
    (gfI h o 8 1).bind (fun x1 =>
    cI (Ex 58 [aR o, aI x1] h) (fun x3 h2 =>
    cI (Ex 59 [aR o, aI x3, aI (97 : Int32), aI (122 : Int32)] h2) (fun x5 h4 =>
    cI (Ex 60 [aR o, aI x3, aI x5, aR (some (0, 10))] h4) (fun x7 h6 =>
    if x7 = 0 then
      cI (Ex 55 [aR o, aI (3 : Int32)] h6) (fun x9 h8 =>
      some (.inl (some (aI x9)), h8)) xT
    else
      (gfR h6 o 8 3).bind (fun x10 =>
      (pa h6 x10 1000 (3 : Int32) (aI (-1 : Int32))).bind (fun h11 =>
      (pf h11 o 8 1 (aI x5)).bind (fun h12 =>
      some (.inl (some (aI (-1 : Int32))), h12))))) xT) xT) xT) :=
  lift_of (k := 28) (rows := code_56) (cuts := cut_56) (hs := hdl_56) (r := fun R E =>
    (gfI h o 8 1).bind (fun x1 =>
    cI (E 58 [aR o, aI x1] h) (fun x3 h2 =>
    cI (E 59 [aR o, aI x3, aI (97 : Int32), aI (122 : Int32)] h2) (fun x5 h4 =>
    cI (E 60 [aR o, aI x3, aI x5, aR (some (0, 10))] h4) (fun x7 h6 =>
    if x7 = 0 then
      cI (E 55 [aR o, aI (3 : Int32)] h6) (fun x9 h8 =>
      some (.inl (some (aI x9)), h8)) xT
    else
      (gfR h6 o 8 3).bind (fun x10 =>
      (pa h6 x10 1000 (3 : Int32) (aI (-1 : Int32))).bind (fun h11 =>
      (pf h11 o 8 1 (aI x5)).bind (fun h12 =>
      some (.inl (some (aI (-1 : Int32))), h12))))) xT) xT) xT)) rfl rfl rfl (fun R E => rfl)
-- Chipcardhouse$Script.readEnd()I
set_option maxRecDepth 100000 in
theorem lf_57_0 (o : Option (Nat × Nat)) (h : Hp) : Ru 57 0 [(0, aR o)] [] h =
    (gfI h o 8 1).bind (fun x1 =>
    cI (Ex 58 [aR o, aI x1] h) (fun x3 h2 =>
    (gfR h2 o 8 0).bind (fun x4 =>
    cI (Ex 412 [aR x4] h2) (fun x6 h5 =>
    if x6 ≤ x3 then
      some (.inl (some (aI x3)), h5)
    else
      (gfR h5 o 8 0).bind (fun x7 =>
      cI (Ex 413 [aR x7, aI x3] h5) (fun x9 h8 =>
      if x9 = (59 : Int32) then
        (pf h8 o 8 1 (aI (x3 + (1 : Int32)))).bind (fun h10 =>
        some (.inl (some (aI (-1 : Int32))), h10))
      else
        some (.inl (some (aI x3)), h8)) xT)) xT)) xT) :=
  lift_of (k := 24) (rows := code_57) (cuts := cut_57) (hs := hdl_57) (r := fun R E =>
    (gfI h o 8 1).bind (fun x1 =>
    cI (E 58 [aR o, aI x1] h) (fun x3 h2 =>
    (gfR h2 o 8 0).bind (fun x4 =>
    cI (E 412 [aR x4] h2) (fun x6 h5 =>
    if x6 ≤ x3 then
      some (.inl (some (aI x3)), h5)
    else
      (gfR h5 o 8 0).bind (fun x7 =>
      cI (E 413 [aR x7, aI x3] h5) (fun x9 h8 =>
      if x9 = (59 : Int32) then
        (pf h8 o 8 1 (aI (x3 + (1 : Int32)))).bind (fun h10 =>
        some (.inl (some (aI (-1 : Int32))), h10))
      else
        some (.inl (some (aI x3)), h8)) xT)) xT)) xT)) rfl rfl rfl (fun R E => rfl)
-- Chipcardhouse$Script.tokenFrom(I)I
set_option maxRecDepth 100000 in
theorem lf_58_0 (o : Option (Nat × Nat)) (p0 : Int32) (h : Hp) : Ru 58 0 [(0, aR o), (1, aI p0)] [] h =
    cI (Ex 59 [aR o, aI p0, aI (32 : Int32), aI (32 : Int32)] h) (fun x2 h1 =>
    some (.inl (some (aI x2)), h1)) xT :=
  lift_of (k := 7) (rows := code_58) (cuts := cut_58) (hs := hdl_58) (r := fun R E =>
    cI (E 59 [aR o, aI p0, aI (32 : Int32), aI (32 : Int32)] h) (fun x2 h1 =>
    some (.inl (some (aI x2)), h1)) xT) rfl rfl rfl (fun R E => rfl)
-- Chipcardhouse$Script.rowFrom(ICC)I
set_option maxRecDepth 100000 in
theorem lf_59_0 (o : Option (Nat × Nat)) (p0 : Int32) (p1 : Int32) (p2 : Int32) (h : Hp) : Ru 59 0 [(0, aR o), (1, aI p0), (2, aI p1), (3, aI p2)] [] h =
    Ru 59 3 [(0, aR o), (2, aI p1), (3, aI p2), (4, aI p0)] [] h :=
  lift_of (k := 3) (rows := code_59) (cuts := cut_59) (hs := hdl_59) (r := fun R E =>
    R 3 [(0, aR o), (2, aI p1), (3, aI p2), (4, aI p0)] [] h) rfl rfl rfl (fun R E => rfl)
set_option maxRecDepth 100000 in
theorem lf_59_3 (o : Option (Nat × Nat)) (v2 : Int32) (v3 : Int32) (v4 : Int32) (h : Hp) : Ru 59 3 [(0, aR o), (2, aI v2), (3, aI v3), (4, aI v4)] [] h =
    (gfR h o 8 0).bind (fun x1 =>
    cI (Ex 412 [aR x1] h) (fun x3 h2 =>
    if x3 ≤ v4 then
      (gfR h2 o 8 0).bind (fun x4 =>
      cI (Ex 412 [aR x4] h2) (fun x6 h5 =>
      some (.inl (some (aI x6)), h5)) xT)
    else
      (gfR h2 o 8 0).bind (fun x7 =>
      cI (Ex 413 [aR x7, aI v4] h2) (fun x9 h8 =>
      if x9 < v2 then
        some (.inl (some (aI v4)), h8)
      else
        (gfR h8 o 8 0).bind (fun x10 =>
        cI (Ex 413 [aR x10, aI v4] h8) (fun x12 h11 =>
        if x12 ≤ v3 then
          Ru 59 3 [(0, aR o), (2, aI v2), (3, aI v3), (4, aI (v4 + (1 : Int32)))] [] h11
        else
          some (.inl (some (aI v4)), h11)) xT)) xT)) xT) :=
  lift_of (k := 20) (rows := code_59) (cuts := cut_59) (hs := hdl_59) (r := fun R E =>
    (gfR h o 8 0).bind (fun x1 =>
    cI (E 412 [aR x1] h) (fun x3 h2 =>
    if x3 ≤ v4 then
      (gfR h2 o 8 0).bind (fun x4 =>
      cI (E 412 [aR x4] h2) (fun x6 h5 =>
      some (.inl (some (aI x6)), h5)) xT)
    else
      (gfR h2 o 8 0).bind (fun x7 =>
      cI (E 413 [aR x7, aI v4] h2) (fun x9 h8 =>
      if x9 < v2 then
        some (.inl (some (aI v4)), h8)
      else
        (gfR h8 o 8 0).bind (fun x10 =>
        cI (E 413 [aR x10, aI v4] h8) (fun x12 h11 =>
        if x12 ≤ v3 then
          R 3 [(0, aR o), (2, aI v2), (3, aI v3), (4, aI (v4 + (1 : Int32)))] [] h11
        else
          some (.inl (some (aI v4)), h11)) xT)) xT)) xT)) rfl rfl rfl (fun R E => rfl)
-- Chipcardhouse$Script.isWord(IILjava/lang/String;)Z
set_option maxRecDepth 100000 in
theorem lf_60_0 (o : Option (Nat × Nat)) (p0 : Int32) (p1 : Int32) (p2 : Option (Nat × Nat)) (h : Hp) : Ru 60 0 [(0, aR o), (1, aI p0), (2, aI p1), (3, aR p2)] [] h =
    cI (Ex 415 [aR p2] h) (fun x2 h1 =>
    if (p1 - p0) = x2 then
      Ru 60 15 [(0, aR o), (1, aI p0), (2, aI p1), (3, aR p2), (4, aI p0)] [] h1
    else
      some (.inl (some (aI (0 : Int32))), h1)) xT :=
  lift_of (k := 9) (rows := code_60) (cuts := cut_60) (hs := hdl_60) (r := fun R E =>
    cI (E 415 [aR p2] h) (fun x2 h1 =>
    if (p1 - p0) = x2 then
      R 15 [(0, aR o), (1, aI p0), (2, aI p1), (3, aR p2), (4, aI p0)] [] h1
    else
      some (.inl (some (aI (0 : Int32))), h1)) xT) rfl rfl rfl (fun R E => rfl)
set_option maxRecDepth 100000 in
theorem lf_60_15 (o : Option (Nat × Nat)) (v1 : Int32) (v2 : Int32) (v3 : Option (Nat × Nat)) (v4 : Int32) (h : Hp) : Ru 60 15 [(0, aR o), (1, aI v1), (2, aI v2), (3, aR v3), (4, aI v4)] [] h =
    if v2 ≤ v4 then
      some (.inl (some (aI (1 : Int32))), h)
    else
      (gfR h o 8 0).bind (fun x1 =>
      cI (Ex 413 [aR x1, aI v4] h) (fun x3 h2 =>
      cI (Ex 416 [aR v3, aI (v4 - v1)] h2) (fun x5 h4 =>
      if x3 = x5 then
        Ru 60 15 [(0, aR o), (1, aI v1), (2, aI v2), (3, aR v3), (4, aI (v4 + (1 : Int32)))] [] h4
      else
        some (.inl (some (aI (0 : Int32))), h4)) xT) xT) :=
  lift_of (k := 16) (rows := code_60) (cuts := cut_60) (hs := hdl_60) (r := fun R E =>
    if v2 ≤ v4 then
      some (.inl (some (aI (1 : Int32))), h)
    else
      (gfR h o 8 0).bind (fun x1 =>
      cI (E 413 [aR x1, aI v4] h) (fun x3 h2 =>
      cI (E 416 [aR v3, aI (v4 - v1)] h2) (fun x5 h4 =>
      if x3 = x5 then
        R 15 [(0, aR o), (1, aI v1), (2, aI v2), (3, aR v3), (4, aI (v4 + (1 : Int32)))] [] h4
      else
        some (.inl (some (aI (0 : Int32))), h4)) xT) xT)) rfl rfl rfl (fun R E => rfl)
-- Chipcardhouse$Script.commandOf(II)I
set_option maxRecDepth 100000 in
theorem lf_61_0 (o : Option (Nat × Nat)) (p0 : Int32) (p1 : Int32) (h : Hp) : Ru 61 0 [(0, aR o), (1, aI p0), (2, aI p1)] [] h =
    Ru 61 2 [(0, aR o), (1, aI p0), (2, aI p1), (3, aI (0 : Int32))] [] h :=
  lift_of (k := 3) (rows := code_61) (cuts := cut_61) (hs := hdl_61) (r := fun R E =>
    R 2 [(0, aR o), (1, aI p0), (2, aI p1), (3, aI (0 : Int32))] [] h) rfl rfl rfl (fun R E => rfl)
set_option maxRecDepth 100000 in
theorem lf_61_2 (o : Option (Nat × Nat)) (v1 : Int32) (v2 : Int32) (v3 : Int32) (h : Hp) : Ru 61 2 [(0, aR o), (1, aI v1), (2, aI v2), (3, aI v3)] [] h =
    (len h (some (0, 1))).bind (fun x1 =>
    if x1 ≤ v3 then
      some (.inl (some (aI (-1 : Int32))), h)
    else
      cR (Ex 62 [aI v3] h) (fun x3 h2 =>
      cI (Ex 60 [aR o, aI v1, aI v2, aR x3] h2) (fun x5 h4 =>
      if x5 = 0 then
        Ru 61 2 [(0, aR o), (1, aI v1), (2, aI v2), (3, aI (v3 + (1 : Int32)))] [] h4
      else
        some (.inl (some (aI v3)), h4)) xT) xT) :=
  lift_of (k := 14) (rows := code_61) (cuts := cut_61) (hs := hdl_61) (r := fun R E =>
    (len h (some (0, 1))).bind (fun x1 =>
    if x1 ≤ v3 then
      some (.inl (some (aI (-1 : Int32))), h)
    else
      cR (E 62 [aI v3] h) (fun x3 h2 =>
      cI (E 60 [aR o, aI v1, aI v2, aR x3] h2) (fun x5 h4 =>
      if x5 = 0 then
        R 2 [(0, aR o), (1, aI v1), (2, aI v2), (3, aI (v3 + (1 : Int32)))] [] h4
      else
        some (.inl (some (aI v3)), h4)) xT) xT)) rfl rfl rfl (fun R E => rfl)
-- Chipcardhouse$Script.wordOf(I)Ljava/lang/String;
set_option maxRecDepth 100000 in
theorem lf_62_0 (p0 : Int32) (h : Hp) : Ru 62 0 [(0, aI p0)] [] h =
    if p0.toInt = 0 then
      some (.inl (some (aR (some (0, 11)))), h)
    else if p0.toInt = 1 then
      some (.inl (some (aR (some (0, 12)))), h)
    else if p0.toInt = 2 then
      some (.inl (some (aR (some (0, 13)))), h)
    else if p0.toInt = 3 then
      some (.inl (some (aR (some (0, 14)))), h)
    else if p0.toInt = 4 then
      some (.inl (some (aR (some (0, 15)))), h)
    else if p0.toInt = 5 then
      some (.inl (some (aR (some (0, 16)))), h)
    else if p0.toInt = 6 then
      some (.inl (some (aR (some (0, 17)))), h)
    else if p0.toInt = 7 then
      some (.inl (some (aR (some (0, 18)))), h)
    else if p0.toInt = 8 then
      some (.inl (some (aR (some (0, 19)))), h)
    else if p0.toInt = 9 then
      some (.inl (some (aR (some (0, 20)))), h)
    else if p0.toInt = 10 then
      some (.inl (some (aR (some (0, 21)))), h)
    else if p0.toInt = 11 then
      some (.inl (some (aR (some (0, 22)))), h)
    else if p0.toInt = 12 then
      some (.inl (some (aR (some (0, 23)))), h)
    else if p0.toInt = 13 then
      some (.inl (some (aR (some (0, 24)))), h)
    else if p0.toInt = 14 then
      some (.inl (some (aR (some (0, 25)))), h)
    else some (.inl (some (aR (some (0, 26)))), h) :=
  lift_of (k := 5) (rows := code_62) (cuts := cut_62) (hs := hdl_62) (r := fun R E =>
    if p0.toInt = 0 then
      some (.inl (some (aR (some (0, 11)))), h)
    else if p0.toInt = 1 then
      some (.inl (some (aR (some (0, 12)))), h)
    else if p0.toInt = 2 then
      some (.inl (some (aR (some (0, 13)))), h)
    else if p0.toInt = 3 then
      some (.inl (some (aR (some (0, 14)))), h)
    else if p0.toInt = 4 then
      some (.inl (some (aR (some (0, 15)))), h)
    else if p0.toInt = 5 then
      some (.inl (some (aR (some (0, 16)))), h)
    else if p0.toInt = 6 then
      some (.inl (some (aR (some (0, 17)))), h)
    else if p0.toInt = 7 then
      some (.inl (some (aR (some (0, 18)))), h)
    else if p0.toInt = 8 then
      some (.inl (some (aR (some (0, 19)))), h)
    else if p0.toInt = 9 then
      some (.inl (some (aR (some (0, 20)))), h)
    else if p0.toInt = 10 then
      some (.inl (some (aR (some (0, 21)))), h)
    else if p0.toInt = 11 then
      some (.inl (some (aR (some (0, 22)))), h)
    else if p0.toInt = 12 then
      some (.inl (some (aR (some (0, 23)))), h)
    else if p0.toInt = 13 then
      some (.inl (some (aR (some (0, 24)))), h)
    else if p0.toInt = 14 then
      some (.inl (some (aR (some (0, 25)))), h)
    else some (.inl (some (aR (some (0, 26)))), h)) rfl rfl rfl (fun R E => rfl)
-- Chipcardhouse$Switch.<init>()V
set_option maxRecDepth 100000 in
theorem lf_63_0 (o : Option (Nat × Nat)) (h : Hp) : Ru 63 0 [(0, aR o)] [] h =
    cV (Ex 420 [aR o] h) (fun h1 =>
    cV (Ex 400 [aR (nob h1 15 21 [0, 4, 0]).1] (nob h1 15 21 [0, 4, 0]).2) (fun h2 =>
    (pf h2 o 9 0 (aR (nob h1 15 21 [0, 4, 0]).1)).bind (fun h3 =>
    (pf h3 o 9 1 (aI (1000 : Int32))).bind (fun h4 =>
    (pf h4 o 9 2 (aI (1 : Int32))).bind (fun h5 =>
    some (.inl none, h5))))) xT) xT :=
  lift_of (k := 15) (rows := code_63) (cuts := cut_63) (hs := hdl_63) (r := fun R E =>
    cV (E 420 [aR o] h) (fun h1 =>
    cV (E 400 [aR (nob h1 15 21 [0, 4, 0]).1] (nob h1 15 21 [0, 4, 0]).2) (fun h2 =>
    (pf h2 o 9 0 (aR (nob h1 15 21 [0, 4, 0]).1)).bind (fun h3 =>
    (pf h3 o 9 1 (aI (1000 : Int32))).bind (fun h4 =>
    (pf h4 o 9 2 (aI (1 : Int32))).bind (fun h5 =>
    some (.inl none, h5))))) xT) xT) rfl rfl rfl (fun R E => rfl)
-- Chipcardhouse$Switch.answerTo(LChipcardhouse$Message;)LChipcardhouse$Message;
set_option maxRecDepth 100000 in
theorem lf_64_0 (o : Option (Nat × Nat)) (p0 : Option (Nat × Nat)) (h : Hp) : Ru 64 0 [(0, aR o), (1, aR p0)] [] h =
    (gfI (nob h 16 6 [0, 0, 0, 0, 0, 0, 0, 0, 0, 0, 0, 0, 0, 0, 0]).2 p0 6 1).bind (fun x1 =>
    cV (Ex 40 [aR (nob h 16 6 [0, 0, 0, 0, 0, 0, 0, 0, 0, 0, 0, 0, 0, 0, 0]).1, aI (5 : Int32), aI x1] (nob h 16 6 [0, 0, 0, 0, 0, 0, 0, 0, 0, 0, 0, 0, 0, 0, 0]).2) (fun h2 =>
    (pf h2 (nob h 16 6 [0, 0, 0, 0, 0, 0, 0, 0, 0, 0, 0, 0, 0, 0, 0]).1 6 7 (aI (2 : Int32))).bind (fun h3 =>
    cI (Ex 65 [aR o, aR p0] h3) (fun x5 h4 =>
    if x5 = 0 then
      (pf h4 (nob h 16 6 [0, 0, 0, 0, 0, 0, 0, 0, 0, 0, 0, 0, 0, 0, 0]).1 6 8 (aI (2 : Int32))).bind (fun h6 =>
      (gfI h6 (nob h 16 6 [0, 0, 0, 0, 0, 0, 0, 0, 0, 0, 0, 0, 0, 0, 0]).1 6 8).bind (fun x7 =>
      if x7 = (1 : Int32) then
        (pf h6 (nob h 16 6 [0, 0, 0, 0, 0, 0, 0, 0, 0, 0, 0, 0, 0, 0, 0]).1 6 9 (aI (0 : Int32))).bind (fun h8 =>
        some (.inl (some (aR (nob h 16 6 [0, 0, 0, 0, 0, 0, 0, 0, 0, 0, 0, 0, 0, 0, 0]).1)), h8))
      else
        (pf h6 (nob h 16 6 [0, 0, 0, 0, 0, 0, 0, 0, 0, 0, 0, 0, 0, 0, 0]).1 6 9 (aI (8 : Int32))).bind (fun h9 =>
        some (.inl (some (aR (nob h 16 6 [0, 0, 0, 0, 0, 0, 0, 0, 0, 0, 0, 0, 0, 0, 0]).1)), h9))))
    else
      (pf h4 (nob h 16 6 [0, 0, 0, 0, 0, 0, 0, 0, 0, 0, 0, 0, 0, 0, 0]).1 6 8 (aI (1 : Int32))).bind (fun h10 =>
      (gfI h10 (nob h 16 6 [0, 0, 0, 0, 0, 0, 0, 0, 0, 0, 0, 0, 0, 0, 0]).1 6 8).bind (fun x11 =>
      if x11 = (1 : Int32) then
        (pf h10 (nob h 16 6 [0, 0, 0, 0, 0, 0, 0, 0, 0, 0, 0, 0, 0, 0, 0]).1 6 9 (aI (0 : Int32))).bind (fun h12 =>
        some (.inl (some (aR (nob h 16 6 [0, 0, 0, 0, 0, 0, 0, 0, 0, 0, 0, 0, 0, 0, 0]).1)), h12))
      else
        (pf h10 (nob h 16 6 [0, 0, 0, 0, 0, 0, 0, 0, 0, 0, 0, 0, 0, 0, 0]).1 6 9 (aI (8 : Int32))).bind (fun h13 =>
        some (.inl (some (aR (nob h 16 6 [0, 0, 0, 0, 0, 0, 0, 0, 0, 0, 0, 0, 0, 0, 0]).1)), h13))))) xT)) xT) :=
  lift_of (k := 29) (rows := code_64) (cuts := cut_64) (hs := hdl_64) (r := fun R E =>
    (gfI (nob h 16 6 [0, 0, 0, 0, 0, 0, 0, 0, 0, 0, 0, 0, 0, 0, 0]).2 p0 6 1).bind (fun x1 =>
    cV (E 40 [aR (nob h 16 6 [0, 0, 0, 0, 0, 0, 0, 0, 0, 0, 0, 0, 0, 0, 0]).1, aI (5 : Int32), aI x1] (nob h 16 6 [0, 0, 0, 0, 0, 0, 0, 0, 0, 0, 0, 0, 0, 0, 0]).2) (fun h2 =>
    (pf h2 (nob h 16 6 [0, 0, 0, 0, 0, 0, 0, 0, 0, 0, 0, 0, 0, 0, 0]).1 6 7 (aI (2 : Int32))).bind (fun h3 =>
    cI (E 65 [aR o, aR p0] h3) (fun x5 h4 =>
    if x5 = 0 then
      (pf h4 (nob h 16 6 [0, 0, 0, 0, 0, 0, 0, 0, 0, 0, 0, 0, 0, 0, 0]).1 6 8 (aI (2 : Int32))).bind (fun h6 =>
      (gfI h6 (nob h 16 6 [0, 0, 0, 0, 0, 0, 0, 0, 0, 0, 0, 0, 0, 0, 0]).1 6 8).bind (fun x7 =>
      if x7 = (1 : Int32) then
        (pf h6 (nob h 16 6 [0, 0, 0, 0, 0, 0, 0, 0, 0, 0, 0, 0, 0, 0, 0]).1 6 9 (aI (0 : Int32))).bind (fun h8 =>
        some (.inl (some (aR (nob h 16 6 [0, 0, 0, 0, 0, 0, 0, 0, 0, 0, 0, 0, 0, 0, 0]).1)), h8))
      else
        (pf h6 (nob h 16 6 [0, 0, 0, 0, 0, 0, 0, 0, 0, 0, 0, 0, 0, 0, 0]).1 6 9 (aI (8 : Int32))).bind (fun h9 =>
        some (.inl (some (aR (nob h 16 6 [0, 0, 0, 0, 0, 0, 0, 0, 0, 0, 0, 0, 0, 0, 0]).1)), h9))))
    else
      (pf h4 (nob h 16 6 [0, 0, 0, 0, 0, 0, 0, 0, 0, 0, 0, 0, 0, 0, 0]).1 6 8 (aI (1 : Int32))).bind (fun h10 =>
      (gfI h10 (nob h 16 6 [0, 0, 0, 0, 0, 0, 0, 0, 0, 0, 0, 0, 0, 0, 0]).1 6 8).bind (fun x11 =>
      if x11 = (1 : Int32) then
        (pf h10 (nob h 16 6 [0, 0, 0, 0, 0, 0, 0, 0, 0, 0, 0, 0, 0, 0, 0]).1 6 9 (aI (0 : Int32))).bind (fun h12 =>
        some (.inl (some (aR (nob h 16 6 [0, 0, 0, 0, 0, 0, 0, 0, 0, 0, 0, 0, 0, 0, 0]).1)), h12))
      else
        (pf h10 (nob h 16 6 [0, 0, 0, 0, 0, 0, 0, 0, 0, 0, 0, 0, 0, 0, 0]).1 6 9 (aI (8 : Int32))).bind (fun h13 =>
        some (.inl (some (aR (nob h 16 6 [0, 0, 0, 0, 0, 0, 0, 0, 0, 0, 0, 0, 0, 0, 0]).1)), h13))))) xT)) xT)) rfl rfl rfl (fun R E => rfl)
-- Chipcardhouse$Switch.grant(LChipcardhouse$Message;)Z
set_option maxRecDepth 100000 in
theorem lf_65_0 (o : Option (Nat × Nat)) (p0 : Option (Nat × Nat)) (h : Hp) : Ru 65 0 [(0, aR o), (1, aR p0)] [] h =
    Ru 65 4 [(0, aR o), (1, aR p0), (2, aI (0 : Int32)), (3, aI (0 : Int32))] [] h :=
  lift_of (k := 5) (rows := code_65) (cuts := cut_65) (hs := hdl_65) (r := fun R E =>
    R 4 [(0, aR o), (1, aR p0), (2, aI (0 : Int32)), (3, aI (0 : Int32))] [] h) rfl rfl rfl (fun R E => rfl)
set_option maxRecDepth 100000 in
theorem lf_65_4 (o : Option (Nat × Nat)) (v1 : Option (Nat × Nat)) (v2 : Int32) (v3 : Int32) (h : Hp) : Ru 65 4 [(0, aR o), (1, aR v1), (2, aI v2), (3, aI v3)] [] h =
    (gfR h o 9 0).bind (fun x1 =>
    cI (Ex 405 [aR x1] h) (fun x3 h2 =>
    if x3 ≤ v3 then
      (gfI h2 v1 6 5).bind (fun x4 =>
      (gfI h2 o 9 1).bind (fun x5 =>
      if x5 < x4 then
        some (.inl (some (aI (0 : Int32))), h2)
      else
        if v2 < (3 : Int32) then
          (gfR h2 o 9 0).bind (fun x6 =>
          (gfI (nob h2 17 6 [0, 0, 0, 0, 0, 0, 0, 0, 0, 0, 0, 0, 0, 0, 0]).2 v1 6 1).bind (fun x7 =>
          cV (Ex 40 [aR (nob h2 17 6 [0, 0, 0, 0, 0, 0, 0, 0, 0, 0, 0, 0, 0, 0, 0]).1, aI (1 : Int32), aI x7] (nob h2 17 6 [0, 0, 0, 0, 0, 0, 0, 0, 0, 0, 0, 0, 0, 0, 0]).2) (fun h8 =>
          cR (Ex 41 [aR (nob h2 17 6 [0, 0, 0, 0, 0, 0, 0, 0, 0, 0, 0, 0, 0, 0, 0]).1, aR v1] h8) (fun x10 h9 =>
          cI (Ex 401 [aR x6, aR x10] h9) (fun x12 h11 =>
          some (.inl (some (aI (1 : Int32))), h11)) xT) xT) xT))
        else
          some (.inl (some (aI (0 : Int32))), h2)))
    else
      (gfR h2 o 9 0).bind (fun x13 =>
      cR (Ex 402 [aR x13, aI v3] h2) (fun x15 h14 =>
      acc x15 6 h14 (
      (gfI h14 x15 6 1).bind (fun x16 =>
      (gfI h14 v1 6 1).bind (fun x17 =>
      if x16 = x17 then
        some (.inl (some (aI (1 : Int32))), h14)
      else
        (gfR h14 o 9 0).bind (fun x18 =>
        cR (Ex 402 [aR x18, aI v3] h14) (fun x20 h19 =>
        acc x20 6 h19 (
        (gfI h19 x20 6 2).bind (fun x21 =>
        (gfI h19 v1 6 2).bind (fun x22 =>
        if x21 = x22 then
          Ru 65 4 [(0, aR o), (1, aR v1), (2, aI (v2 + (1 : Int32))), (3, aI (v3 + (1 : Int32)))] [] h19
        else
          Ru 65 4 [(0, aR o), (1, aR v1), (2, aI (v2 + (0 : Int32))), (3, aI (v3 + (1 : Int32)))] [] h19)))) xT))))) xT)) xT) :=
  lift_of (k := 31) (rows := code_65) (cuts := cut_65) (hs := hdl_65) (r := fun R E =>
    (gfR h o 9 0).bind (fun x1 =>
    cI (E 405 [aR x1] h) (fun x3 h2 =>
    if x3 ≤ v3 then
      (gfI h2 v1 6 5).bind (fun x4 =>
      (gfI h2 o 9 1).bind (fun x5 =>
      if x5 < x4 then
        some (.inl (some (aI (0 : Int32))), h2)
      else
        if v2 < (3 : Int32) then
          (gfR h2 o 9 0).bind (fun x6 =>
          (gfI (nob h2 17 6 [0, 0, 0, 0, 0, 0, 0, 0, 0, 0, 0, 0, 0, 0, 0]).2 v1 6 1).bind (fun x7 =>
          cV (E 40 [aR (nob h2 17 6 [0, 0, 0, 0, 0, 0, 0, 0, 0, 0, 0, 0, 0, 0, 0]).1, aI (1 : Int32), aI x7] (nob h2 17 6 [0, 0, 0, 0, 0, 0, 0, 0, 0, 0, 0, 0, 0, 0, 0]).2) (fun h8 =>
          cR (E 41 [aR (nob h2 17 6 [0, 0, 0, 0, 0, 0, 0, 0, 0, 0, 0, 0, 0, 0, 0]).1, aR v1] h8) (fun x10 h9 =>
          cI (E 401 [aR x6, aR x10] h9) (fun x12 h11 =>
          some (.inl (some (aI (1 : Int32))), h11)) xT) xT) xT))
        else
          some (.inl (some (aI (0 : Int32))), h2)))
    else
      (gfR h2 o 9 0).bind (fun x13 =>
      cR (E 402 [aR x13, aI v3] h2) (fun x15 h14 =>
      acc x15 6 h14 (
      (gfI h14 x15 6 1).bind (fun x16 =>
      (gfI h14 v1 6 1).bind (fun x17 =>
      if x16 = x17 then
        some (.inl (some (aI (1 : Int32))), h14)
      else
        (gfR h14 o 9 0).bind (fun x18 =>
        cR (E 402 [aR x18, aI v3] h14) (fun x20 h19 =>
        acc x20 6 h19 (
        (gfI h19 x20 6 2).bind (fun x21 =>
        (gfI h19 v1 6 2).bind (fun x22 =>
        if x21 = x22 then
          R 4 [(0, aR o), (1, aR v1), (2, aI (v2 + (1 : Int32))), (3, aI (v3 + (1 : Int32)))] [] h19
        else
          R 4 [(0, aR o), (1, aR v1), (2, aI (v2 + (0 : Int32))), (3, aI (v3 + (1 : Int32)))] [] h19)))) xT))))) xT)) xT)) rfl rfl rfl (fun R E => rfl)
-- Chipcardhouse$Terminal.<init>(IIILChipcardhouse$Clock;)V
set_option maxRecDepth 100000 in
theorem lf_66_0 (o : Option (Nat × Nat)) (p0 : Int32) (p1 : Int32) (p2 : Int32) (p3 : Option (Nat × Nat)) (h : Hp) : Ru 66 0 [(0, aR o), (1, aI p0), (2, aI p1), (3, aI p2), (4, aR p3)] [] h =
    cV (Ex 420 [aR o] h) (fun h1 =>
    cV (Ex 400 [aR (nob h1 18 21 [0, 4, 0]).1] (nob h1 18 21 [0, 4, 0]).2) (fun h2 =>
    (pf h2 o 10 6 (aR (nob h1 18 21 [0, 4, 0]).1)).bind (fun h3 =>
    cV (Ex 400 [aR (nob h3 19 21 [0, 4, 0]).1] (nob h3 19 21 [0, 4, 0]).2) (fun h4 =>
    (pf h4 o 10 7 (aR (nob h3 19 21 [0, 4, 0]).1)).bind (fun h5 =>
    (nwa h5 20 1002 (100 : Int32)).bind (fun q6 =>
    (pf q6.2 o 10 8 (aR q6.1)).bind (fun h7 =>
    (pf h7 o 10 9 (aI (0 : Int32))).bind (fun h8 =>
    (pf h8 o 10 10 (aI (0 : Int32))).bind (fun h9 =>
    (pf h9 o 10 11 (aL (0 : Int64))).bind (fun h10 =>
    (pf h10 o 10 12 (aL (0 : Int64))).bind (fun h11 =>
    (pf h11 o 10 0 (aI p0)).bind (fun h12 =>
    (pf h12 o 10 1 (aI p1)).bind (fun h13 =>
    (pf h13 o 10 2 (aI p2)).bind (fun h14 =>
    (pf h14 o 10 3 (aR p3)).bind (fun h15 =>
    cV (Ex 36 [aR (nob h15 21 5 [4, 4, 4, 0]).1, aR p3] (nob h15 21 5 [4, 4, 4, 0]).2) (fun h16 =>
    (pf h16 o 10 4 (aR (nob h15 21 5 [4, 4, 4, 0]).1)).bind (fun h17 =>
    cV (Ex 36 [aR (nob h17 22 5 [4, 4, 4, 0]).1, aR p3] (nob h17 22 5 [4, 4, 4, 0]).2) (fun h18 =>
    (pf h18 o 10 5 (aR (nob h17 22 5 [4, 4, 4, 0]).1)).bind (fun h19 =>
    some (.inl none, h19))) xT)) xT)))))))))))) xT)) xT) xT :=
  lift_of (k := 54) (rows := code_66) (cuts := cut_66) (hs := hdl_66) (r := fun R E =>
    cV (E 420 [aR o] h) (fun h1 =>
    cV (E 400 [aR (nob h1 18 21 [0, 4, 0]).1] (nob h1 18 21 [0, 4, 0]).2) (fun h2 =>
    (pf h2 o 10 6 (aR (nob h1 18 21 [0, 4, 0]).1)).bind (fun h3 =>
    cV (E 400 [aR (nob h3 19 21 [0, 4, 0]).1] (nob h3 19 21 [0, 4, 0]).2) (fun h4 =>
    (pf h4 o 10 7 (aR (nob h3 19 21 [0, 4, 0]).1)).bind (fun h5 =>
    (nwa h5 20 1002 (100 : Int32)).bind (fun q6 =>
    (pf q6.2 o 10 8 (aR q6.1)).bind (fun h7 =>
    (pf h7 o 10 9 (aI (0 : Int32))).bind (fun h8 =>
    (pf h8 o 10 10 (aI (0 : Int32))).bind (fun h9 =>
    (pf h9 o 10 11 (aL (0 : Int64))).bind (fun h10 =>
    (pf h10 o 10 12 (aL (0 : Int64))).bind (fun h11 =>
    (pf h11 o 10 0 (aI p0)).bind (fun h12 =>
    (pf h12 o 10 1 (aI p1)).bind (fun h13 =>
    (pf h13 o 10 2 (aI p2)).bind (fun h14 =>
    (pf h14 o 10 3 (aR p3)).bind (fun h15 =>
    cV (E 36 [aR (nob h15 21 5 [4, 4, 4, 0]).1, aR p3] (nob h15 21 5 [4, 4, 4, 0]).2) (fun h16 =>
    (pf h16 o 10 4 (aR (nob h15 21 5 [4, 4, 4, 0]).1)).bind (fun h17 =>
    cV (E 36 [aR (nob h17 22 5 [4, 4, 4, 0]).1, aR p3] (nob h17 22 5 [4, 4, 4, 0]).2) (fun h18 =>
    (pf h18 o 10 5 (aR (nob h17 22 5 [4, 4, 4, 0]).1)).bind (fun h19 =>
    some (.inl none, h19))) xT)) xT)))))))))))) xT)) xT) xT) rfl rfl rfl (fun R E => rfl)
-- Chipcardhouse$Terminal.isFirstTime(I)Z
set_option maxRecDepth 100000 in
theorem lf_67_0 (o : Option (Nat × Nat)) (p0 : Int32) (h : Hp) : Ru 67 0 [(0, aR o), (1, aI p0)] [] h =
    if p0 < 0 then
      some (.inl (some (aI (0 : Int32))), h)
    else
      (gfR h o 10 8).bind (fun x1 =>
      (len h x1).bind (fun x2 =>
      if x2 ≤ p0 then
        some (.inl (some (aI (0 : Int32))), h)
      else
        (gfR h o 10 8).bind (fun x3 =>
        (gaI h x3 1002 p0).bind (fun x4 =>
        if x4 = 0 then
          (gfR h o 10 8).bind (fun x5 =>
          (pa h x5 1002 p0 (aI (1 : Int32))).bind (fun h6 =>
          some (.inl (some (aI (1 : Int32))), h6)))
        else
          some (.inl (some (aI (0 : Int32))), h))))) :=
  lift_of (k := 20) (rows := code_67) (cuts := cut_67) (hs := hdl_67) (r := fun R E =>
    if p0 < 0 then
      some (.inl (some (aI (0 : Int32))), h)
    else
      (gfR h o 10 8).bind (fun x1 =>
      (len h x1).bind (fun x2 =>
      if x2 ≤ p0 then
        some (.inl (some (aI (0 : Int32))), h)
      else
        (gfR h o 10 8).bind (fun x3 =>
        (gaI h x3 1002 p0).bind (fun x4 =>
        if x4 = 0 then
          (gfR h o 10 8).bind (fun x5 =>
          (pa h x5 1002 p0 (aI (1 : Int32))).bind (fun h6 =>
          some (.inl (some (aI (1 : Int32))), h6)))
        else
          some (.inl (some (aI (0 : Int32))), h)))))) rfl rfl rfl (fun R E => rfl)
-- Chipcardhouse$Terminal.mustAsk(I)Z
set_option maxRecDepth 100000 in
theorem lf_68_0 (o : Option (Nat × Nat)) (p0 : Int32) (h : Hp) : Ru 68 0 [(0, aR o), (1, aI p0)] [] h =
    (gfI h o 10 1).bind (fun x1 =>
    if x1 < p0 then
      some (.inl (some (aI (1 : Int32))), h)
    else
      (gfI h o 10 2).bind (fun x2 =>
      if x2 ≤ 0 then
        some (.inl (some (aI (0 : Int32))), h)
      else
        (gfI h o 10 10).bind (fun x3 =>
        (gfI h o 10 2).bind (fun x4 =>
        if x4 = 0 then none else
        if (imod (x3 + (1 : Int32)) x4) = 0 then
          some (.inl (some (aI (1 : Int32))), h)
        else
          some (.inl (some (aI (0 : Int32))), h))))) :=
  lift_of (k := 19) (rows := code_68) (cuts := cut_68) (hs := hdl_68) (r := fun R E =>
    (gfI h o 10 1).bind (fun x1 =>
    if x1 < p0 then
      some (.inl (some (aI (1 : Int32))), h)
    else
      (gfI h o 10 2).bind (fun x2 =>
      if x2 ≤ 0 then
        some (.inl (some (aI (0 : Int32))), h)
      else
        (gfI h o 10 10).bind (fun x3 =>
        (gfI h o 10 2).bind (fun x4 =>
        if x4 = 0 then none else
        if (imod (x3 + (1 : Int32)) x4) = 0 then
          some (.inl (some (aI (1 : Int32))), h)
        else
          some (.inl (some (aI (0 : Int32))), h)))))) rfl rfl rfl (fun R E => rfl)
-- Chipcardhouse$Terminal.sendAsk(LChipcardhouse$Payment;)V
set_option maxRecDepth 100000 in
theorem lf_69_0 (o : Option (Nat × Nat)) (p0 : Option (Nat × Nat)) (h : Hp) : Ru 69 0 [(0, aR o), (1, aR p0)] [] h =
    (gfR h o 10 6).bind (fun x1 =>
    cI (Ex 401 [aR x1, aR p0] h) (fun x3 h2 =>
    (gfR h2 o 10 4).bind (fun x4 =>
    cR (Ex 48 [aR p0] h2) (fun x6 h5 =>
    cV (Ex 37 [aR x4, aR x6] h5) (fun h7 =>
    some (.inl none, h7)) xT) xT)) xT) :=
  lift_of (k := 12) (rows := code_69) (cuts := cut_69) (hs := hdl_69) (r := fun R E =>
    (gfR h o 10 6).bind (fun x1 =>
    cI (E 401 [aR x1, aR p0] h) (fun x3 h2 =>
    (gfR h2 o 10 4).bind (fun x4 =>
    cR (E 48 [aR p0] h2) (fun x6 h5 =>
    cV (E 37 [aR x4, aR x6] h5) (fun h7 =>
    some (.inl none, h7)) xT) xT)) xT)) rfl rfl rfl (fun R E => rfl)
-- Chipcardhouse$Terminal.sendAndKeep(LChipcardhouse$Message;)V
set_option maxRecDepth 100000 in
theorem lf_70_0 (o : Option (Nat × Nat)) (p0 : Option (Nat × Nat)) (h : Hp) : Ru 70 0 [(0, aR o), (1, aR p0)] [] h =
    (gfR h o 10 7).bind (fun x1 =>
    cI (Ex 401 [aR x1, aR p0] h) (fun x3 h2 =>
    (gfR h2 o 10 3).bind (fun x4 =>
    (gfI h2 x4 2 0).bind (fun x5 =>
    (pf h2 p0 6 13 (aI x5)).bind (fun h6 =>
    (gfR h6 o 10 4).bind (fun x7 =>
    cV (Ex 37 [aR x7, aR p0] h6) (fun h8 =>
    some (.inl none, h8)) xT))))) xT) :=
  lift_of (k := 16) (rows := code_70) (cuts := cut_70) (hs := hdl_70) (r := fun R E =>
    (gfR h o 10 7).bind (fun x1 =>
    cI (E 401 [aR x1, aR p0] h) (fun x3 h2 =>
    (gfR h2 o 10 3).bind (fun x4 =>
    (gfI h2 x4 2 0).bind (fun x5 =>
    (pf h2 p0 6 13 (aI x5)).bind (fun h6 =>
    (gfR h6 o 10 4).bind (fun x7 =>
    cV (E 37 [aR x7, aR p0] h6) (fun h8 =>
    some (.inl none, h8)) xT))))) xT)) rfl rfl rfl (fun R E => rfl)
-- Chipcardhouse$Terminal.hearWhatComes()V
set_option maxRecDepth 100000 in
theorem lf_71_0 (o : Option (Nat × Nat)) (h : Hp) : Ru 71 0 [(0, aR o)] [] h =
    (gfR h o 10 5).bind (fun x1 =>
    (gfI h x1 5 3).bind (fun x2 =>
    Ru 71 10 [(0, aR o), (1, aI x2), (2, aI (0 : Int32))] [] h)) :=
  lift_of (k := 7) (rows := code_71) (cuts := cut_71) (hs := hdl_71) (r := fun R E =>
    (gfR h o 10 5).bind (fun x1 =>
    (gfI h x1 5 3).bind (fun x2 =>
    R 10 [(0, aR o), (1, aI x2), (2, aI (0 : Int32))] [] h))) rfl rfl rfl (fun R E => rfl)
set_option maxRecDepth 100000 in
theorem lf_71_10 (o : Option (Nat × Nat)) (v1 : Int32) (v2 : Int32) (h : Hp) : Ru 71 10 [(0, aR o), (1, aI v1), (2, aI v2)] [] h =
    if v1 ≤ v2 then
      (gfR h o 10 5).bind (fun x1 =>
      cV (Ex 39 [aR x1] h) (fun h2 =>
      some (.inl none, h2)) xT)
    else
      (gfR h o 10 5).bind (fun x3 =>
      (gfR h x3 5 2).bind (fun x4 =>
      cR (Ex 402 [aR x4, aI v2] h) (fun x6 h5 =>
      acc x6 6 h5 (
      (gfI h5 x6 6 12).bind (fun x7 =>
      (gfR h5 o 10 3).bind (fun x8 =>
      (gfI h5 x8 2 0).bind (fun x9 =>
      if x7 = x9 then
        (gfI h5 x6 6 0).bind (fun x10 =>
        if x10 = (5 : Int32) then
          cV (Ex 72 [aR o, aR x6] h5) (fun h11 =>
          Ru 71 10 [(0, aR o), (1, aI v1), (2, aI (v2 + (1 : Int32)))] [] h11) xT
        else
          (gfI h5 x6 6 14).bind (fun x12 =>
          if x12 = 0 then
            cV (Ex 73 [aR o, aR x6] h5) (fun h13 =>
            Ru 71 10 [(0, aR o), (1, aI v1), (2, aI (v2 + (1 : Int32)))] [] h13) xT
          else
            Ru 71 10 [(0, aR o), (1, aI v1), (2, aI (v2 + (1 : Int32)))] [] h5))
      else
        Ru 71 10 [(0, aR o), (1, aI v1), (2, aI (v2 + (1 : Int32)))] [] h5))))) xT)) :=
  lift_of (k := 29) (rows := code_71) (cuts := cut_71) (hs := hdl_71) (r := fun R E =>
    if v1 ≤ v2 then
      (gfR h o 10 5).bind (fun x1 =>
      cV (E 39 [aR x1] h) (fun h2 =>
      some (.inl none, h2)) xT)
    else
      (gfR h o 10 5).bind (fun x3 =>
      (gfR h x3 5 2).bind (fun x4 =>
      cR (E 402 [aR x4, aI v2] h) (fun x6 h5 =>
      acc x6 6 h5 (
      (gfI h5 x6 6 12).bind (fun x7 =>
      (gfR h5 o 10 3).bind (fun x8 =>
      (gfI h5 x8 2 0).bind (fun x9 =>
      if x7 = x9 then
        (gfI h5 x6 6 0).bind (fun x10 =>
        if x10 = (5 : Int32) then
          cV (E 72 [aR o, aR x6] h5) (fun h11 =>
          R 10 [(0, aR o), (1, aI v1), (2, aI (v2 + (1 : Int32)))] [] h11) xT
        else
          (gfI h5 x6 6 14).bind (fun x12 =>
          if x12 = 0 then
            cV (E 73 [aR o, aR x6] h5) (fun h13 =>
            R 10 [(0, aR o), (1, aI v1), (2, aI (v2 + (1 : Int32)))] [] h13) xT
          else
            R 10 [(0, aR o), (1, aI v1), (2, aI (v2 + (1 : Int32)))] [] h5))
      else
        R 10 [(0, aR o), (1, aI v1), (2, aI (v2 + (1 : Int32)))] [] h5))))) xT))) rfl rfl rfl (fun R E => rfl)
-- Chipcardhouse$Terminal.hearAnswer(LChipcardhouse$Message;)V
set_option maxRecDepth 100000 in
theorem lf_72_0 (o : Option (Nat × Nat)) (p0 : Option (Nat × Nat)) (h : Hp) : Ru 72 0 [(0, aR o), (1, aR p0)] [] h =
    Ru 72 2 [(0, aR o), (1, aR p0), (2, aI (0 : Int32))] [] h :=
  lift_of (k := 3) (rows := code_72) (cuts := cut_72) (hs := hdl_72) (r := fun R E =>
    R 2 [(0, aR o), (1, aR p0), (2, aI (0 : Int32))] [] h) rfl rfl rfl (fun R E => rfl)
set_option maxRecDepth 100000 in
theorem lf_72_2 (o : Option (Nat × Nat)) (v1 : Option (Nat × Nat)) (v2 : Int32) (h : Hp) : Ru 72 2 [(0, aR o), (1, aR v1), (2, aI v2)] [] h =
    (gfR h o 10 6).bind (fun x1 =>
    cI (Ex 405 [aR x1] h) (fun x3 h2 =>
    if x3 ≤ v2 then
      some (.inl none, h2)
    else
      (gfR h2 o 10 6).bind (fun x4 =>
      cR (Ex 402 [aR x4, aI v2] h2) (fun x6 h5 =>
      acc x6 7 h5 (
      (gfI h5 x6 7 0).bind (fun x7 =>
      (gfI h5 v1 6 1).bind (fun x8 =>
      if x7 = x8 then
        cV (Ex 47 [aR x6, aR v1] h5) (fun h9 =>
        (gfI h9 x6 7 7).bind (fun x10 =>
        if x10 = (1 : Int32) then
          some (.inl none, h9)
        else
          (gfR h9 o 10 6).bind (fun x11 =>
          cR (Ex 404 [aR x11, aI v2] h9) (fun x13 h12 =>
          some (.inl none, h12)) xT))) xT
      else
        Ru 72 2 [(0, aR o), (1, aR v1), (2, aI (v2 + (1 : Int32)))] [] h5)))) xT)) xT) :=
  lift_of (k := 30) (rows := code_72) (cuts := cut_72) (hs := hdl_72) (r := fun R E =>
    (gfR h o 10 6).bind (fun x1 =>
    cI (E 405 [aR x1] h) (fun x3 h2 =>
    if x3 ≤ v2 then
      some (.inl none, h2)
    else
      (gfR h2 o 10 6).bind (fun x4 =>
      cR (E 402 [aR x4, aI v2] h2) (fun x6 h5 =>
      acc x6 7 h5 (
      (gfI h5 x6 7 0).bind (fun x7 =>
      (gfI h5 v1 6 1).bind (fun x8 =>
      if x7 = x8 then
        cV (E 47 [aR x6, aR v1] h5) (fun h9 =>
        (gfI h9 x6 7 7).bind (fun x10 =>
        if x10 = (1 : Int32) then
          some (.inl none, h9)
        else
          (gfR h9 o 10 6).bind (fun x11 =>
          cR (E 404 [aR x11, aI v2] h9) (fun x13 h12 =>
          some (.inl none, h12)) xT))) xT
      else
        R 2 [(0, aR o), (1, aR v1), (2, aI (v2 + (1 : Int32)))] [] h5)))) xT)) xT)) rfl rfl rfl (fun R E => rfl)
-- Chipcardhouse$Terminal.forget(LChipcardhouse$Message;)V
set_option maxRecDepth 100000 in
theorem lf_73_0 (o : Option (Nat × Nat)) (p0 : Option (Nat × Nat)) (h : Hp) : Ru 73 0 [(0, aR o), (1, aR p0)] [] h =
    Ru 73 2 [(0, aR o), (1, aR p0), (2, aI (0 : Int32))] [] h :=
  lift_of (k := 3) (rows := code_73) (cuts := cut_73) (hs := hdl_73) (r := fun R E =>
    R 2 [(0, aR o), (1, aR p0), (2, aI (0 : Int32))] [] h) rfl rfl rfl (fun R E => rfl)
set_option maxRecDepth 100000 in
theorem lf_73_2 (o : Option (Nat × Nat)) (v1 : Option (Nat × Nat)) (v2 : Int32) (h : Hp) : Ru 73 2 [(0, aR o), (1, aR v1), (2, aI v2)] [] h =
    (gfR h o 10 7).bind (fun x1 =>
    cI (Ex 405 [aR x1] h) (fun x3 h2 =>
    if x3 ≤ v2 then
      some (.inl none, h2)
    else
      (gfR h2 o 10 7).bind (fun x4 =>
      cR (Ex 402 [aR x4, aI v2] h2) (fun x6 h5 =>
      acc x6 6 h5 (
      (gfI h5 x6 6 0).bind (fun x7 =>
      (gfI h5 v1 6 0).bind (fun x8 =>
      if x7 = x8 then
        (gfI h5 x6 6 1).bind (fun x9 =>
        (gfI h5 v1 6 1).bind (fun x10 =>
        if x9 = x10 then
          (gfI h5 x6 6 11).bind (fun x11 =>
          (gfI h5 v1 6 11).bind (fun x12 =>
          if x11 = x12 then
            (gfR h5 o 10 7).bind (fun x13 =>
            cR (Ex 404 [aR x13, aI v2] h5) (fun x15 h14 =>
            some (.inl none, h14)) xT)
          else
            Ru 73 2 [(0, aR o), (1, aR v1), (2, aI (v2 + (1 : Int32)))] [] h5))
        else
          Ru 73 2 [(0, aR o), (1, aR v1), (2, aI (v2 + (1 : Int32)))] [] h5))
      else
        Ru 73 2 [(0, aR o), (1, aR v1), (2, aI (v2 + (1 : Int32)))] [] h5)))) xT)) xT) :=
  lift_of (k := 33) (rows := code_73) (cuts := cut_73) (hs := hdl_73) (r := fun R E =>
    (gfR h o 10 7).bind (fun x1 =>
    cI (E 405 [aR x1] h) (fun x3 h2 =>
    if x3 ≤ v2 then
      some (.inl none, h2)
    else
      (gfR h2 o 10 7).bind (fun x4 =>
      cR (E 402 [aR x4, aI v2] h2) (fun x6 h5 =>
      acc x6 6 h5 (
      (gfI h5 x6 6 0).bind (fun x7 =>
      (gfI h5 v1 6 0).bind (fun x8 =>
      if x7 = x8 then
        (gfI h5 x6 6 1).bind (fun x9 =>
        (gfI h5 v1 6 1).bind (fun x10 =>
        if x9 = x10 then
          (gfI h5 x6 6 11).bind (fun x11 =>
          (gfI h5 v1 6 11).bind (fun x12 =>
          if x11 = x12 then
            (gfR h5 o 10 7).bind (fun x13 =>
            cR (E 404 [aR x13, aI v2] h5) (fun x15 h14 =>
            some (.inl none, h14)) xT)
          else
            R 2 [(0, aR o), (1, aR v1), (2, aI (v2 + (1 : Int32)))] [] h5))
        else
          R 2 [(0, aR o), (1, aR v1), (2, aI (v2 + (1 : Int32)))] [] h5))
      else
        R 2 [(0, aR o), (1, aR v1), (2, aI (v2 + (1 : Int32)))] [] h5)))) xT)) xT)) rfl rfl rfl (fun R E => rfl)
-- Chipcardhouse$Terminal.giveUpOldest()V
set_option maxRecDepth 100000 in
theorem lf_74_0 (o : Option (Nat × Nat)) (h : Hp) : Ru 74 0 [(0, aR o)] [] h =
    (gfR h o 10 6).bind (fun x1 =>
    cI (Ex 405 [aR x1] h) (fun x3 h2 =>
    Ru 74 10 [(0, aR o), (1, aI x3), (2, aI (0 : Int32))] [] h2) xT) :=
  lift_of (k := 7) (rows := code_74) (cuts := cut_74) (hs := hdl_74) (r := fun R E =>
    (gfR h o 10 6).bind (fun x1 =>
    cI (E 405 [aR x1] h) (fun x3 h2 =>
    R 10 [(0, aR o), (1, aI x3), (2, aI (0 : Int32))] [] h2) xT)) rfl rfl rfl (fun R E => rfl)
set_option maxRecDepth 100000 in
theorem lf_74_10 (o : Option (Nat × Nat)) (v1 : Int32) (v2 : Int32) (h : Hp) : Ru 74 10 [(0, aR o), (1, aI v1), (2, aI v2)] [] h =
    if v1 ≤ v2 then
      some (.inl none, h)
    else
      (gfR h o 10 6).bind (fun x1 =>
      cI (Ex 406 [aR x1] h) (fun x3 h2 =>
      if x3 = 0 then
        (gfR h2 o 10 6).bind (fun x4 =>
        cR (Ex 402 [aR x4, aI (0 : Int32)] h2) (fun x6 h5 =>
        acc x6 7 h5 (
        (gfR h5 o 10 3).bind (fun x7 =>
        (gfI h5 x7 2 0).bind (fun x8 =>
        (gfI h5 x6 7 6).bind (fun x9 =>
        if (8 : Int32) ≤ (x8 - x9) then
          (gfR h5 o 10 6).bind (fun x10 =>
          cR (Ex 404 [aR x10, aI (0 : Int32)] h5) (fun x12 h11 =>
          cV (Ex 46 [aR x6] h11) (fun h13 =>
          (gfI (nob h13 23 6 [0, 0, 0, 0, 0, 0, 0, 0, 0, 0, 0, 0, 0, 0, 0]).2 x6 7 0).bind (fun x14 =>
          cV (Ex 40 [aR (nob h13 23 6 [0, 0, 0, 0, 0, 0, 0, 0, 0, 0, 0, 0, 0, 0, 0]).1, aI (2 : Int32), aI x14] (nob h13 23 6 [0, 0, 0, 0, 0, 0, 0, 0, 0, 0, 0, 0, 0, 0, 0]).2) (fun h15 =>
          cV (Ex 70 [aR o, aR (nob h13 23 6 [0, 0, 0, 0, 0, 0, 0, 0, 0, 0, 0, 0, 0, 0, 0]).1] h15) (fun h16 =>
          Ru 74 10 [(0, aR o), (1, aI v1), (2, aI (v2 + (1 : Int32)))] [] h16) xT) xT)) xT) xT)
        else
          some (.inl none, h5)))))) xT)
      else
        some (.inl none, h2)) xT) :=
  lift_of (k := 39) (rows := code_74) (cuts := cut_74) (hs := hdl_74) (r := fun R E =>
    if v1 ≤ v2 then
      some (.inl none, h)
    else
      (gfR h o 10 6).bind (fun x1 =>
      cI (E 406 [aR x1] h) (fun x3 h2 =>
      if x3 = 0 then
        (gfR h2 o 10 6).bind (fun x4 =>
        cR (E 402 [aR x4, aI (0 : Int32)] h2) (fun x6 h5 =>
        acc x6 7 h5 (
        (gfR h5 o 10 3).bind (fun x7 =>
        (gfI h5 x7 2 0).bind (fun x8 =>
        (gfI h5 x6 7 6).bind (fun x9 =>
        if (8 : Int32) ≤ (x8 - x9) then
          (gfR h5 o 10 6).bind (fun x10 =>
          cR (E 404 [aR x10, aI (0 : Int32)] h5) (fun x12 h11 =>
          cV (E 46 [aR x6] h11) (fun h13 =>
          (gfI (nob h13 23 6 [0, 0, 0, 0, 0, 0, 0, 0, 0, 0, 0, 0, 0, 0, 0]).2 x6 7 0).bind (fun x14 =>
          cV (E 40 [aR (nob h13 23 6 [0, 0, 0, 0, 0, 0, 0, 0, 0, 0, 0, 0, 0, 0, 0]).1, aI (2 : Int32), aI x14] (nob h13 23 6 [0, 0, 0, 0, 0, 0, 0, 0, 0, 0, 0, 0, 0, 0, 0]).2) (fun h15 =>
          cV (E 70 [aR o, aR (nob h13 23 6 [0, 0, 0, 0, 0, 0, 0, 0, 0, 0, 0, 0, 0, 0, 0]).1] h15) (fun h16 =>
          R 10 [(0, aR o), (1, aI v1), (2, aI (v2 + (1 : Int32)))] [] h16) xT) xT)) xT) xT)
        else
          some (.inl none, h5)))))) xT)
      else
        some (.inl none, h2)) xT)) rfl rfl rfl (fun R E => rfl)
-- Chipcardhouse$Terminal.repeatKept()V
set_option maxRecDepth 100000 in
theorem lf_75_0 (o : Option (Nat × Nat)) (h : Hp) : Ru 75 0 [(0, aR o)] [] h =
    Ru 75 2 [(0, aR o), (1, aI (0 : Int32))] [] h :=
  lift_of (k := 3) (rows := code_75) (cuts := cut_75) (hs := hdl_75) (r := fun R E =>
    R 2 [(0, aR o), (1, aI (0 : Int32))] [] h) rfl rfl rfl (fun R E => rfl)
set_option maxRecDepth 100000 in
theorem lf_75_2 (o : Option (Nat × Nat)) (v1 : Int32) (h : Hp) : Ru 75 2 [(0, aR o), (1, aI v1)] [] h =
    (gfR h o 10 7).bind (fun x1 =>
    cI (Ex 405 [aR x1] h) (fun x3 h2 =>
    if x3 ≤ v1 then
      some (.inl none, h2)
    else
      (gfR h2 o 10 7).bind (fun x4 =>
      cR (Ex 402 [aR x4, aI v1] h2) (fun x6 h5 =>
      acc x6 6 h5 (
      (gfR h5 o 10 3).bind (fun x7 =>
      (gfI h5 x7 2 0).bind (fun x8 =>
      (gfI h5 x6 6 13).bind (fun x9 =>
      if (x8 - x9) < (10 : Int32) then
        Ru 75 2 [(0, aR o), (1, aI (v1 + (1 : Int32)))] [] h5
      else
        (gfR h5 o 10 3).bind (fun x10 =>
        (gfI h5 x10 2 0).bind (fun x11 =>
        (pf h5 x6 6 13 (aI x11)).bind (fun h12 =>
        (gfR h12 o 10 4).bind (fun x13 =>
        cV (Ex 37 [aR x13, aR x6] h12) (fun h14 =>
        Ru 75 2 [(0, aR o), (1, aI (v1 + (1 : Int32)))] [] h14) xT))))))))) xT)) xT) :=
  lift_of (k := 31) (rows := code_75) (cuts := cut_75) (hs := hdl_75) (r := fun R E =>
    (gfR h o 10 7).bind (fun x1 =>
    cI (E 405 [aR x1] h) (fun x3 h2 =>
    if x3 ≤ v1 then
      some (.inl none, h2)
    else
      (gfR h2 o 10 7).bind (fun x4 =>
      cR (E 402 [aR x4, aI v1] h2) (fun x6 h5 =>
      acc x6 6 h5 (
      (gfR h5 o 10 3).bind (fun x7 =>
      (gfI h5 x7 2 0).bind (fun x8 =>
      (gfI h5 x6 6 13).bind (fun x9 =>
      if (x8 - x9) < (10 : Int32) then
        R 2 [(0, aR o), (1, aI (v1 + (1 : Int32)))] [] h5
      else
        (gfR h5 o 10 3).bind (fun x10 =>
        (gfI h5 x10 2 0).bind (fun x11 =>
        (pf h5 x6 6 13 (aI x11)).bind (fun h12 =>
        (gfR h12 o 10 4).bind (fun x13 =>
        cV (E 37 [aR x13, aR x6] h12) (fun h14 =>
        R 2 [(0, aR o), (1, aI (v1 + (1 : Int32)))] [] h14) xT))))))))) xT)) xT)) rfl rfl rfl (fun R E => rfl)
-- Chipcardhouse.<init>()V
set_option maxRecDepth 100000 in
theorem lf_76_0 (o : Option (Nat × Nat)) (h : Hp) : Ru 76 0 [(0, aR o)] [] h =
    cV (Ex 420 [aR o] h) (fun h1 =>
    cV (Ex 51 [aR (nob h1 24 8 [4, 0, 0, 4]).1] (nob h1 24 8 [4, 0, 0, 4]).2) (fun h2 =>
    (pf h2 o 11 0 (aR (nob h1 24 8 [4, 0, 0, 4]).1)).bind (fun h3 =>
    cV (Ex 12 [aR (nob h3 25 2 [0, 0, 0]).1] (nob h3 25 2 [0, 0, 0]).2) (fun h4 =>
    (pf h4 o 11 1 (aR (nob h3 25 2 [0, 0, 0]).1)).bind (fun h5 =>
    cV (Ex 400 [aR (nob h5 26 21 [0, 4, 0]).1] (nob h5 26 21 [0, 4, 0]).2) (fun h6 =>
    (pf h6 o 11 2 (aR (nob h5 26 21 [0, 4, 0]).1)).bind (fun h7 =>
    cV (Ex 400 [aR (nob h7 27 21 [0, 4, 0]).1] (nob h7 27 21 [0, 4, 0]).2) (fun h8 =>
    (pf h8 o 11 3 (aR (nob h7 27 21 [0, 4, 0]).1)).bind (fun h9 =>
    cV (Ex 400 [aR (nob h9 28 21 [0, 4, 0]).1] (nob h9 28 21 [0, 4, 0]).2) (fun h10 =>
    (pf h10 o 11 4 (aR (nob h9 28 21 [0, 4, 0]).1)).bind (fun h11 =>
    cV (Ex 400 [aR (nob h11 29 21 [0, 4, 0]).1] (nob h11 29 21 [0, 4, 0]).2) (fun h12 =>
    (pf h12 o 11 5 (aR (nob h11 29 21 [0, 4, 0]).1)).bind (fun h13 =>
    (gfR (nob h13 30 3 [4, 4, 4, 0, 0]).2 o 11 4).bind (fun x14 =>
    (gfR (nob h13 30 3 [4, 4, 4, 0, 0]).2 o 11 1).bind (fun x15 =>
    cV (Ex 13 [aR (nob h13 30 3 [4, 4, 4, 0, 0]).1, aR x14, aR x15] (nob h13 30 3 [4, 4, 4, 0, 0]).2) (fun h16 =>
    (pf h16 o 11 6 (aR (nob h13 30 3 [4, 4, 4, 0, 0]).1)).bind (fun h17 =>
    cV (Ex 63 [aR (nob h17 31 9 [4, 0, 0]).1] (nob h17 31 9 [4, 0, 0]).2) (fun h18 =>
    (pf h18 o 11 7 (aR (nob h17 31 9 [4, 0, 0]).1)).bind (fun h19 =>
    (pf h19 o 11 8 (aI (100 : Int32))).bind (fun h20 =>
    (pf h20 o 11 9 (aL (0 : Int64))).bind (fun h21 =>
    (pf h21 o 11 10 (aL (0 : Int64))).bind (fun h22 =>
    (pf h22 o 11 11 (aI (0 : Int32))).bind (fun h23 =>
    some (.inl none, h23))))))) xT)) xT)))) xT)) xT)) xT)) xT)) xT)) xT) xT :=
  lift_of (k := 60) (rows := code_76) (cuts := cut_76) (hs := hdl_76) (r := fun R E =>
    cV (E 420 [aR o] h) (fun h1 =>
    cV (E 51 [aR (nob h1 24 8 [4, 0, 0, 4]).1] (nob h1 24 8 [4, 0, 0, 4]).2) (fun h2 =>
    (pf h2 o 11 0 (aR (nob h1 24 8 [4, 0, 0, 4]).1)).bind (fun h3 =>
    cV (E 12 [aR (nob h3 25 2 [0, 0, 0]).1] (nob h3 25 2 [0, 0, 0]).2) (fun h4 =>
    (pf h4 o 11 1 (aR (nob h3 25 2 [0, 0, 0]).1)).bind (fun h5 =>
    cV (E 400 [aR (nob h5 26 21 [0, 4, 0]).1] (nob h5 26 21 [0, 4, 0]).2) (fun h6 =>
    (pf h6 o 11 2 (aR (nob h5 26 21 [0, 4, 0]).1)).bind (fun h7 =>
    cV (E 400 [aR (nob h7 27 21 [0, 4, 0]).1] (nob h7 27 21 [0, 4, 0]).2) (fun h8 =>
    (pf h8 o 11 3 (aR (nob h7 27 21 [0, 4, 0]).1)).bind (fun h9 =>
    cV (E 400 [aR (nob h9 28 21 [0, 4, 0]).1] (nob h9 28 21 [0, 4, 0]).2) (fun h10 =>
    (pf h10 o 11 4 (aR (nob h9 28 21 [0, 4, 0]).1)).bind (fun h11 =>
    cV (E 400 [aR (nob h11 29 21 [0, 4, 0]).1] (nob h11 29 21 [0, 4, 0]).2) (fun h12 =>
    (pf h12 o 11 5 (aR (nob h11 29 21 [0, 4, 0]).1)).bind (fun h13 =>
    (gfR (nob h13 30 3 [4, 4, 4, 0, 0]).2 o 11 4).bind (fun x14 =>
    (gfR (nob h13 30 3 [4, 4, 4, 0, 0]).2 o 11 1).bind (fun x15 =>
    cV (E 13 [aR (nob h13 30 3 [4, 4, 4, 0, 0]).1, aR x14, aR x15] (nob h13 30 3 [4, 4, 4, 0, 0]).2) (fun h16 =>
    (pf h16 o 11 6 (aR (nob h13 30 3 [4, 4, 4, 0, 0]).1)).bind (fun h17 =>
    cV (E 63 [aR (nob h17 31 9 [4, 0, 0]).1] (nob h17 31 9 [4, 0, 0]).2) (fun h18 =>
    (pf h18 o 11 7 (aR (nob h17 31 9 [4, 0, 0]).1)).bind (fun h19 =>
    (pf h19 o 11 8 (aI (100 : Int32))).bind (fun h20 =>
    (pf h20 o 11 9 (aL (0 : Int64))).bind (fun h21 =>
    (pf h21 o 11 10 (aL (0 : Int64))).bind (fun h22 =>
    (pf h22 o 11 11 (aI (0 : Int32))).bind (fun h23 =>
    some (.inl none, h23))))))) xT)) xT)))) xT)) xT)) xT)) xT)) xT)) xT) xT) rfl rfl rfl (fun R E => rfl)
-- Chipcardhouse.type(J)I
set_option maxRecDepth 100000 in
theorem lf_77_0 (o : Option (Nat × Nat)) (p0 : Int64) (h : Hp) : Ru 77 0 [(0, aR o), (1, aL p0)] [] h =
    Ru 77 6 [(0, aR o), (1, aL p0), (3, aI (0 : Int32)), (4, aI (56 : Int32))] [] h :=
  lift_of (k := 5) (rows := code_77) (cuts := cut_77) (hs := hdl_77) (r := fun R E =>
    R 6 [(0, aR o), (1, aL p0), (3, aI (0 : Int32)), (4, aI (56 : Int32))] [] h) rfl rfl rfl (fun R E => rfl)
set_option maxRecDepth 100000 in
theorem lf_77_6 (o : Option (Nat × Nat)) (v1 : Int64) (v3 : Int32) (v4 : Int32) (h : Hp) : Ru 77 6 [(0, aR o), (1, aL v1), (3, aI v3), (4, aI v4)] [] h =
    if v4 < 0 then
      (gfR h o 11 0).bind (fun x1 =>
      (gfR h x1 8 0).bind (fun x2 =>
      cI (Ex 412 [aR x2] h) (fun x4 h3 =>
      if (x4 + v3) ≤ (600 : Int32) then
        Ru 77 96 [(0, aR o), (1, aL v1), (4, aI (56 : Int32))] [] h3
      else
        some (.inr 31, (hC h3 1 6))) xT))
    else
      if ((v1.toUInt64 >>> (v4.toInt64.toUInt64 &&& Int64.toUInt64 63)).toInt64 &&& (255 : Int64)).toInt32 = 0 then
        if ((v1.toUInt64 >>> (v4.toInt64.toUInt64 &&& Int64.toUInt64 63)).toInt64 &&& (255 : Int64)).toInt32 = 0 then
          Ru 77 6 [(0, aR o), (1, aL v1), (3, aI (v3 + (0 : Int32))), (4, aI (v4 + (-8 : Int32)))] [] h
        else
          Ru 77 6 [(0, aR o), (1, aL v1), (3, aI (v3 + (1 : Int32))), (4, aI (v4 + (-8 : Int32)))] [] h
      else
        cI (Ex 139 [aI ((v1.toUInt64 >>> (v4.toInt64.toUInt64 &&& Int64.toUInt64 63)).toInt64 &&& (255 : Int64)).toInt32, aI (32 : Int32), aI (126 : Int32)] h) (fun x6 h5 =>
        if x6 = 0 then
          some (.inr 30, (hC h5 1 6))
        else
          if ((v1.toUInt64 >>> (v4.toInt64.toUInt64 &&& Int64.toUInt64 63)).toInt64 &&& (255 : Int64)).toInt32 = 0 then
            Ru 77 6 [(0, aR o), (1, aL v1), (3, aI (v3 + (0 : Int32))), (4, aI (v4 + (-8 : Int32)))] [] h5
          else
            Ru 77 6 [(0, aR o), (1, aL v1), (3, aI (v3 + (1 : Int32))), (4, aI (v4 + (-8 : Int32)))] [] h5) xT :=
  lift_of (k := 26) (rows := code_77) (cuts := cut_77) (hs := hdl_77) (r := fun R E =>
    if v4 < 0 then
      (gfR h o 11 0).bind (fun x1 =>
      (gfR h x1 8 0).bind (fun x2 =>
      cI (E 412 [aR x2] h) (fun x4 h3 =>
      if (x4 + v3) ≤ (600 : Int32) then
        R 96 [(0, aR o), (1, aL v1), (4, aI (56 : Int32))] [] h3
      else
        some (.inr 31, (hC h3 1 6))) xT))
    else
      if ((v1.toUInt64 >>> (v4.toInt64.toUInt64 &&& Int64.toUInt64 63)).toInt64 &&& (255 : Int64)).toInt32 = 0 then
        if ((v1.toUInt64 >>> (v4.toInt64.toUInt64 &&& Int64.toUInt64 63)).toInt64 &&& (255 : Int64)).toInt32 = 0 then
          R 6 [(0, aR o), (1, aL v1), (3, aI (v3 + (0 : Int32))), (4, aI (v4 + (-8 : Int32)))] [] h
        else
          R 6 [(0, aR o), (1, aL v1), (3, aI (v3 + (1 : Int32))), (4, aI (v4 + (-8 : Int32)))] [] h
      else
        cI (E 139 [aI ((v1.toUInt64 >>> (v4.toInt64.toUInt64 &&& Int64.toUInt64 63)).toInt64 &&& (255 : Int64)).toInt32, aI (32 : Int32), aI (126 : Int32)] h) (fun x6 h5 =>
        if x6 = 0 then
          some (.inr 30, (hC h5 1 6))
        else
          if ((v1.toUInt64 >>> (v4.toInt64.toUInt64 &&& Int64.toUInt64 63)).toInt64 &&& (255 : Int64)).toInt32 = 0 then
            R 6 [(0, aR o), (1, aL v1), (3, aI (v3 + (0 : Int32))), (4, aI (v4 + (-8 : Int32)))] [] h5
          else
            R 6 [(0, aR o), (1, aL v1), (3, aI (v3 + (1 : Int32))), (4, aI (v4 + (-8 : Int32)))] [] h5) xT) rfl rfl rfl (fun R E => rfl)
set_option maxRecDepth 100000 in
theorem lf_77_96 (o : Option (Nat × Nat)) (v1 : Int64) (v4 : Int32) (h : Hp) : Ru 77 96 [(0, aR o), (1, aL v1), (4, aI v4)] [] h =
    if v4 < 0 then
      (gfR h o 11 0).bind (fun x1 =>
      (gfR h x1 8 0).bind (fun x2 =>
      cI (Ex 412 [aR x2] h) (fun x4 h3 =>
      some (.inl (some (aI x4)), h3)) xT))
    else
      if ((v1.toUInt64 >>> (v4.toInt64.toUInt64 &&& Int64.toUInt64 63)).toInt64 &&& (255 : Int64)).toInt32 = 0 then
        Ru 77 96 [(0, aR o), (1, aL v1), (4, aI (v4 + (-8 : Int32)))] [] h
      else
        (gfR h o 11 0).bind (fun x5 =>
        (gfR h x5 8 0).bind (fun x6 =>
        cR (Ex 411 [aR x6, aI (((v1.toUInt64 >>> (v4.toInt64.toUInt64 &&& Int64.toUInt64 63)).toInt64 &&& (255 : Int64)).toInt32.toUInt32 % 65536).toInt32] h) (fun x8 h7 =>
        Ru 77 96 [(0, aR o), (1, aL v1), (4, aI (v4 + (-8 : Int32)))] [] h7) xT)) :=
  lift_of (k := 21) (rows := code_77) (cuts := cut_77) (hs := hdl_77) (r := fun R E =>
    if v4 < 0 then
      (gfR h o 11 0).bind (fun x1 =>
      (gfR h x1 8 0).bind (fun x2 =>
      cI (E 412 [aR x2] h) (fun x4 h3 =>
      some (.inl (some (aI x4)), h3)) xT))
    else
      if ((v1.toUInt64 >>> (v4.toInt64.toUInt64 &&& Int64.toUInt64 63)).toInt64 &&& (255 : Int64)).toInt32 = 0 then
        R 96 [(0, aR o), (1, aL v1), (4, aI (v4 + (-8 : Int32)))] [] h
      else
        (gfR h o 11 0).bind (fun x5 =>
        (gfR h x5 8 0).bind (fun x6 =>
        cR (E 411 [aR x6, aI (((v1.toUInt64 >>> (v4.toInt64.toUInt64 &&& Int64.toUInt64 63)).toInt64 &&& (255 : Int64)).toInt32.toUInt32 % 65536).toInt32] h) (fun x8 h7 =>
        R 96 [(0, aR o), (1, aL v1), (4, aI (v4 + (-8 : Int32)))] [] h7) xT))) rfl rfl rfl (fun R E => rfl)
-- Chipcardhouse.fault()I
set_option maxRecDepth 100000 in
theorem lf_78_0 (o : Option (Nat × Nat)) (h : Hp) : Ru 78 0 [(0, aR o)] [] h =
    (gfR h o 11 0).bind (fun x1 =>
    cI (Ex 52 [aR x1] h) (fun x3 h2 =>
    some (.inl (some (aI x3)), h2)) xT) :=
  lift_of (k := 5) (rows := code_78) (cuts := cut_78) (hs := hdl_78) (r := fun R E =>
    (gfR h o 11 0).bind (fun x1 =>
    cI (E 52 [aR x1] h) (fun x3 h2 =>
    some (.inl (some (aI x3)), h2)) xT)) rfl rfl rfl (fun R E => rfl)
-- Chipcardhouse.play()I
set_option maxRecDepth 100000 in
theorem lf_79_0 (o : Option (Nat × Nat)) (h : Hp) : Ru 79 0 [(0, aR o)] [] h =
    (gfR h o 11 0).bind (fun x1 =>
    cI (Ex 52 [aR x1] h) (fun x3 h2 =>
    if x3 = (-1 : Int32) then
      (gfR h2 o 11 0).bind (fun x4 =>
      (pf h2 x4 8 1 (aI (0 : Int32))).bind (fun h5 =>
      Ru 79 42 [(0, aR o), (1, aI (0 : Int32)), (2, aI (0 : Int32))] [] h5))
    else
      (gfR h2 o 11 0).bind (fun x6 =>
      (gfR h2 x6 8 0).bind (fun x7 =>
      cV (Ex 414 [aR x7, aI (0 : Int32)] h2) (fun h8 =>
      some (.inr 30, (hC h8 1 6))) xT))) xT) :=
  lift_of (k := 14) (rows := code_79) (cuts := cut_79) (hs := hdl_79) (r := fun R E =>
    (gfR h o 11 0).bind (fun x1 =>
    cI (E 52 [aR x1] h) (fun x3 h2 =>
    if x3 = (-1 : Int32) then
      (gfR h2 o 11 0).bind (fun x4 =>
      (pf h2 x4 8 1 (aI (0 : Int32))).bind (fun h5 =>
      R 42 [(0, aR o), (1, aI (0 : Int32)), (2, aI (0 : Int32))] [] h5))
    else
      (gfR h2 o 11 0).bind (fun x6 =>
      (gfR h2 x6 8 0).bind (fun x7 =>
      cV (E 414 [aR x7, aI (0 : Int32)] h2) (fun h8 =>
      some (.inr 30, (hC h8 1 6))) xT))) xT)) rfl rfl rfl (fun R E => rfl)
set_option maxRecDepth 100000 in
theorem lf_79_42 (o : Option (Nat × Nat)) (v1 : Int32) (v2 : Int32) (h : Hp) : Ru 79 42 [(0, aR o), (1, aI v1), (2, aI v2)] [] h =
    if (600 : Int32) < v2 then
      (gfR h o 11 0).bind (fun x1 =>
      (gfR h x1 8 0).bind (fun x2 =>
      cV (Ex 414 [aR x2, aI (0 : Int32)] h) (fun h3 =>
      some (.inl (some (aI v1)), h3)) xT))
    else
      (gfR h o 11 0).bind (fun x4 =>
      cI (Ex 53 [aR x4] h) (fun x6 h5 =>
      if x6 = 0 then
        (gfR h5 o 11 0).bind (fun x7 =>
        cI (Ex 54 [aR x7] h5) (fun x9 h8 =>
        (gfR h8 o 11 0).bind (fun x10 =>
        (gfI h8 x10 8 2).bind (fun x11 =>
        (gfR h8 o 11 0).bind (fun x12 =>
        (gfR h8 x12 8 3).bind (fun x13 =>
        cI (Ex 80 [aR o, aI x11, aR x13] h8) (fun x15 h14 =>
        if x15 = 0 then
          (gfR h14 o 11 0).bind (fun x16 =>
          (gfI h14 x16 8 2).bind (fun x17 =>
          (gfR h14 o 11 0).bind (fun x18 =>
          (gfR h14 x18 8 3).bind (fun x19 =>
          cV (Ex 81 [aR o, aI x17, aR x19] h14) (fun h20 =>
          Ru 79 42 [(0, aR o), (1, aI (v1 + (1 : Int32))), (2, aI (v2 + (1 : Int32)))] [] h20) xT))))
        else
          Ru 79 42 [(0, aR o), (1, aI v1), (2, aI (v2 + (1 : Int32)))] [] h14) xT))))) xT)
      else
        (gfR h5 o 11 0).bind (fun x21 =>
        (gfR h5 x21 8 0).bind (fun x22 =>
        cV (Ex 414 [aR x22, aI (0 : Int32)] h5) (fun h23 =>
        some (.inl (some (aI v1)), h23)) xT))) xT) :=
  lift_of (k := 32) (rows := code_79) (cuts := cut_79) (hs := hdl_79) (r := fun R E =>
    if (600 : Int32) < v2 then
      (gfR h o 11 0).bind (fun x1 =>
      (gfR h x1 8 0).bind (fun x2 =>
      cV (E 414 [aR x2, aI (0 : Int32)] h) (fun h3 =>
      some (.inl (some (aI v1)), h3)) xT))
    else
      (gfR h o 11 0).bind (fun x4 =>
      cI (E 53 [aR x4] h) (fun x6 h5 =>
      if x6 = 0 then
        (gfR h5 o 11 0).bind (fun x7 =>
        cI (E 54 [aR x7] h5) (fun x9 h8 =>
        (gfR h8 o 11 0).bind (fun x10 =>
        (gfI h8 x10 8 2).bind (fun x11 =>
        (gfR h8 o 11 0).bind (fun x12 =>
        (gfR h8 x12 8 3).bind (fun x13 =>
        cI (E 80 [aR o, aI x11, aR x13] h8) (fun x15 h14 =>
        if x15 = 0 then
          (gfR h14 o 11 0).bind (fun x16 =>
          (gfI h14 x16 8 2).bind (fun x17 =>
          (gfR h14 o 11 0).bind (fun x18 =>
          (gfR h14 x18 8 3).bind (fun x19 =>
          cV (E 81 [aR o, aI x17, aR x19] h14) (fun h20 =>
          R 42 [(0, aR o), (1, aI (v1 + (1 : Int32))), (2, aI (v2 + (1 : Int32)))] [] h20) xT))))
        else
          R 42 [(0, aR o), (1, aI v1), (2, aI (v2 + (1 : Int32)))] [] h14) xT))))) xT)
      else
        (gfR h5 o 11 0).bind (fun x21 =>
        (gfR h5 x21 8 0).bind (fun x22 =>
        cV (E 414 [aR x22, aI (0 : Int32)] h5) (fun h23 =>
        some (.inl (some (aI v1)), h23)) xT))) xT)) rfl rfl rfl (fun R E => rfl)
-- Chipcardhouse.refusalOfCommand(I[I)I
set_option maxRecDepth 100000 in
theorem lf_80_0 (o : Option (Nat × Nat)) (p0 : Int32) (p1 : Option (Nat × Nat)) (h : Hp) : Ru 80 0 [(0, aR o), (1, aI p0), (2, aR p1)] [] h =
    if p0.toInt = 0 then
      (gaI h p1 1000 (0 : Int32)).bind (fun x1 =>
      cI (Ex 83 [aR o, aI x1] h) (fun x3 h2 =>
      some (.inl (some (aI x3)), h2)) xT)
    else if p0.toInt = 1 then
      (gaI h p1 1000 (0 : Int32)).bind (fun x4 =>
      (gaI h p1 1000 (1 : Int32)).bind (fun x5 =>
      cI (Ex 86 [aR o, aI x4, aI x5] h) (fun x7 h6 =>
      some (.inl (some (aI x7)), h6)) xT))
    else if p0.toInt = 2 then
      (gaI h p1 1000 (0 : Int32)).bind (fun x8 =>
      (gaI h p1 1000 (1 : Int32)).bind (fun x9 =>
      (gaI h p1 1000 (2 : Int32)).bind (fun x10 =>
      (gaI h p1 1000 (3 : Int32)).bind (fun x11 =>
      cI (Ex 89 [aR o, aI x8, aI x9, aI x10, aI x11] h) (fun x13 h12 =>
      some (.inl (some (aI x13)), h12)) xT))))
    else if p0.toInt = 3 then
      (gaI h p1 1000 (0 : Int32)).bind (fun x14 =>
      (gaI h p1 1000 (1 : Int32)).bind (fun x15 =>
      (gaI h p1 1000 (2 : Int32)).bind (fun x16 =>
      (gaI h p1 1000 (3 : Int32)).bind (fun x17 =>
      cI (Ex 95 [aR o, aI x14, aI x15, aI x16, aI x17] h) (fun x19 h18 =>
      some (.inl (some (aI x19)), h18)) xT))))
    else if p0.toInt = 4 then
      (gaI h p1 1000 (0 : Int32)).bind (fun x20 =>
      (gfR h o 11 3).bind (fun x21 =>
      cI (Ex 405 [aR x21] h) (fun x23 h22 =>
      cI (Ex 140 [aI x20, aI x23] h22) (fun x25 h24 =>
      some (.inl (some (aI x25)), h24)) xT) xT))
    else if p0.toInt = 5 then
      (gaI h p1 1000 (0 : Int32)).bind (fun x26 =>
      (gaI h p1 1000 (1 : Int32)).bind (fun x27 =>
      (gaI h p1 1000 (2 : Int32)).bind (fun x28 =>
      cI (Ex 100 [aR o, aI x26, aI x27, aI x28] h) (fun x30 h29 =>
      some (.inl (some (aI x30)), h29)) xT)))
    else if p0.toInt = 6 then
      (gaI h p1 1000 (0 : Int32)).bind (fun x31 =>
      cI (Ex 105 [aR o, aI x31] h) (fun x33 h32 =>
      some (.inl (some (aI x33)), h32)) xT)
    else if p0.toInt = 7 then
      (gaI h p1 1000 (0 : Int32)).bind (fun x34 =>
      (gaI h p1 1000 (1 : Int32)).bind (fun x35 =>
      (gaI h p1 1000 (2 : Int32)).bind (fun x36 =>
      (gaI h p1 1000 (3 : Int32)).bind (fun x37 =>
      cI (Ex 109 [aR o, aI x34, aI x35, aI x36, aI x37] h) (fun x39 h38 =>
      some (.inl (some (aI x39)), h38)) xT))))
    else if p0.toInt = 8 then
      some (.inl (some (aI (0 : Int32))), h)
    else if p0.toInt = 9 then
      some (.inl (some (aI (0 : Int32))), h)
    else if p0.toInt = 10 then
      (gaI h p1 1000 (0 : Int32)).bind (fun x40 =>
      (gaI h p1 1000 (1 : Int32)).bind (fun x41 =>
      (gaI h p1 1000 (2 : Int32)).bind (fun x42 =>
      cI (Ex 92 [aR o, aI x40, aI x41, aI x42] h) (fun x44 h43 =>
      some (.inl (some (aI x44)), h43)) xT)))
    else if p0.toInt = 11 then
      (gaI h p1 1000 (0 : Int32)).bind (fun x45 =>
      (gaI h p1 1000 (1 : Int32)).bind (fun x46 =>
      cI (Ex 114 [aR o, aI x45, aI x46] h) (fun x48 h47 =>
      some (.inl (some (aI x48)), h47)) xT))
    else if p0.toInt = 12 then
      (gaI h p1 1000 (0 : Int32)).bind (fun x49 =>
      (gfR h o 11 4).bind (fun x50 =>
      cI (Ex 405 [aR x50] h) (fun x52 h51 =>
      cI (Ex 140 [aI x49, aI x52] h51) (fun x54 h53 =>
      some (.inl (some (aI x54)), h53)) xT) xT))
    else if p0.toInt = 13 then
      (gaI h p1 1000 (0 : Int32)).bind (fun x55 =>
      (gfR h o 11 2).bind (fun x56 =>
      cI (Ex 405 [aR x56] h) (fun x58 h57 =>
      cI (Ex 140 [aI x55, aI x58] h57) (fun x60 h59 =>
      some (.inl (some (aI x60)), h59)) xT) xT))
    else if p0.toInt = 14 then
      some (.inl (some (aI (0 : Int32))), h)
    else if p0.toInt = 15 then
      (gaI h p1 1000 (0 : Int32)).bind (fun x61 =>
      cI (Ex 121 [aR o, aI x61] h) (fun x63 h62 =>
      some (.inl (some (aI x63)), h62)) xT)
    else some (.inl (some (aI (0 : Int32))), h) :=
  lift_of (k := 18) (rows := code_80) (cuts := cut_80) (hs := hdl_80) (r := fun R E =>
    if p0.toInt = 0 then
      (gaI h p1 1000 (0 : Int32)).bind (fun x1 =>
      cI (E 83 [aR o, aI x1] h) (fun x3 h2 =>
      some (.inl (some (aI x3)), h2)) xT)
    else if p0.toInt = 1 then
      (gaI h p1 1000 (0 : Int32)).bind (fun x4 =>
      (gaI h p1 1000 (1 : Int32)).bind (fun x5 =>
      cI (E 86 [aR o, aI x4, aI x5] h) (fun x7 h6 =>
      some (.inl (some (aI x7)), h6)) xT))
    else if p0.toInt = 2 then
      (gaI h p1 1000 (0 : Int32)).bind (fun x8 =>
      (gaI h p1 1000 (1 : Int32)).bind (fun x9 =>
      (gaI h p1 1000 (2 : Int32)).bind (fun x10 =>
      (gaI h p1 1000 (3 : Int32)).bind (fun x11 =>
      cI (E 89 [aR o, aI x8, aI x9, aI x10, aI x11] h) (fun x13 h12 =>
      some (.inl (some (aI x13)), h12)) xT))))
    else if p0.toInt = 3 then
      (gaI h p1 1000 (0 : Int32)).bind (fun x14 =>
      (gaI h p1 1000 (1 : Int32)).bind (fun x15 =>
      (gaI h p1 1000 (2 : Int32)).bind (fun x16 =>
      (gaI h p1 1000 (3 : Int32)).bind (fun x17 =>
      cI (E 95 [aR o, aI x14, aI x15, aI x16, aI x17] h) (fun x19 h18 =>
      some (.inl (some (aI x19)), h18)) xT))))
    else if p0.toInt = 4 then
      (gaI h p1 1000 (0 : Int32)).bind (fun x20 =>
      (gfR h o 11 3).bind (fun x21 =>
      cI (E 405 [aR x21] h) (fun x23 h22 =>
      cI (E 140 [aI x20, aI x23] h22) (fun x25 h24 =>
      some (.inl (some (aI x25)), h24)) xT) xT))
    else if p0.toInt = 5 then
      (gaI h p1 1000 (0 : Int32)).bind (fun x26 =>
      (gaI h p1 1000 (1 : Int32)).bind (fun x27 =>
      (gaI h p1 1000 (2 : Int32)).bind (fun x28 =>
      cI (E 100 [aR o, aI x26, aI x27, aI x28] h) (fun x30 h29 =>
      some (.inl (some (aI x30)), h29)) xT)))
    else if p0.toInt = 6 then
      (gaI h p1 1000 (0 : Int32)).bind (fun x31 =>
      cI (E 105 [aR o, aI x31] h) (fun x33 h32 =>
      some (.inl (some (aI x33)), h32)) xT)
    else if p0.toInt = 7 then
      (gaI h p1 1000 (0 : Int32)).bind (fun x34 =>
      (gaI h p1 1000 (1 : Int32)).bind (fun x35 =>
      (gaI h p1 1000 (2 : Int32)).bind (fun x36 =>
      (gaI h p1 1000 (3 : Int32)).bind (fun x37 =>
      cI (E 109 [aR o, aI x34, aI x35, aI x36, aI x37] h) (fun x39 h38 =>
      some (.inl (some (aI x39)), h38)) xT))))
    else if p0.toInt = 8 then
      some (.inl (some (aI (0 : Int32))), h)
    else if p0.toInt = 9 then
      some (.inl (some (aI (0 : Int32))), h)
    else if p0.toInt = 10 then
      (gaI h p1 1000 (0 : Int32)).bind (fun x40 =>
      (gaI h p1 1000 (1 : Int32)).bind (fun x41 =>
      (gaI h p1 1000 (2 : Int32)).bind (fun x42 =>
      cI (E 92 [aR o, aI x40, aI x41, aI x42] h) (fun x44 h43 =>
      some (.inl (some (aI x44)), h43)) xT)))
    else if p0.toInt = 11 then
      (gaI h p1 1000 (0 : Int32)).bind (fun x45 =>
      (gaI h p1 1000 (1 : Int32)).bind (fun x46 =>
      cI (E 114 [aR o, aI x45, aI x46] h) (fun x48 h47 =>
      some (.inl (some (aI x48)), h47)) xT))
    else if p0.toInt = 12 then
      (gaI h p1 1000 (0 : Int32)).bind (fun x49 =>
      (gfR h o 11 4).bind (fun x50 =>
      cI (E 405 [aR x50] h) (fun x52 h51 =>
      cI (E 140 [aI x49, aI x52] h51) (fun x54 h53 =>
      some (.inl (some (aI x54)), h53)) xT) xT))
    else if p0.toInt = 13 then
      (gaI h p1 1000 (0 : Int32)).bind (fun x55 =>
      (gfR h o 11 2).bind (fun x56 =>
      cI (E 405 [aR x56] h) (fun x58 h57 =>
      cI (E 140 [aI x55, aI x58] h57) (fun x60 h59 =>
      some (.inl (some (aI x60)), h59)) xT) xT))
    else if p0.toInt = 14 then
      some (.inl (some (aI (0 : Int32))), h)
    else if p0.toInt = 15 then
      (gaI h p1 1000 (0 : Int32)).bind (fun x61 =>
      cI (E 121 [aR o, aI x61] h) (fun x63 h62 =>
      some (.inl (some (aI x63)), h62)) xT)
    else some (.inl (some (aI (0 : Int32))), h)) rfl rfl rfl (fun R E => rfl)
-- Chipcardhouse.carryOut(I[I)V
set_option maxRecDepth 100000 in
theorem lf_81_0 (o : Option (Nat × Nat)) (p0 : Int32) (p1 : Option (Nat × Nat)) (h : Hp) : Ru 81 0 [(0, aR o), (1, aI p0), (2, aR p1)] [] h =
    if p0.toInt = 0 then
      (gaI h p1 1000 (0 : Int32)).bind (fun x1 =>
      cI (Ex 84 [aR o, aI x1] h) (fun x3 h2 =>
      some (.inl none, h2)) xT)
    else if p0.toInt = 1 then
      (gaI h p1 1000 (0 : Int32)).bind (fun x4 =>
      (gaI h p1 1000 (1 : Int32)).bind (fun x5 =>
      cI (Ex 87 [aR o, aI x4, aI x5] h) (fun x7 h6 =>
      some (.inl none, h6)) xT))
    else if p0.toInt = 2 then
      (gaI h p1 1000 (0 : Int32)).bind (fun x8 =>
      (gaI h p1 1000 (1 : Int32)).bind (fun x9 =>
      (gaI h p1 1000 (2 : Int32)).bind (fun x10 =>
      (gaI h p1 1000 (3 : Int32)).bind (fun x11 =>
      cI (Ex 90 [aR o, aI x8, aI x9, aI x10, aI x11] h) (fun x13 h12 =>
      some (.inl none, h12)) xT))))
    else if p0.toInt = 3 then
      (gaI h p1 1000 (0 : Int32)).bind (fun x14 =>
      (gaI h p1 1000 (1 : Int32)).bind (fun x15 =>
      (gaI h p1 1000 (2 : Int32)).bind (fun x16 =>
      (gaI h p1 1000 (3 : Int32)).bind (fun x17 =>
      cI (Ex 96 [aR o, aI x14, aI x15, aI x16, aI x17] h) (fun x19 h18 =>
      some (.inl none, h18)) xT))))
    else if p0.toInt = 4 then
      (gaI h p1 1000 (0 : Int32)).bind (fun x20 =>
      cI (Ex 98 [aR o, aI x20] h) (fun x22 h21 =>
      some (.inl none, h21)) xT)
    else if p0.toInt = 5 then
      (gaI h p1 1000 (0 : Int32)).bind (fun x23 =>
      (gaI h p1 1000 (1 : Int32)).bind (fun x24 =>
      (gaI h p1 1000 (2 : Int32)).bind (fun x25 =>
      cI (Ex 101 [aR o, aI x23, aI x24, aI x25] h) (fun x27 h26 =>
      some (.inl none, h26)) xT)))
    else if p0.toInt = 6 then
      (gaI h p1 1000 (0 : Int32)).bind (fun x28 =>
      cI (Ex 106 [aR o, aI x28] h) (fun x30 h29 =>
      some (.inl none, h29)) xT)
    else if p0.toInt = 7 then
      (gaI h p1 1000 (0 : Int32)).bind (fun x31 =>
      (gaI h p1 1000 (1 : Int32)).bind (fun x32 =>
      (gaI h p1 1000 (2 : Int32)).bind (fun x33 =>
      (gaI h p1 1000 (3 : Int32)).bind (fun x34 =>
      cI (Ex 110 [aR o, aI x31, aI x32, aI x33, aI x34] h) (fun x36 h35 =>
      some (.inl none, h35)) xT))))
    else if p0.toInt = 8 then
      cI (Ex 112 [aR o, aI (1 : Int32)] h) (fun x38 h37 =>
      some (.inl none, h37)) xT
    else if p0.toInt = 9 then
      cI (Ex 112 [aR o, aI (0 : Int32)] h) (fun x40 h39 =>
      some (.inl none, h39)) xT
    else if p0.toInt = 10 then
      (gaI h p1 1000 (0 : Int32)).bind (fun x41 =>
      (gaI h p1 1000 (1 : Int32)).bind (fun x42 =>
      (gaI h p1 1000 (2 : Int32)).bind (fun x43 =>
      cI (Ex 93 [aR o, aI x41, aI x42, aI x43] h) (fun x45 h44 =>
      some (.inl none, h44)) xT)))
    else if p0.toInt = 11 then
      (gaI h p1 1000 (0 : Int32)).bind (fun x46 =>
      (gaI h p1 1000 (1 : Int32)).bind (fun x47 =>
      cI (Ex 115 [aR o, aI x46, aI x47] h) (fun x49 h48 =>
      some (.inl none, h48)) xT))
    else if p0.toInt = 12 then
      (gaI h p1 1000 (0 : Int32)).bind (fun x50 =>
      cI (Ex 117 [aR o, aI x50] h) (fun x52 h51 =>
      some (.inl none, h51)) xT)
    else if p0.toInt = 13 then
      (gaI h p1 1000 (0 : Int32)).bind (fun x53 =>
      cI (Ex 119 [aR o, aI x53, aI (1 : Int32)] h) (fun x55 h54 =>
      some (.inl none, h54)) xT)
    else if p0.toInt = 14 then
      cI (Ex 124 [aR o] h) (fun x57 h56 =>
      some (.inl none, h56)) xT
    else if p0.toInt = 15 then
      (gaI h p1 1000 (0 : Int32)).bind (fun x58 =>
      cI (Ex 122 [aR o, aI x58] h) (fun x60 h59 =>
      some (.inl none, h59)) xT)
    else some (.inl none, h) :=
  lift_of (k := 20) (rows := code_81) (cuts := cut_81) (hs := hdl_81) (r := fun R E =>
    if p0.toInt = 0 then
      (gaI h p1 1000 (0 : Int32)).bind (fun x1 =>
      cI (E 84 [aR o, aI x1] h) (fun x3 h2 =>
      some (.inl none, h2)) xT)
    else if p0.toInt = 1 then
      (gaI h p1 1000 (0 : Int32)).bind (fun x4 =>
      (gaI h p1 1000 (1 : Int32)).bind (fun x5 =>
      cI (E 87 [aR o, aI x4, aI x5] h) (fun x7 h6 =>
      some (.inl none, h6)) xT))
    else if p0.toInt = 2 then
      (gaI h p1 1000 (0 : Int32)).bind (fun x8 =>
      (gaI h p1 1000 (1 : Int32)).bind (fun x9 =>
      (gaI h p1 1000 (2 : Int32)).bind (fun x10 =>
      (gaI h p1 1000 (3 : Int32)).bind (fun x11 =>
      cI (E 90 [aR o, aI x8, aI x9, aI x10, aI x11] h) (fun x13 h12 =>
      some (.inl none, h12)) xT))))
    else if p0.toInt = 3 then
      (gaI h p1 1000 (0 : Int32)).bind (fun x14 =>
      (gaI h p1 1000 (1 : Int32)).bind (fun x15 =>
      (gaI h p1 1000 (2 : Int32)).bind (fun x16 =>
      (gaI h p1 1000 (3 : Int32)).bind (fun x17 =>
      cI (E 96 [aR o, aI x14, aI x15, aI x16, aI x17] h) (fun x19 h18 =>
      some (.inl none, h18)) xT))))
    else if p0.toInt = 4 then
      (gaI h p1 1000 (0 : Int32)).bind (fun x20 =>
      cI (E 98 [aR o, aI x20] h) (fun x22 h21 =>
      some (.inl none, h21)) xT)
    else if p0.toInt = 5 then
      (gaI h p1 1000 (0 : Int32)).bind (fun x23 =>
      (gaI h p1 1000 (1 : Int32)).bind (fun x24 =>
      (gaI h p1 1000 (2 : Int32)).bind (fun x25 =>
      cI (E 101 [aR o, aI x23, aI x24, aI x25] h) (fun x27 h26 =>
      some (.inl none, h26)) xT)))
    else if p0.toInt = 6 then
      (gaI h p1 1000 (0 : Int32)).bind (fun x28 =>
      cI (E 106 [aR o, aI x28] h) (fun x30 h29 =>
      some (.inl none, h29)) xT)
    else if p0.toInt = 7 then
      (gaI h p1 1000 (0 : Int32)).bind (fun x31 =>
      (gaI h p1 1000 (1 : Int32)).bind (fun x32 =>
      (gaI h p1 1000 (2 : Int32)).bind (fun x33 =>
      (gaI h p1 1000 (3 : Int32)).bind (fun x34 =>
      cI (E 110 [aR o, aI x31, aI x32, aI x33, aI x34] h) (fun x36 h35 =>
      some (.inl none, h35)) xT))))
    else if p0.toInt = 8 then
      cI (E 112 [aR o, aI (1 : Int32)] h) (fun x38 h37 =>
      some (.inl none, h37)) xT
    else if p0.toInt = 9 then
      cI (E 112 [aR o, aI (0 : Int32)] h) (fun x40 h39 =>
      some (.inl none, h39)) xT
    else if p0.toInt = 10 then
      (gaI h p1 1000 (0 : Int32)).bind (fun x41 =>
      (gaI h p1 1000 (1 : Int32)).bind (fun x42 =>
      (gaI h p1 1000 (2 : Int32)).bind (fun x43 =>
      cI (E 93 [aR o, aI x41, aI x42, aI x43] h) (fun x45 h44 =>
      some (.inl none, h44)) xT)))
    else if p0.toInt = 11 then
      (gaI h p1 1000 (0 : Int32)).bind (fun x46 =>
      (gaI h p1 1000 (1 : Int32)).bind (fun x47 =>
      cI (E 115 [aR o, aI x46, aI x47] h) (fun x49 h48 =>
      some (.inl none, h48)) xT))
    else if p0.toInt = 12 then
      (gaI h p1 1000 (0 : Int32)).bind (fun x50 =>
      cI (E 117 [aR o, aI x50] h) (fun x52 h51 =>
      some (.inl none, h51)) xT)
    else if p0.toInt = 13 then
      (gaI h p1 1000 (0 : Int32)).bind (fun x53 =>
      cI (E 119 [aR o, aI x53, aI (1 : Int32)] h) (fun x55 h54 =>
      some (.inl none, h54)) xT)
    else if p0.toInt = 14 then
      cI (E 124 [aR o] h) (fun x57 h56 =>
      some (.inl none, h56)) xT
    else if p0.toInt = 15 then
      (gaI h p1 1000 (0 : Int32)).bind (fun x58 =>
      cI (E 122 [aR o, aI x58] h) (fun x60 h59 =>
      some (.inl none, h59)) xT)
    else some (.inl none, h)) rfl rfl rfl (fun R E => rfl)
-- Chipcardhouse.account(I)I
set_option maxRecDepth 100000 in
theorem lf_82_0 (o : Option (Nat × Nat)) (p0 : Int32) (h : Hp) : Ru 82 0 [(0, aR o), (1, aI p0)] [] h =
    cI (Ex 83 [aR o, aI p0] h) (fun x2 h1 =>
    cV (Ex 142 [aI x2] h1) (fun h3 =>
    cI (Ex 84 [aR o, aI p0] h3) (fun x5 h4 =>
    some (.inl (some (aI x5)), h4)) xT) xT) xT :=
  lift_of (k := 9) (rows := code_82) (cuts := cut_82) (hs := hdl_82) (r := fun R E =>
    cI (E 83 [aR o, aI p0] h) (fun x2 h1 =>
    cV (E 142 [aI x2] h1) (fun h3 =>
    cI (E 84 [aR o, aI p0] h3) (fun x5 h4 =>
    some (.inl (some (aI x5)), h4)) xT) xT) xT) rfl rfl rfl (fun R E => rfl)
-- Chipcardhouse.refusalOfAccount(I)I
set_option maxRecDepth 100000 in
theorem lf_83_0 (o : Option (Nat × Nat)) (p0 : Int32) (h : Hp) : Ru 83 0 [(0, aR o), (1, aI p0)] [] h =
    cI (Ex 139 [aI p0, aI (0 : Int32), aI (9000000 : Int32)] h) (fun x2 h1 =>
    if x2 = 0 then
      some (.inl (some (aI (2 : Int32))), h1)
    else
      (gfR h1 o 11 2).bind (fun x3 =>
      cI (Ex 405 [aR x3] h1) (fun x5 h4 =>
      if x5 < (8 : Int32) then
        some (.inl (some (aI (0 : Int32))), h4)
      else
        some (.inl (some (aI (3 : Int32))), h4)) xT)) xT :=
  lift_of (k := 14) (rows := code_83) (cuts := cut_83) (hs := hdl_83) (r := fun R E =>
    cI (E 139 [aI p0, aI (0 : Int32), aI (9000000 : Int32)] h) (fun x2 h1 =>
    if x2 = 0 then
      some (.inl (some (aI (2 : Int32))), h1)
    else
      (gfR h1 o 11 2).bind (fun x3 =>
      cI (E 405 [aR x3] h1) (fun x5 h4 =>
      if x5 < (8 : Int32) then
        some (.inl (some (aI (0 : Int32))), h4)
      else
        some (.inl (some (aI (3 : Int32))), h4)) xT)) xT) rfl rfl rfl (fun R E => rfl)
-- Chipcardhouse.addAccount(I)I
set_option maxRecDepth 100000 in
theorem lf_84_0 (o : Option (Nat × Nat)) (p0 : Int32) (h : Hp) : Ru 84 0 [(0, aR o), (1, aI p0)] [] h =
    (gfR h o 11 2).bind (fun x1 =>
    cV (Ex 0 [aR (nob h 35 0 [1, 1, 0]).1, aI p0] (nob h 35 0 [1, 1, 0]).2) (fun h2 =>
    cI (Ex 401 [aR x1, aR (nob h 35 0 [1, 1, 0]).1] h2) (fun x4 h3 =>
    (gfL h3 o 11 10).bind (fun x5 =>
    (pf h3 o 11 10 (aL (x5 + p0.toInt64))).bind (fun h6 =>
    (gfR h6 o 11 2).bind (fun x7 =>
    cI (Ex 405 [aR x7] h6) (fun x9 h8 =>
    some (.inl (some (aI (x9 - (1 : Int32)))), h8)) xT)))) xT) xT) :=
  lift_of (k := 22) (rows := code_84) (cuts := cut_84) (hs := hdl_84) (r := fun R E =>
    (gfR h o 11 2).bind (fun x1 =>
    cV (E 0 [aR (nob h 35 0 [1, 1, 0]).1, aI p0] (nob h 35 0 [1, 1, 0]).2) (fun h2 =>
    cI (E 401 [aR x1, aR (nob h 35 0 [1, 1, 0]).1] h2) (fun x4 h3 =>
    (gfL h3 o 11 10).bind (fun x5 =>
    (pf h3 o 11 10 (aL (x5 + p0.toInt64))).bind (fun h6 =>
    (gfR h6 o 11 2).bind (fun x7 =>
    cI (E 405 [aR x7] h6) (fun x9 h8 =>
    some (.inl (some (aI (x9 - (1 : Int32)))), h8)) xT)))) xT) xT)) rfl rfl rfl (fun R E => rfl)
-- Chipcardhouse.shop(II)I
set_option maxRecDepth 100000 in
theorem lf_85_0 (o : Option (Nat × Nat)) (p0 : Int32) (p1 : Int32) (h : Hp) : Ru 85 0 [(0, aR o), (1, aI p0), (2, aI p1)] [] h =
    cI (Ex 86 [aR o, aI p0, aI p1] h) (fun x2 h1 =>
    cV (Ex 142 [aI x2] h1) (fun h3 =>
    cI (Ex 87 [aR o, aI p0, aI p1] h3) (fun x5 h4 =>
    some (.inl (some (aI x5)), h4)) xT) xT) xT :=
  lift_of (k := 11) (rows := code_85) (cuts := cut_85) (hs := hdl_85) (r := fun R E =>
    cI (E 86 [aR o, aI p0, aI p1] h) (fun x2 h1 =>
    cV (E 142 [aI x2] h1) (fun h3 =>
    cI (E 87 [aR o, aI p0, aI p1] h3) (fun x5 h4 =>
    some (.inl (some (aI x5)), h4)) xT) xT) xT) rfl rfl rfl (fun R E => rfl)
-- Chipcardhouse.refusalOfShop(II)I
set_option maxRecDepth 100000 in
theorem lf_86_0 (o : Option (Nat × Nat)) (p0 : Int32) (p1 : Int32) (h : Hp) : Ru 86 0 [(0, aR o), (1, aI p0), (2, aI p1)] [] h =
    cI (Ex 139 [aI p0, aI (0 : Int32), aI (50000 : Int32)] h) (fun x2 h1 =>
    if x2 = 0 then
      some (.inl (some (aI (2 : Int32))), h1)
    else
      cI (Ex 139 [aI p1, aI (0 : Int32), aI (9 : Int32)] h1) (fun x4 h3 =>
      if x4 = 0 then
        some (.inl (some (aI (2 : Int32))), h3)
      else
        (gfR h3 o 11 3).bind (fun x5 =>
        cI (Ex 405 [aR x5] h3) (fun x7 h6 =>
        if x7 < (4 : Int32) then
          some (.inl (some (aI (0 : Int32))), h6)
        else
          some (.inl (some (aI (3 : Int32))), h6)) xT)) xT) xT :=
  lift_of (k := 19) (rows := code_86) (cuts := cut_86) (hs := hdl_86) (r := fun R E =>
    cI (E 139 [aI p0, aI (0 : Int32), aI (50000 : Int32)] h) (fun x2 h1 =>
    if x2 = 0 then
      some (.inl (some (aI (2 : Int32))), h1)
    else
      cI (E 139 [aI p1, aI (0 : Int32), aI (9 : Int32)] h1) (fun x4 h3 =>
      if x4 = 0 then
        some (.inl (some (aI (2 : Int32))), h3)
      else
        (gfR h3 o 11 3).bind (fun x5 =>
        cI (E 405 [aR x5] h3) (fun x7 h6 =>
        if x7 < (4 : Int32) then
          some (.inl (some (aI (0 : Int32))), h6)
        else
          some (.inl (some (aI (3 : Int32))), h6)) xT)) xT) xT) rfl rfl rfl (fun R E => rfl)
-- Chipcardhouse.addShop(II)I
set_option maxRecDepth 100000 in
theorem lf_87_0 (o : Option (Nat × Nat)) (p0 : Int32) (p1 : Int32) (h : Hp) : Ru 87 0 [(0, aR o), (1, aI p0), (2, aI p1)] [] h =
    (gfR h o 11 3).bind (fun x1 =>
    (gfR (nob h 36 10 [0, 0, 0, 4, 4, 4, 4, 4, 4, 0, 0, 1, 1]).2 o 11 3).bind (fun x2 =>
    cI (Ex 405 [aR x2] (nob h 36 10 [0, 0, 0, 4, 4, 4, 4, 4, 4, 0, 0, 1, 1]).2) (fun x4 h3 =>
    (gfR h3 o 11 1).bind (fun x5 =>
    cV (Ex 66 [aR (nob h 36 10 [0, 0, 0, 4, 4, 4, 4, 4, 4, 0, 0, 1, 1]).1, aI x4, aI p0, aI p1, aR x5] h3) (fun h6 =>
    cI (Ex 401 [aR x1, aR (nob h 36 10 [0, 0, 0, 4, 4, 4, 4, 4, 4, 0, 0, 1, 1]).1] h6) (fun x8 h7 =>
    (gfR h7 o 11 3).bind (fun x9 =>
    cI (Ex 405 [aR x9] h7) (fun x11 h10 =>
    some (.inl (some (aI (x11 - (1 : Int32)))), h10)) xT)) xT) xT)) xT)) :=
  lift_of (k := 21) (rows := code_87) (cuts := cut_87) (hs := hdl_87) (r := fun R E =>
    (gfR h o 11 3).bind (fun x1 =>
    (gfR (nob h 36 10 [0, 0, 0, 4, 4, 4, 4, 4, 4, 0, 0, 1, 1]).2 o 11 3).bind (fun x2 =>
    cI (E 405 [aR x2] (nob h 36 10 [0, 0, 0, 4, 4, 4, 4, 4, 4, 0, 0, 1, 1]).2) (fun x4 h3 =>
    (gfR h3 o 11 1).bind (fun x5 =>
    cV (E 66 [aR (nob h 36 10 [0, 0, 0, 4, 4, 4, 4, 4, 4, 0, 0, 1, 1]).1, aI x4, aI p0, aI p1, aR x5] h3) (fun h6 =>
    cI (E 401 [aR x1, aR (nob h 36 10 [0, 0, 0, 4, 4, 4, 4, 4, 4, 0, 0, 1, 1]).1] h6) (fun x8 h7 =>
    (gfR h7 o 11 3).bind (fun x9 =>
    cI (E 405 [aR x9] h7) (fun x11 h10 =>
    some (.inl (some (aI (x11 - (1 : Int32)))), h10)) xT)) xT) xT)) xT))) rfl rfl rfl (fun R E => rfl)
-- Chipcardhouse.card(IIII)I
set_option maxRecDepth 100000 in
theorem lf_88_0 (o : Option (Nat × Nat)) (p0 : Int32) (p1 : Int32) (p2 : Int32) (p3 : Int32) (h : Hp) : Ru 88 0 [(0, aR o), (1, aI p0), (2, aI p1), (3, aI p2), (4, aI p3)] [] h =
    cI (Ex 89 [aR o, aI p0, aI p1, aI p2, aI p3] h) (fun x2 h1 =>
    cV (Ex 142 [aI x2] h1) (fun h3 =>
    cI (Ex 90 [aR o, aI p0, aI p1, aI p2, aI p3] h3) (fun x5 h4 =>
    some (.inl (some (aI x5)), h4)) xT) xT) xT :=
  lift_of (k := 15) (rows := code_88) (cuts := cut_88) (hs := hdl_88) (r := fun R E =>
    cI (E 89 [aR o, aI p0, aI p1, aI p2, aI p3] h) (fun x2 h1 =>
    cV (E 142 [aI x2] h1) (fun h3 =>
    cI (E 90 [aR o, aI p0, aI p1, aI p2, aI p3] h3) (fun x5 h4 =>
    some (.inl (some (aI x5)), h4)) xT) xT) xT) rfl rfl rfl (fun R E => rfl)
-- Chipcardhouse.refusalOfCard(IIII)I
set_option maxRecDepth 100000 in
theorem lf_89_0 (o : Option (Nat × Nat)) (p0 : Int32) (p1 : Int32) (p2 : Int32) (p3 : Int32) (h : Hp) : Ru 89 0 [(0, aR o), (1, aI p0), (2, aI p1), (3, aI p2), (4, aI p3)] [] h =
    (gfR h o 11 2).bind (fun x1 =>
    cI (Ex 405 [aR x1] h) (fun x3 h2 =>
    cI (Ex 139 [aI p0, aI (0 : Int32), aI (x3 - (1 : Int32))] h2) (fun x5 h4 =>
    if x5 = 0 then
      some (.inl (some (aI (1 : Int32))), h4)
    else
      cI (Ex 139 [aI p1, aI (0 : Int32), aI (9999 : Int32)] h4) (fun x7 h6 =>
      if x7 = 0 then
        some (.inl (some (aI (2 : Int32))), h6)
      else
        cI (Ex 139 [aI p2, aI (0 : Int32), aI (9 : Int32)] h6) (fun x9 h8 =>
        if x9 = 0 then
          some (.inl (some (aI (2 : Int32))), h8)
        else
          cI (Ex 139 [aI p3, aI (0 : Int32), aI (100000 : Int32)] h8) (fun x11 h10 =>
          if x11 = 0 then
            some (.inl (some (aI (2 : Int32))), h10)
          else
            (gfR h10 o 11 4).bind (fun x12 =>
            cI (Ex 405 [aR x12] h10) (fun x14 h13 =>
            if x14 < (8 : Int32) then
              some (.inl (some (aI (0 : Int32))), h13)
            else
              some (.inl (some (aI (3 : Int32))), h13)) xT)) xT) xT) xT) xT) xT) :=
  lift_of (k := 33) (rows := code_89) (cuts := cut_89) (hs := hdl_89) (r := fun R E =>
    (gfR h o 11 2).bind (fun x1 =>
    cI (E 405 [aR x1] h) (fun x3 h2 =>
    cI (E 139 [aI p0, aI (0 : Int32), aI (x3 - (1 : Int32))] h2) (fun x5 h4 =>
    if x5 = 0 then
      some (.inl (some (aI (1 : Int32))), h4)
    else
      cI (E 139 [aI p1, aI (0 : Int32), aI (9999 : Int32)] h4) (fun x7 h6 =>
      if x7 = 0 then
        some (.inl (some (aI (2 : Int32))), h6)
      else
        cI (E 139 [aI p2, aI (0 : Int32), aI (9 : Int32)] h6) (fun x9 h8 =>
        if x9 = 0 then
          some (.inl (some (aI (2 : Int32))), h8)
        else
          cI (E 139 [aI p3, aI (0 : Int32), aI (100000 : Int32)] h8) (fun x11 h10 =>
          if x11 = 0 then
            some (.inl (some (aI (2 : Int32))), h10)
          else
            (gfR h10 o 11 4).bind (fun x12 =>
            cI (E 405 [aR x12] h10) (fun x14 h13 =>
            if x14 < (8 : Int32) then
              some (.inl (some (aI (0 : Int32))), h13)
            else
              some (.inl (some (aI (3 : Int32))), h13)) xT)) xT) xT) xT) xT) xT)) rfl rfl rfl (fun R E => rfl)
-- Chipcardhouse.addCard(IIII)I
set_option maxRecDepth 100000 in
theorem lf_90_0 (o : Option (Nat × Nat)) (p0 : Int32) (p1 : Int32) (p2 : Int32) (p3 : Int32) (h : Hp) : Ru 90 0 [(0, aR o), (1, aI p0), (2, aI p1), (3, aI p2), (4, aI p3)] [] h =
    (gfR (nob h 37 1 [0, 4, 0, 0, 0, 0, 0, 0, 0, 0, 0, 0, 0, 0, 0, 4, 4]).2 o 11 4).bind (fun x1 =>
    cI (Ex 405 [aR x1] (nob h 37 1 [0, 4, 0, 0, 0, 0, 0, 0, 0, 0, 0, 0, 0, 0, 0, 4, 4]).2) (fun x3 h2 =>
    (gfR h2 o 11 2).bind (fun x4 =>
    cR (Ex 402 [aR x4, aI p0] h2) (fun x6 h5 =>
    acc x6 0 h5 (
    cV (Ex 1 [aR (nob h 37 1 [0, 4, 0, 0, 0, 0, 0, 0, 0, 0, 0, 0, 0, 0, 0, 4, 4]).1, aI x3, aR x6, aI p1] h5) (fun h7 =>
    (pf h7 (nob h 37 1 [0, 4, 0, 0, 0, 0, 0, 0, 0, 0, 0, 0, 0, 0, 0, 4, 4]).1 1 4 (aI p2)).bind (fun h8 =>
    (pf h8 (nob h 37 1 [0, 4, 0, 0, 0, 0, 0, 0, 0, 0, 0, 0, 0, 0, 0, 4, 4]).1 1 5 (aI p3)).bind (fun h9 =>
    (gfR h9 o 11 4).bind (fun x10 =>
    cI (Ex 401 [aR x10, aR (nob h 37 1 [0, 4, 0, 0, 0, 0, 0, 0, 0, 0, 0, 0, 0, 0, 0, 4, 4]).1] h9) (fun x12 h11 =>
    (gfI h11 (nob h 37 1 [0, 4, 0, 0, 0, 0, 0, 0, 0, 0, 0, 0, 0, 0, 0, 4, 4]).1 1 0).bind (fun x13 =>
    some (.inl (some (aI x13)), h11))) xT)))) xT)) xT)) xT) :=
  lift_of (k := 28) (rows := code_90) (cuts := cut_90) (hs := hdl_90) (r := fun R E =>
    (gfR (nob h 37 1 [0, 4, 0, 0, 0, 0, 0, 0, 0, 0, 0, 0, 0, 0, 0, 4, 4]).2 o 11 4).bind (fun x1 =>
    cI (E 405 [aR x1] (nob h 37 1 [0, 4, 0, 0, 0, 0, 0, 0, 0, 0, 0, 0, 0, 0, 0, 4, 4]).2) (fun x3 h2 =>
    (gfR h2 o 11 2).bind (fun x4 =>
    cR (E 402 [aR x4, aI p0] h2) (fun x6 h5 =>
    acc x6 0 h5 (
    cV (E 1 [aR (nob h 37 1 [0, 4, 0, 0, 0, 0, 0, 0, 0, 0, 0, 0, 0, 0, 0, 4, 4]).1, aI x3, aR x6, aI p1] h5) (fun h7 =>
    (pf h7 (nob h 37 1 [0, 4, 0, 0, 0, 0, 0, 0, 0, 0, 0, 0, 0, 0, 0, 4, 4]).1 1 4 (aI p2)).bind (fun h8 =>
    (pf h8 (nob h 37 1 [0, 4, 0, 0, 0, 0, 0, 0, 0, 0, 0, 0, 0, 0, 0, 4, 4]).1 1 5 (aI p3)).bind (fun h9 =>
    (gfR h9 o 11 4).bind (fun x10 =>
    cI (E 401 [aR x10, aR (nob h 37 1 [0, 4, 0, 0, 0, 0, 0, 0, 0, 0, 0, 0, 0, 0, 0, 4, 4]).1] h9) (fun x12 h11 =>
    (gfI h11 (nob h 37 1 [0, 4, 0, 0, 0, 0, 0, 0, 0, 0, 0, 0, 0, 0, 0, 4, 4]).1 1 0).bind (fun x13 =>
    some (.inl (some (aI x13)), h11))) xT)))) xT)) xT)) xT)) rfl rfl rfl (fun R E => rfl)
-- Chipcardhouse.setHouse(III)I
set_option maxRecDepth 100000 in
theorem lf_91_0 (o : Option (Nat × Nat)) (p0 : Int32) (p1 : Int32) (p2 : Int32) (h : Hp) : Ru 91 0 [(0, aR o), (1, aI p0), (2, aI p1), (3, aI p2)] [] h =
    cI (Ex 92 [aR o, aI p0, aI p1, aI p2] h) (fun x2 h1 =>
    cV (Ex 142 [aI x2] h1) (fun h3 =>
    cI (Ex 93 [aR o, aI p0, aI p1, aI p2] h3) (fun x5 h4 =>
    some (.inl (some (aI x5)), h4)) xT) xT) xT :=
  lift_of (k := 13) (rows := code_91) (cuts := cut_91) (hs := hdl_91) (r := fun R E =>
    cI (E 92 [aR o, aI p0, aI p1, aI p2] h) (fun x2 h1 =>
    cV (E 142 [aI x2] h1) (fun h3 =>
    cI (E 93 [aR o, aI p0, aI p1, aI p2] h3) (fun x5 h4 =>
    some (.inl (some (aI x5)), h4)) xT) xT) xT) rfl rfl rfl (fun R E => rfl)
-- Chipcardhouse.refusalOfHouse(III)I
set_option maxRecDepth 100000 in
theorem lf_92_0 (o : Option (Nat × Nat)) (p0 : Int32) (p1 : Int32) (p2 : Int32) (h : Hp) : Ru 92 0 [(0, aR o), (1, aI p0), (2, aI p1), (3, aI p2)] [] h =
    cI (Ex 139 [aI p0, aI (0 : Int32), aI (20000 : Int32)] h) (fun x2 h1 =>
    if x2 = 0 then
      if (0 : Int32) = 0 then
        some (.inl (some (aI (2 : Int32))), h1)
      else
        some (.inl (some (aI (0 : Int32))), h1)
    else
      cI (Ex 139 [aI p1, aI (0 : Int32), aI (500 : Int32)] h1) (fun x4 h3 =>
      if x4 = 0 then
        if (0 : Int32) = 0 then
          some (.inl (some (aI (2 : Int32))), h3)
        else
          some (.inl (some (aI (0 : Int32))), h3)
      else
        cI (Ex 139 [aI p2, aI (1 : Int32), aI (5 : Int32)] h3) (fun x6 h5 =>
        if x6 = 0 then
          if (0 : Int32) = 0 then
            some (.inl (some (aI (2 : Int32))), h5)
          else
            some (.inl (some (aI (0 : Int32))), h5)
        else
          if (1 : Int32) = 0 then
            some (.inl (some (aI (2 : Int32))), h5)
          else
            some (.inl (some (aI (0 : Int32))), h5)) xT) xT) xT :=
  lift_of (k := 24) (rows := code_92) (cuts := cut_92) (hs := hdl_92) (r := fun R E =>
    cI (E 139 [aI p0, aI (0 : Int32), aI (20000 : Int32)] h) (fun x2 h1 =>
    if x2 = 0 then
      if (0 : Int32) = 0 then
        some (.inl (some (aI (2 : Int32))), h1)
      else
        some (.inl (some (aI (0 : Int32))), h1)
    else
      cI (E 139 [aI p1, aI (0 : Int32), aI (500 : Int32)] h1) (fun x4 h3 =>
      if x4 = 0 then
        if (0 : Int32) = 0 then
          some (.inl (some (aI (2 : Int32))), h3)
        else
          some (.inl (some (aI (0 : Int32))), h3)
      else
        cI (E 139 [aI p2, aI (1 : Int32), aI (5 : Int32)] h3) (fun x6 h5 =>
        if x6 = 0 then
          if (0 : Int32) = 0 then
            some (.inl (some (aI (2 : Int32))), h5)
          else
            some (.inl (some (aI (0 : Int32))), h5)
        else
          if (1 : Int32) = 0 then
            some (.inl (some (aI (2 : Int32))), h5)
          else
            some (.inl (some (aI (0 : Int32))), h5)) xT) xT) xT) rfl rfl rfl (fun R E => rfl)
-- Chipcardhouse.changeHouse(III)I
set_option maxRecDepth 100000 in
theorem lf_93_0 (o : Option (Nat × Nat)) (p0 : Int32) (p1 : Int32) (p2 : Int32) (h : Hp) : Ru 93 0 [(0, aR o), (1, aI p0), (2, aI p1), (3, aI p2)] [] h =
    (gfI h o 11 8).bind (fun x1 =>
    (gfR h o 11 7).bind (fun x2 =>
    (pf h x2 9 1 (aI p0)).bind (fun h3 =>
    (pf h3 o 11 8 (aI p1)).bind (fun h4 =>
    (gfR h4 o 11 1).bind (fun x5 =>
    (pf h4 x5 2 2 (aI p2)).bind (fun h6 =>
    some (.inl (some (aI x1)), h6))))))) :=
  lift_of (k := 17) (rows := code_93) (cuts := cut_93) (hs := hdl_93) (r := fun R E =>
    (gfI h o 11 8).bind (fun x1 =>
    (gfR h o 11 7).bind (fun x2 =>
    (pf h x2 9 1 (aI p0)).bind (fun h3 =>
    (pf h3 o 11 8 (aI p1)).bind (fun h4 =>
    (gfR h4 o 11 1).bind (fun x5 =>
    (pf h4 x5 2 2 (aI p2)).bind (fun h6 =>
    some (.inl (some (aI x1)), h6)))))))) rfl rfl rfl (fun R E => rfl)
-- Chipcardhouse.pay(IIII)I
set_option maxRecDepth 100000 in
theorem lf_94_0 (o : Option (Nat × Nat)) (p0 : Int32) (p1 : Int32) (p2 : Int32) (p3 : Int32) (h : Hp) : Ru 94 0 [(0, aR o), (1, aI p0), (2, aI p1), (3, aI p2), (4, aI p3)] [] h =
    cI (Ex 95 [aR o, aI p0, aI p1, aI p2, aI p3] h) (fun x2 h1 =>
    cV (Ex 142 [aI x2] h1) (fun h3 =>
    cI (Ex 96 [aR o, aI p0, aI p1, aI p2, aI p3] h3) (fun x5 h4 =>
    some (.inl (some (aI x5)), h4)) xT) xT) xT :=
  lift_of (k := 15) (rows := code_94) (cuts := cut_94) (hs := hdl_94) (r := fun R E =>
    cI (E 95 [aR o, aI p0, aI p1, aI p2, aI p3] h) (fun x2 h1 =>
    cV (E 142 [aI x2] h1) (fun h3 =>
    cI (E 96 [aR o, aI p0, aI p1, aI p2, aI p3] h3) (fun x5 h4 =>
    some (.inl (some (aI x5)), h4)) xT) xT) xT) rfl rfl rfl (fun R E => rfl)
-- Chipcardhouse.refusalOfPay(IIII)I
set_option maxRecDepth 100000 in
theorem lf_95_0 (o : Option (Nat × Nat)) (p0 : Int32) (p1 : Int32) (p2 : Int32) (p3 : Int32) (h : Hp) : Ru 95 0 [(0, aR o), (1, aI p0), (2, aI p1), (3, aI p2), (4, aI p3)] [] h =
    (gfR h o 11 4).bind (fun x1 =>
    cI (Ex 405 [aR x1] h) (fun x3 h2 =>
    cI (Ex 139 [aI p0, aI (0 : Int32), aI (x3 - (1 : Int32))] h2) (fun x5 h4 =>
    if x5 = 0 then
      some (.inl (some (aI (1 : Int32))), h4)
    else
      (gfR h4 o 11 3).bind (fun x6 =>
      cI (Ex 405 [aR x6] h4) (fun x8 h7 =>
      cI (Ex 139 [aI p1, aI (0 : Int32), aI (x8 - (1 : Int32))] h7) (fun x10 h9 =>
      if x10 = 0 then
        some (.inl (some (aI (1 : Int32))), h9)
      else
        cI (Ex 139 [aI p2, aI (1 : Int32), aI (100000 : Int32)] h9) (fun x12 h11 =>
        if x12 = 0 then
          if (0 : Int32) = 0 then
            some (.inl (some (aI (2 : Int32))), h11)
          else
            some (.inl (some (aI (0 : Int32))), h11)
        else
          cI (Ex 139 [aI p3, aI (-1 : Int32), aI (9999 : Int32)] h11) (fun x14 h13 =>
          if x14 = 0 then
            if (0 : Int32) = 0 then
              some (.inl (some (aI (2 : Int32))), h13)
            else
              some (.inl (some (aI (0 : Int32))), h13)
          else
            if (1 : Int32) = 0 then
              some (.inl (some (aI (2 : Int32))), h13)
            else
              some (.inl (some (aI (0 : Int32))), h13)) xT) xT) xT) xT)) xT) xT) :=
  lift_of (k := 37) (rows := code_95) (cuts := cut_95) (hs := hdl_95) (r := fun R E =>
    (gfR h o 11 4).bind (fun x1 =>
    cI (E 405 [aR x1] h) (fun x3 h2 =>
    cI (E 139 [aI p0, aI (0 : Int32), aI (x3 - (1 : Int32))] h2) (fun x5 h4 =>
    if x5 = 0 then
      some (.inl (some (aI (1 : Int32))), h4)
    else
      (gfR h4 o 11 3).bind (fun x6 =>
      cI (E 405 [aR x6] h4) (fun x8 h7 =>
      cI (E 139 [aI p1, aI (0 : Int32), aI (x8 - (1 : Int32))] h7) (fun x10 h9 =>
      if x10 = 0 then
        some (.inl (some (aI (1 : Int32))), h9)
      else
        cI (E 139 [aI p2, aI (1 : Int32), aI (100000 : Int32)] h9) (fun x12 h11 =>
        if x12 = 0 then
          if (0 : Int32) = 0 then
            some (.inl (some (aI (2 : Int32))), h11)
          else
            some (.inl (some (aI (0 : Int32))), h11)
        else
          cI (E 139 [aI p3, aI (-1 : Int32), aI (9999 : Int32)] h11) (fun x14 h13 =>
          if x14 = 0 then
            if (0 : Int32) = 0 then
              some (.inl (some (aI (2 : Int32))), h13)
            else
              some (.inl (some (aI (0 : Int32))), h13)
          else
            if (1 : Int32) = 0 then
              some (.inl (some (aI (2 : Int32))), h13)
            else
              some (.inl (some (aI (0 : Int32))), h13)) xT) xT) xT) xT)) xT) xT)) rfl rfl rfl (fun R E => rfl)
-- Chipcardhouse.payAt(IIII)I
set_option maxRecDepth 100000 in
theorem lf_96_0 (o : Option (Nat × Nat)) (p0 : Int32) (p1 : Int32) (p2 : Int32) (p3 : Int32) (h : Hp) : Ru 96 0 [(0, aR o), (1, aI p0), (2, aI p1), (3, aI p2), (4, aI p3)] [] h =
    (gfR h o 11 4).bind (fun x1 =>
    cR (Ex 402 [aR x1, aI p0] h) (fun x3 h2 =>
    acc x3 1 h2 (
    (gfR h2 o 11 3).bind (fun x4 =>
    cR (Ex 402 [aR x4, aI p1] h2) (fun x6 h5 =>
    acc x6 10 h5 (
    cI (Ex 3 [aR x3, aI p2, aI p3] h5) (fun x8 h7 =>
    if x8 = 0 then
      (gfR h7 o 11 5).bind (fun x9 =>
      cI (Ex 405 [aR x9] h7) (fun x11 h10 =>
      if x11 < (200 : Int32) then
        if x8 = 0 then
          cV (Ex 4 [aR x3, aI p3] h10) (fun h12 =>
          (gfR (nob h12 38 7 [0, 4, 4, 0, 0, 0, 0, 0, 0, 0, 0, 0]).2 o 11 5).bind (fun x13 =>
          cI (Ex 405 [aR x13] (nob h12 38 7 [0, 4, 4, 0, 0, 0, 0, 0, 0, 0, 0, 0]).2) (fun x15 h14 =>
          cV (Ex 42 [aR (nob h12 38 7 [0, 4, 4, 0, 0, 0, 0, 0, 0, 0, 0, 0]).1, aI x15, aR x3, aR x6, aI p2] h14) (fun h16 =>
          (gfR h16 o 11 1).bind (fun x17 =>
          (gfI h16 x17 2 0).bind (fun x18 =>
          (pf h16 (nob h12 38 7 [0, 4, 4, 0, 0, 0, 0, 0, 0, 0, 0, 0]).1 7 6 (aI x18)).bind (fun h19 =>
          if p3 = (-1 : Int32) then
            (pf h19 (nob h12 38 7 [0, 4, 4, 0, 0, 0, 0, 0, 0, 0, 0, 0]).1 7 11 (aI (1 : Int32))).bind (fun h20 =>
            (gfR h20 o 11 5).bind (fun x21 =>
            cI (Ex 401 [aR x21, aR (nob h12 38 7 [0, 4, 4, 0, 0, 0, 0, 0, 0, 0, 0, 0]).1] h20) (fun x23 h22 =>
            cI (Ex 68 [aR x6, aI p2] h22) (fun x25 h24 =>
            (gfI h24 x6 10 10).bind (fun x26 =>
            (pf h24 x6 10 10 (aI (x26 + (1 : Int32)))).bind (fun h27 =>
            if x25 = 0 then
              cI (Ex 5 [aR x3, aI p2] h27) (fun x29 h28 =>
              if x29 = 0 then
                cV (Ex 44 [aR (nob h12 38 7 [0, 4, 4, 0, 0, 0, 0, 0, 0, 0, 0, 0]).1] h28) (fun h30 =>
                cV (Ex 69 [aR x6, aR (nob h12 38 7 [0, 4, 4, 0, 0, 0, 0, 0, 0, 0, 0, 0]).1] h30) (fun h31 =>
                (gfI h31 (nob h12 38 7 [0, 4, 4, 0, 0, 0, 0, 0, 0, 0, 0, 0]).1 7 0).bind (fun x32 =>
                some (.inl (some (aI x32)), h31))) xT) xT
              else
                cV (Ex 43 [aR (nob h12 38 7 [0, 4, 4, 0, 0, 0, 0, 0, 0, 0, 0, 0]).1] h28) (fun h33 =>
                (gfI h33 (nob h12 38 7 [0, 4, 4, 0, 0, 0, 0, 0, 0, 0, 0, 0]).1 7 0).bind (fun x34 =>
                some (.inl (some (aI x34)), h33))) xT) xT
            else
              cV (Ex 44 [aR (nob h12 38 7 [0, 4, 4, 0, 0, 0, 0, 0, 0, 0, 0, 0]).1] h27) (fun h35 =>
              cV (Ex 69 [aR x6, aR (nob h12 38 7 [0, 4, 4, 0, 0, 0, 0, 0, 0, 0, 0, 0]).1] h35) (fun h36 =>
              (gfI h36 (nob h12 38 7 [0, 4, 4, 0, 0, 0, 0, 0, 0, 0, 0, 0]).1 7 0).bind (fun x37 =>
              some (.inl (some (aI x37)), h36))) xT) xT))) xT) xT))
          else
            (pf h19 (nob h12 38 7 [0, 4, 4, 0, 0, 0, 0, 0, 0, 0, 0, 0]).1 7 11 (aI (0 : Int32))).bind (fun h38 =>
            (gfR h38 o 11 5).bind (fun x39 =>
            cI (Ex 401 [aR x39, aR (nob h12 38 7 [0, 4, 4, 0, 0, 0, 0, 0, 0, 0, 0, 0]).1] h38) (fun x41 h40 =>
            cI (Ex 68 [aR x6, aI p2] h40) (fun x43 h42 =>
            (gfI h42 x6 10 10).bind (fun x44 =>
            (pf h42 x6 10 10 (aI (x44 + (1 : Int32)))).bind (fun h45 =>
            if x43 = 0 then
              cI (Ex 5 [aR x3, aI p2] h45) (fun x47 h46 =>
              if x47 = 0 then
                cV (Ex 44 [aR (nob h12 38 7 [0, 4, 4, 0, 0, 0, 0, 0, 0, 0, 0, 0]).1] h46) (fun h48 =>
                cV (Ex 69 [aR x6, aR (nob h12 38 7 [0, 4, 4, 0, 0, 0, 0, 0, 0, 0, 0, 0]).1] h48) (fun h49 =>
                (gfI h49 (nob h12 38 7 [0, 4, 4, 0, 0, 0, 0, 0, 0, 0, 0, 0]).1 7 0).bind (fun x50 =>
                some (.inl (some (aI x50)), h49))) xT) xT
              else
                cV (Ex 43 [aR (nob h12 38 7 [0, 4, 4, 0, 0, 0, 0, 0, 0, 0, 0, 0]).1] h46) (fun h51 =>
                (gfI h51 (nob h12 38 7 [0, 4, 4, 0, 0, 0, 0, 0, 0, 0, 0, 0]).1 7 0).bind (fun x52 =>
                some (.inl (some (aI x52)), h51))) xT) xT
            else
              cV (Ex 44 [aR (nob h12 38 7 [0, 4, 4, 0, 0, 0, 0, 0, 0, 0, 0, 0]).1] h45) (fun h53 =>
              cV (Ex 69 [aR x6, aR (nob h12 38 7 [0, 4, 4, 0, 0, 0, 0, 0, 0, 0, 0, 0]).1] h53) (fun h54 =>
              (gfI h54 (nob h12 38 7 [0, 4, 4, 0, 0, 0, 0, 0, 0, 0, 0, 0]).1 7 0).bind (fun x55 =>
              some (.inl (some (aI x55)), h54))) xT) xT))) xT) xT)))))) xT) xT)) xT
        else
          some (.inl (some (aI (-x8))), h10)
      else
        if (5 : Int32) = 0 then
          cV (Ex 4 [aR x3, aI p3] h10) (fun h56 =>
          (gfR (nob h56 38 7 [0, 4, 4, 0, 0, 0, 0, 0, 0, 0, 0, 0]).2 o 11 5).bind (fun x57 =>
          cI (Ex 405 [aR x57] (nob h56 38 7 [0, 4, 4, 0, 0, 0, 0, 0, 0, 0, 0, 0]).2) (fun x59 h58 =>
          cV (Ex 42 [aR (nob h56 38 7 [0, 4, 4, 0, 0, 0, 0, 0, 0, 0, 0, 0]).1, aI x59, aR x3, aR x6, aI p2] h58) (fun h60 =>
          (gfR h60 o 11 1).bind (fun x61 =>
          (gfI h60 x61 2 0).bind (fun x62 =>
          (pf h60 (nob h56 38 7 [0, 4, 4, 0, 0, 0, 0, 0, 0, 0, 0, 0]).1 7 6 (aI x62)).bind (fun h63 =>
          if p3 = (-1 : Int32) then
            (pf h63 (nob h56 38 7 [0, 4, 4, 0, 0, 0, 0, 0, 0, 0, 0, 0]).1 7 11 (aI (1 : Int32))).bind (fun h64 =>
            (gfR h64 o 11 5).bind (fun x65 =>
            cI (Ex 401 [aR x65, aR (nob h56 38 7 [0, 4, 4, 0, 0, 0, 0, 0, 0, 0, 0, 0]).1] h64) (fun x67 h66 =>
            cI (Ex 68 [aR x6, aI p2] h66) (fun x69 h68 =>
            (gfI h68 x6 10 10).bind (fun x70 =>
            (pf h68 x6 10 10 (aI (x70 + (1 : Int32)))).bind (fun h71 =>
            if x69 = 0 then
              cI (Ex 5 [aR x3, aI p2] h71) (fun x73 h72 =>
              if x73 = 0 then
                cV (Ex 44 [aR (nob h56 38 7 [0, 4, 4, 0, 0, 0, 0, 0, 0, 0, 0, 0]).1] h72) (fun h74 =>
                cV (Ex 69 [aR x6, aR (nob h56 38 7 [0, 4, 4, 0, 0, 0, 0, 0, 0, 0, 0, 0]).1] h74) (fun h75 =>
                (gfI h75 (nob h56 38 7 [0, 4, 4, 0, 0, 0, 0, 0, 0, 0, 0, 0]).1 7 0).bind (fun x76 =>
                some (.inl (some (aI x76)), h75))) xT) xT
              else
                cV (Ex 43 [aR (nob h56 38 7 [0, 4, 4, 0, 0, 0, 0, 0, 0, 0, 0, 0]).1] h72) (fun h77 =>
                (gfI h77 (nob h56 38 7 [0, 4, 4, 0, 0, 0, 0, 0, 0, 0, 0, 0]).1 7 0).bind (fun x78 =>
                some (.inl (some (aI x78)), h77))) xT) xT
            else
              cV (Ex 44 [aR (nob h56 38 7 [0, 4, 4, 0, 0, 0, 0, 0, 0, 0, 0, 0]).1] h71) (fun h79 =>
              cV (Ex 69 [aR x6, aR (nob h56 38 7 [0, 4, 4, 0, 0, 0, 0, 0, 0, 0, 0, 0]).1] h79) (fun h80 =>
              (gfI h80 (nob h56 38 7 [0, 4, 4, 0, 0, 0, 0, 0, 0, 0, 0, 0]).1 7 0).bind (fun x81 =>
              some (.inl (some (aI x81)), h80))) xT) xT))) xT) xT))
          else
            (pf h63 (nob h56 38 7 [0, 4, 4, 0, 0, 0, 0, 0, 0, 0, 0, 0]).1 7 11 (aI (0 : Int32))).bind (fun h82 =>
            (gfR h82 o 11 5).bind (fun x83 =>
            cI (Ex 401 [aR x83, aR (nob h56 38 7 [0, 4, 4, 0, 0, 0, 0, 0, 0, 0, 0, 0]).1] h82) (fun x85 h84 =>
            cI (Ex 68 [aR x6, aI p2] h84) (fun x87 h86 =>
            (gfI h86 x6 10 10).bind (fun x88 =>
            (pf h86 x6 10 10 (aI (x88 + (1 : Int32)))).bind (fun h89 =>
            if x87 = 0 then
              cI (Ex 5 [aR x3, aI p2] h89) (fun x91 h90 =>
              if x91 = 0 then
                cV (Ex 44 [aR (nob h56 38 7 [0, 4, 4, 0, 0, 0, 0, 0, 0, 0, 0, 0]).1] h90) (fun h92 =>
                cV (Ex 69 [aR x6, aR (nob h56 38 7 [0, 4, 4, 0, 0, 0, 0, 0, 0, 0, 0, 0]).1] h92) (fun h93 =>
                (gfI h93 (nob h56 38 7 [0, 4, 4, 0, 0, 0, 0, 0, 0, 0, 0, 0]).1 7 0).bind (fun x94 =>
                some (.inl (some (aI x94)), h93))) xT) xT
              else
                cV (Ex 43 [aR (nob h56 38 7 [0, 4, 4, 0, 0, 0, 0, 0, 0, 0, 0, 0]).1] h90) (fun h95 =>
                (gfI h95 (nob h56 38 7 [0, 4, 4, 0, 0, 0, 0, 0, 0, 0, 0, 0]).1 7 0).bind (fun x96 =>
                some (.inl (some (aI x96)), h95))) xT) xT
            else
              cV (Ex 44 [aR (nob h56 38 7 [0, 4, 4, 0, 0, 0, 0, 0, 0, 0, 0, 0]).1] h89) (fun h97 =>
              cV (Ex 69 [aR x6, aR (nob h56 38 7 [0, 4, 4, 0, 0, 0, 0, 0, 0, 0, 0, 0]).1] h97) (fun h98 =>
              (gfI h98 (nob h56 38 7 [0, 4, 4, 0, 0, 0, 0, 0, 0, 0, 0, 0]).1 7 0).bind (fun x99 =>
              some (.inl (some (aI x99)), h98))) xT) xT))) xT) xT)))))) xT) xT)) xT
        else
          some (.inl (some (aI (-(5 : Int32)))), h10)) xT)
    else
      if x8 = 0 then
        cV (Ex 4 [aR x3, aI p3] h7) (fun h100 =>
        (gfR (nob h100 38 7 [0, 4, 4, 0, 0, 0, 0, 0, 0, 0, 0, 0]).2 o 11 5).bind (fun x101 =>
        cI (Ex 405 [aR x101] (nob h100 38 7 [0, 4, 4, 0, 0, 0, 0, 0, 0, 0, 0, 0]).2) (fun x103 h102 =>
        cV (Ex 42 [aR (nob h100 38 7 [0, 4, 4, 0, 0, 0, 0, 0, 0, 0, 0, 0]).1, aI x103, aR x3, aR x6, aI p2] h102) (fun h104 =>
        (gfR h104 o 11 1).bind (fun x105 =>
        (gfI h104 x105 2 0).bind (fun x106 =>
        (pf h104 (nob h100 38 7 [0, 4, 4, 0, 0, 0, 0, 0, 0, 0, 0, 0]).1 7 6 (aI x106)).bind (fun h107 =>
        if p3 = (-1 : Int32) then
          (pf h107 (nob h100 38 7 [0, 4, 4, 0, 0, 0, 0, 0, 0, 0, 0, 0]).1 7 11 (aI (1 : Int32))).bind (fun h108 =>
          (gfR h108 o 11 5).bind (fun x109 =>
          cI (Ex 401 [aR x109, aR (nob h100 38 7 [0, 4, 4, 0, 0, 0, 0, 0, 0, 0, 0, 0]).1] h108) (fun x111 h110 =>
          cI (Ex 68 [aR x6, aI p2] h110) (fun x113 h112 =>
          (gfI h112 x6 10 10).bind (fun x114 =>
          (pf h112 x6 10 10 (aI (x114 + (1 : Int32)))).bind (fun h115 =>
          if x113 = 0 then
            cI (Ex 5 [aR x3, aI p2] h115) (fun x117 h116 =>
            if x117 = 0 then
              cV (Ex 44 [aR (nob h100 38 7 [0, 4, 4, 0, 0, 0, 0, 0, 0, 0, 0, 0]).1] h116) (fun h118 =>
              cV (Ex 69 [aR x6, aR (nob h100 38 7 [0, 4, 4, 0, 0, 0, 0, 0, 0, 0, 0, 0]).1] h118) (fun h119 =>
              (gfI h119 (nob h100 38 7 [0, 4, 4, 0, 0, 0, 0, 0, 0, 0, 0, 0]).1 7 0).bind (fun x120 =>
              some (.inl (some (aI x120)), h119))) xT) xT
            else
              cV (Ex 43 [aR (nob h100 38 7 [0, 4, 4, 0, 0, 0, 0, 0, 0, 0, 0, 0]).1] h116) (fun h121 =>
              (gfI h121 (nob h100 38 7 [0, 4, 4, 0, 0, 0, 0, 0, 0, 0, 0, 0]).1 7 0).bind (fun x122 =>
              some (.inl (some (aI x122)), h121))) xT) xT
          else
            cV (Ex 44 [aR (nob h100 38 7 [0, 4, 4, 0, 0, 0, 0, 0, 0, 0, 0, 0]).1] h115) (fun h123 =>
            cV (Ex 69 [aR x6, aR (nob h100 38 7 [0, 4, 4, 0, 0, 0, 0, 0, 0, 0, 0, 0]).1] h123) (fun h124 =>
            (gfI h124 (nob h100 38 7 [0, 4, 4, 0, 0, 0, 0, 0, 0, 0, 0, 0]).1 7 0).bind (fun x125 =>
            some (.inl (some (aI x125)), h124))) xT) xT))) xT) xT))
        else
          (pf h107 (nob h100 38 7 [0, 4, 4, 0, 0, 0, 0, 0, 0, 0, 0, 0]).1 7 11 (aI (0 : Int32))).bind (fun h126 =>
          (gfR h126 o 11 5).bind (fun x127 =>
          cI (Ex 401 [aR x127, aR (nob h100 38 7 [0, 4, 4, 0, 0, 0, 0, 0, 0, 0, 0, 0]).1] h126) (fun x129 h128 =>
          cI (Ex 68 [aR x6, aI p2] h128) (fun x131 h130 =>
          (gfI h130 x6 10 10).bind (fun x132 =>
          (pf h130 x6 10 10 (aI (x132 + (1 : Int32)))).bind (fun h133 =>
          if x131 = 0 then
            cI (Ex 5 [aR x3, aI p2] h133) (fun x135 h134 =>
            if x135 = 0 then
              cV (Ex 44 [aR (nob h100 38 7 [0, 4, 4, 0, 0, 0, 0, 0, 0, 0, 0, 0]).1] h134) (fun h136 =>
              cV (Ex 69 [aR x6, aR (nob h100 38 7 [0, 4, 4, 0, 0, 0, 0, 0, 0, 0, 0, 0]).1] h136) (fun h137 =>
              (gfI h137 (nob h100 38 7 [0, 4, 4, 0, 0, 0, 0, 0, 0, 0, 0, 0]).1 7 0).bind (fun x138 =>
              some (.inl (some (aI x138)), h137))) xT) xT
            else
              cV (Ex 43 [aR (nob h100 38 7 [0, 4, 4, 0, 0, 0, 0, 0, 0, 0, 0, 0]).1] h134) (fun h139 =>
              (gfI h139 (nob h100 38 7 [0, 4, 4, 0, 0, 0, 0, 0, 0, 0, 0, 0]).1 7 0).bind (fun x140 =>
              some (.inl (some (aI x140)), h139))) xT) xT
          else
            cV (Ex 44 [aR (nob h100 38 7 [0, 4, 4, 0, 0, 0, 0, 0, 0, 0, 0, 0]).1] h133) (fun h141 =>
            cV (Ex 69 [aR x6, aR (nob h100 38 7 [0, 4, 4, 0, 0, 0, 0, 0, 0, 0, 0, 0]).1] h141) (fun h142 =>
            (gfI h142 (nob h100 38 7 [0, 4, 4, 0, 0, 0, 0, 0, 0, 0, 0, 0]).1 7 0).bind (fun x143 =>
            some (.inl (some (aI x143)), h142))) xT) xT))) xT) xT)))))) xT) xT)) xT
      else
        some (.inl (some (aI (-x8))), h7)) xT)) xT))) xT) :=
  lift_of (k := 83) (rows := code_96) (cuts := cut_96) (hs := hdl_96) (r := fun R E =>
    (gfR h o 11 4).bind (fun x1 =>
    cR (E 402 [aR x1, aI p0] h) (fun x3 h2 =>
    acc x3 1 h2 (
    (gfR h2 o 11 3).bind (fun x4 =>
    cR (E 402 [aR x4, aI p1] h2) (fun x6 h5 =>
    acc x6 10 h5 (
    cI (E 3 [aR x3, aI p2, aI p3] h5) (fun x8 h7 =>
    if x8 = 0 then
      (gfR h7 o 11 5).bind (fun x9 =>
      cI (E 405 [aR x9] h7) (fun x11 h10 =>
      if x11 < (200 : Int32) then
        if x8 = 0 then
          cV (E 4 [aR x3, aI p3] h10) (fun h12 =>
          (gfR (nob h12 38 7 [0, 4, 4, 0, 0, 0, 0, 0, 0, 0, 0, 0]).2 o 11 5).bind (fun x13 =>
          cI (E 405 [aR x13] (nob h12 38 7 [0, 4, 4, 0, 0, 0, 0, 0, 0, 0, 0, 0]).2) (fun x15 h14 =>
          cV (E 42 [aR (nob h12 38 7 [0, 4, 4, 0, 0, 0, 0, 0, 0, 0, 0, 0]).1, aI x15, aR x3, aR x6, aI p2] h14) (fun h16 =>
          (gfR h16 o 11 1).bind (fun x17 =>
          (gfI h16 x17 2 0).bind (fun x18 =>
          (pf h16 (nob h12 38 7 [0, 4, 4, 0, 0, 0, 0, 0, 0, 0, 0, 0]).1 7 6 (aI x18)).bind (fun h19 =>
          if p3 = (-1 : Int32) then
            (pf h19 (nob h12 38 7 [0, 4, 4, 0, 0, 0, 0, 0, 0, 0, 0, 0]).1 7 11 (aI (1 : Int32))).bind (fun h20 =>
            (gfR h20 o 11 5).bind (fun x21 =>
            cI (E 401 [aR x21, aR (nob h12 38 7 [0, 4, 4, 0, 0, 0, 0, 0, 0, 0, 0, 0]).1] h20) (fun x23 h22 =>
            cI (E 68 [aR x6, aI p2] h22) (fun x25 h24 =>
            (gfI h24 x6 10 10).bind (fun x26 =>
            (pf h24 x6 10 10 (aI (x26 + (1 : Int32)))).bind (fun h27 =>
            if x25 = 0 then
              cI (E 5 [aR x3, aI p2] h27) (fun x29 h28 =>
              if x29 = 0 then
                cV (E 44 [aR (nob h12 38 7 [0, 4, 4, 0, 0, 0, 0, 0, 0, 0, 0, 0]).1] h28) (fun h30 =>
                cV (E 69 [aR x6, aR (nob h12 38 7 [0, 4, 4, 0, 0, 0, 0, 0, 0, 0, 0, 0]).1] h30) (fun h31 =>
                (gfI h31 (nob h12 38 7 [0, 4, 4, 0, 0, 0, 0, 0, 0, 0, 0, 0]).1 7 0).bind (fun x32 =>
                some (.inl (some (aI x32)), h31))) xT) xT
              else
                cV (E 43 [aR (nob h12 38 7 [0, 4, 4, 0, 0, 0, 0, 0, 0, 0, 0, 0]).1] h28) (fun h33 =>
                (gfI h33 (nob h12 38 7 [0, 4, 4, 0, 0, 0, 0, 0, 0, 0, 0, 0]).1 7 0).bind (fun x34 =>
                some (.inl (some (aI x34)), h33))) xT) xT
            else
              cV (E 44 [aR (nob h12 38 7 [0, 4, 4, 0, 0, 0, 0, 0, 0, 0, 0, 0]).1] h27) (fun h35 =>
              cV (E 69 [aR x6, aR (nob h12 38 7 [0, 4, 4, 0, 0, 0, 0, 0, 0, 0, 0, 0]).1] h35) (fun h36 =>
              (gfI h36 (nob h12 38 7 [0, 4, 4, 0, 0, 0, 0, 0, 0, 0, 0, 0]).1 7 0).bind (fun x37 =>
              some (.inl (some (aI x37)), h36))) xT) xT))) xT) xT))
          else
            (pf h19 (nob h12 38 7 [0, 4, 4, 0, 0, 0, 0, 0, 0, 0, 0, 0]).1 7 11 (aI (0 : Int32))).bind (fun h38 =>
            (gfR h38 o 11 5).bind (fun x39 =>
            cI (E 401 [aR x39, aR (nob h12 38 7 [0, 4, 4, 0, 0, 0, 0, 0, 0, 0, 0, 0]).1] h38) (fun x41 h40 =>
            cI (E 68 [aR x6, aI p2] h40) (fun x43 h42 =>
            (gfI h42 x6 10 10).bind (fun x44 =>
            (pf h42 x6 10 10 (aI (x44 + (1 : Int32)))).bind (fun h45 =>
            if x43 = 0 then
              cI (E 5 [aR x3, aI p2] h45) (fun x47 h46 =>
              if x47 = 0 then
                cV (E 44 [aR (nob h12 38 7 [0, 4, 4, 0, 0, 0, 0, 0, 0, 0, 0, 0]).1] h46) (fun h48 =>
                cV (E 69 [aR x6, aR (nob h12 38 7 [0, 4, 4, 0, 0, 0, 0, 0, 0, 0, 0, 0]).1] h48) (fun h49 =>
                (gfI h49 (nob h12 38 7 [0, 4, 4, 0, 0, 0, 0, 0, 0, 0, 0, 0]).1 7 0).bind (fun x50 =>
                some (.inl (some (aI x50)), h49))) xT) xT
              else
                cV (E 43 [aR (nob h12 38 7 [0, 4, 4, 0, 0, 0, 0, 0, 0, 0, 0, 0]).1] h46) (fun h51 =>
                (gfI h51 (nob h12 38 7 [0, 4, 4, 0, 0, 0, 0, 0, 0, 0, 0, 0]).1 7 0).bind (fun x52 =>
                some (.inl (some (aI x52)), h51))) xT) xT
            else
              cV (E 44 [aR (nob h12 38 7 [0, 4, 4, 0, 0, 0, 0, 0, 0, 0, 0, 0]).1] h45) (fun h53 =>
              cV (E 69 [aR x6, aR (nob h12 38 7 [0, 4, 4, 0, 0, 0, 0, 0, 0, 0, 0, 0]).1] h53) (fun h54 =>
              (gfI h54 (nob h12 38 7 [0, 4, 4, 0, 0, 0, 0, 0, 0, 0, 0, 0]).1 7 0).bind (fun x55 =>
              some (.inl (some (aI x55)), h54))) xT) xT))) xT) xT)))))) xT) xT)) xT
        else
          some (.inl (some (aI (-x8))), h10)
      else
        if (5 : Int32) = 0 then
          cV (E 4 [aR x3, aI p3] h10) (fun h56 =>
          (gfR (nob h56 38 7 [0, 4, 4, 0, 0, 0, 0, 0, 0, 0, 0, 0]).2 o 11 5).bind (fun x57 =>
          cI (E 405 [aR x57] (nob h56 38 7 [0, 4, 4, 0, 0, 0, 0, 0, 0, 0, 0, 0]).2) (fun x59 h58 =>
          cV (E 42 [aR (nob h56 38 7 [0, 4, 4, 0, 0, 0, 0, 0, 0, 0, 0, 0]).1, aI x59, aR x3, aR x6, aI p2] h58) (fun h60 =>
          (gfR h60 o 11 1).bind (fun x61 =>
          (gfI h60 x61 2 0).bind (fun x62 =>
          (pf h60 (nob h56 38 7 [0, 4, 4, 0, 0, 0, 0, 0, 0, 0, 0, 0]).1 7 6 (aI x62)).bind (fun h63 =>
          if p3 = (-1 : Int32) then
            (pf h63 (nob h56 38 7 [0, 4, 4, 0, 0, 0, 0, 0, 0, 0, 0, 0]).1 7 11 (aI (1 : Int32))).bind (fun h64 =>
            (gfR h64 o 11 5).bind (fun x65 =>
            cI (E 401 [aR x65, aR (nob h56 38 7 [0, 4, 4, 0, 0, 0, 0, 0, 0, 0, 0, 0]).1] h64) (fun x67 h66 =>
            cI (E 68 [aR x6, aI p2] h66) (fun x69 h68 =>
            (gfI h68 x6 10 10).bind (fun x70 =>
            (pf h68 x6 10 10 (aI (x70 + (1 : Int32)))).bind (fun h71 =>
            if x69 = 0 then
              cI (E 5 [aR x3, aI p2] h71) (fun x73 h72 =>
              if x73 = 0 then
                cV (E 44 [aR (nob h56 38 7 [0, 4, 4, 0, 0, 0, 0, 0, 0, 0, 0, 0]).1] h72) (fun h74 =>
                cV (E 69 [aR x6, aR (nob h56 38 7 [0, 4, 4, 0, 0, 0, 0, 0, 0, 0, 0, 0]).1] h74) (fun h75 =>
                (gfI h75 (nob h56 38 7 [0, 4, 4, 0, 0, 0, 0, 0, 0, 0, 0, 0]).1 7 0).bind (fun x76 =>
                some (.inl (some (aI x76)), h75))) xT) xT
              else
                cV (E 43 [aR (nob h56 38 7 [0, 4, 4, 0, 0, 0, 0, 0, 0, 0, 0, 0]).1] h72) (fun h77 =>
                (gfI h77 (nob h56 38 7 [0, 4, 4, 0, 0, 0, 0, 0, 0, 0, 0, 0]).1 7 0).bind (fun x78 =>
                some (.inl (some (aI x78)), h77))) xT) xT
            else
              cV (E 44 [aR (nob h56 38 7 [0, 4, 4, 0, 0, 0, 0, 0, 0, 0, 0, 0]).1] h71) (fun h79 =>
              cV (E 69 [aR x6, aR (nob h56 38 7 [0, 4, 4, 0, 0, 0, 0, 0, 0, 0, 0, 0]).1] h79) (fun h80 =>
              (gfI h80 (nob h56 38 7 [0, 4, 4, 0, 0, 0, 0, 0, 0, 0, 0, 0]).1 7 0).bind (fun x81 =>
              some (.inl (some (aI x81)), h80))) xT) xT))) xT) xT))
          else
            (pf h63 (nob h56 38 7 [0, 4, 4, 0, 0, 0, 0, 0, 0, 0, 0, 0]).1 7 11 (aI (0 : Int32))).bind (fun h82 =>
            (gfR h82 o 11 5).bind (fun x83 =>
            cI (E 401 [aR x83, aR (nob h56 38 7 [0, 4, 4, 0, 0, 0, 0, 0, 0, 0, 0, 0]).1] h82) (fun x85 h84 =>
            cI (E 68 [aR x6, aI p2] h84) (fun x87 h86 =>
            (gfI h86 x6 10 10).bind (fun x88 =>
            (pf h86 x6 10 10 (aI (x88 + (1 : Int32)))).bind (fun h89 =>
            if x87 = 0 then
              cI (E 5 [aR x3, aI p2] h89) (fun x91 h90 =>
              if x91 = 0 then
                cV (E 44 [aR (nob h56 38 7 [0, 4, 4, 0, 0, 0, 0, 0, 0, 0, 0, 0]).1] h90) (fun h92 =>
                cV (E 69 [aR x6, aR (nob h56 38 7 [0, 4, 4, 0, 0, 0, 0, 0, 0, 0, 0, 0]).1] h92) (fun h93 =>
                (gfI h93 (nob h56 38 7 [0, 4, 4, 0, 0, 0, 0, 0, 0, 0, 0, 0]).1 7 0).bind (fun x94 =>
                some (.inl (some (aI x94)), h93))) xT) xT
              else
                cV (E 43 [aR (nob h56 38 7 [0, 4, 4, 0, 0, 0, 0, 0, 0, 0, 0, 0]).1] h90) (fun h95 =>
                (gfI h95 (nob h56 38 7 [0, 4, 4, 0, 0, 0, 0, 0, 0, 0, 0, 0]).1 7 0).bind (fun x96 =>
                some (.inl (some (aI x96)), h95))) xT) xT
            else
              cV (E 44 [aR (nob h56 38 7 [0, 4, 4, 0, 0, 0, 0, 0, 0, 0, 0, 0]).1] h89) (fun h97 =>
              cV (E 69 [aR x6, aR (nob h56 38 7 [0, 4, 4, 0, 0, 0, 0, 0, 0, 0, 0, 0]).1] h97) (fun h98 =>
              (gfI h98 (nob h56 38 7 [0, 4, 4, 0, 0, 0, 0, 0, 0, 0, 0, 0]).1 7 0).bind (fun x99 =>
              some (.inl (some (aI x99)), h98))) xT) xT))) xT) xT)))))) xT) xT)) xT
        else
          some (.inl (some (aI (-(5 : Int32)))), h10)) xT)
    else
      if x8 = 0 then
        cV (E 4 [aR x3, aI p3] h7) (fun h100 =>
        (gfR (nob h100 38 7 [0, 4, 4, 0, 0, 0, 0, 0, 0, 0, 0, 0]).2 o 11 5).bind (fun x101 =>
        cI (E 405 [aR x101] (nob h100 38 7 [0, 4, 4, 0, 0, 0, 0, 0, 0, 0, 0, 0]).2) (fun x103 h102 =>
        cV (E 42 [aR (nob h100 38 7 [0, 4, 4, 0, 0, 0, 0, 0, 0, 0, 0, 0]).1, aI x103, aR x3, aR x6, aI p2] h102) (fun h104 =>
        (gfR h104 o 11 1).bind (fun x105 =>
        (gfI h104 x105 2 0).bind (fun x106 =>
        (pf h104 (nob h100 38 7 [0, 4, 4, 0, 0, 0, 0, 0, 0, 0, 0, 0]).1 7 6 (aI x106)).bind (fun h107 =>
        if p3 = (-1 : Int32) then
          (pf h107 (nob h100 38 7 [0, 4, 4, 0, 0, 0, 0, 0, 0, 0, 0, 0]).1 7 11 (aI (1 : Int32))).bind (fun h108 =>
          (gfR h108 o 11 5).bind (fun x109 =>
          cI (E 401 [aR x109, aR (nob h100 38 7 [0, 4, 4, 0, 0, 0, 0, 0, 0, 0, 0, 0]).1] h108) (fun x111 h110 =>
          cI (E 68 [aR x6, aI p2] h110) (fun x113 h112 =>
          (gfI h112 x6 10 10).bind (fun x114 =>
          (pf h112 x6 10 10 (aI (x114 + (1 : Int32)))).bind (fun h115 =>
          if x113 = 0 then
            cI (E 5 [aR x3, aI p2] h115) (fun x117 h116 =>
            if x117 = 0 then
              cV (E 44 [aR (nob h100 38 7 [0, 4, 4, 0, 0, 0, 0, 0, 0, 0, 0, 0]).1] h116) (fun h118 =>
              cV (E 69 [aR x6, aR (nob h100 38 7 [0, 4, 4, 0, 0, 0, 0, 0, 0, 0, 0, 0]).1] h118) (fun h119 =>
              (gfI h119 (nob h100 38 7 [0, 4, 4, 0, 0, 0, 0, 0, 0, 0, 0, 0]).1 7 0).bind (fun x120 =>
              some (.inl (some (aI x120)), h119))) xT) xT
            else
              cV (E 43 [aR (nob h100 38 7 [0, 4, 4, 0, 0, 0, 0, 0, 0, 0, 0, 0]).1] h116) (fun h121 =>
              (gfI h121 (nob h100 38 7 [0, 4, 4, 0, 0, 0, 0, 0, 0, 0, 0, 0]).1 7 0).bind (fun x122 =>
              some (.inl (some (aI x122)), h121))) xT) xT
          else
            cV (E 44 [aR (nob h100 38 7 [0, 4, 4, 0, 0, 0, 0, 0, 0, 0, 0, 0]).1] h115) (fun h123 =>
            cV (E 69 [aR x6, aR (nob h100 38 7 [0, 4, 4, 0, 0, 0, 0, 0, 0, 0, 0, 0]).1] h123) (fun h124 =>
            (gfI h124 (nob h100 38 7 [0, 4, 4, 0, 0, 0, 0, 0, 0, 0, 0, 0]).1 7 0).bind (fun x125 =>
            some (.inl (some (aI x125)), h124))) xT) xT))) xT) xT))
        else
          (pf h107 (nob h100 38 7 [0, 4, 4, 0, 0, 0, 0, 0, 0, 0, 0, 0]).1 7 11 (aI (0 : Int32))).bind (fun h126 =>
          (gfR h126 o 11 5).bind (fun x127 =>
          cI (E 401 [aR x127, aR (nob h100 38 7 [0, 4, 4, 0, 0, 0, 0, 0, 0, 0, 0, 0]).1] h126) (fun x129 h128 =>
          cI (E 68 [aR x6, aI p2] h128) (fun x131 h130 =>
          (gfI h130 x6 10 10).bind (fun x132 =>
          (pf h130 x6 10 10 (aI (x132 + (1 : Int32)))).bind (fun h133 =>
          if x131 = 0 then
            cI (E 5 [aR x3, aI p2] h133) (fun x135 h134 =>
            if x135 = 0 then
              cV (E 44 [aR (nob h100 38 7 [0, 4, 4, 0, 0, 0, 0, 0, 0, 0, 0, 0]).1] h134) (fun h136 =>
              cV (E 69 [aR x6, aR (nob h100 38 7 [0, 4, 4, 0, 0, 0, 0, 0, 0, 0, 0, 0]).1] h136) (fun h137 =>
              (gfI h137 (nob h100 38 7 [0, 4, 4, 0, 0, 0, 0, 0, 0, 0, 0, 0]).1 7 0).bind (fun x138 =>
              some (.inl (some (aI x138)), h137))) xT) xT
            else
              cV (E 43 [aR (nob h100 38 7 [0, 4, 4, 0, 0, 0, 0, 0, 0, 0, 0, 0]).1] h134) (fun h139 =>
              (gfI h139 (nob h100 38 7 [0, 4, 4, 0, 0, 0, 0, 0, 0, 0, 0, 0]).1 7 0).bind (fun x140 =>
              some (.inl (some (aI x140)), h139))) xT) xT
          else
            cV (E 44 [aR (nob h100 38 7 [0, 4, 4, 0, 0, 0, 0, 0, 0, 0, 0, 0]).1] h133) (fun h141 =>
            cV (E 69 [aR x6, aR (nob h100 38 7 [0, 4, 4, 0, 0, 0, 0, 0, 0, 0, 0, 0]).1] h141) (fun h142 =>
            (gfI h142 (nob h100 38 7 [0, 4, 4, 0, 0, 0, 0, 0, 0, 0, 0, 0]).1 7 0).bind (fun x143 =>
            some (.inl (some (aI x143)), h142))) xT) xT))) xT) xT)))))) xT) xT)) xT
      else
        some (.inl (some (aI (-x8))), h7)) xT)) xT))) xT)) rfl rfl rfl (fun R E => rfl)
-- Chipcardhouse.sends(I)I
set_option maxRecDepth 100000 in
theorem lf_97_0 (o : Option (Nat × Nat)) (p0 : Int32) (h : Hp) : Ru 97 0 [(0, aR o), (1, aI p0)] [] h =
    (gfR h o 11 3).bind (fun x1 =>
    cI (Ex 405 [aR x1] h) (fun x3 h2 =>
    cI (Ex 140 [aI p0, aI x3] h2) (fun x5 h4 =>
    cV (Ex 142 [aI x5] h4) (fun h6 =>
    cI (Ex 98 [aR o, aI p0] h6) (fun x8 h7 =>
    some (.inl (some (aI x8)), h7)) xT) xT) xT) xT) :=
  lift_of (k := 11) (rows := code_97) (cuts := cut_97) (hs := hdl_97) (r := fun R E =>
    (gfR h o 11 3).bind (fun x1 =>
    cI (E 405 [aR x1] h) (fun x3 h2 =>
    cI (E 140 [aI p0, aI x3] h2) (fun x5 h4 =>
    cV (E 142 [aI x5] h4) (fun h6 =>
    cI (E 98 [aR o, aI p0] h6) (fun x8 h7 =>
    some (.inl (some (aI x8)), h7)) xT) xT) xT) xT)) rfl rfl rfl (fun R E => rfl)
-- Chipcardhouse.sendBatch(I)I
set_option maxRecDepth 100000 in
theorem lf_98_0 (o : Option (Nat × Nat)) (p0 : Int32) (h : Hp) : Ru 98 0 [(0, aR o), (1, aI p0)] [] h =
    (gfR h o 11 3).bind (fun x1 =>
    cR (Ex 402 [aR x1, aI p0] h) (fun x3 h2 =>
    acc x3 10 h2 (
    Ru 98 17 [(0, aR o), (2, aR x3), (3, aI (0 : Int32)), (4, aI (0 : Int32))] [] h2)) xT) :=
  lift_of (k := 11) (rows := code_98) (cuts := cut_98) (hs := hdl_98) (r := fun R E =>
    (gfR h o 11 3).bind (fun x1 =>
    cR (E 402 [aR x1, aI p0] h) (fun x3 h2 =>
    acc x3 10 h2 (
    R 17 [(0, aR o), (2, aR x3), (3, aI (0 : Int32)), (4, aI (0 : Int32))] [] h2)) xT)) rfl rfl rfl (fun R E => rfl)
set_option maxRecDepth 100000 in
theorem lf_98_17 (o : Option (Nat × Nat)) (v2 : Option (Nat × Nat)) (v3 : Int32) (v4 : Int32) (h : Hp) : Ru 98 17 [(0, aR o), (2, aR v2), (3, aI v3), (4, aI v4)] [] h =
    (gfR h o 11 5).bind (fun x1 =>
    cI (Ex 405 [aR x1] h) (fun x3 h2 =>
    if x3 ≤ v4 then
      some (.inl (some (aI v3)), h2)
    else
      (gfR h2 o 11 5).bind (fun x4 =>
      cR (Ex 402 [aR x4, aI v4] h2) (fun x6 h5 =>
      acc x6 7 h5 (
      (gfR h5 x6 7 2).bind (fun x7 =>
      aq h5 x7 v2 (if x7 = v2 then
        cI (Ex 45 [aR x6] h5) (fun x9 h8 =>
        if x9 = 0 then
          Ru 98 17 [(0, aR o), (2, aR v2), (3, aI v3), (4, aI (v4 + (1 : Int32)))] [] h8
        else
          (gfI h8 x6 7 10).bind (fun x10 =>
          if x10 = 0 then
            (pf h8 x6 7 10 (aI (1 : Int32))).bind (fun h11 =>
            cR (Ex 49 [aR x6] h11) (fun x13 h12 =>
            cV (Ex 70 [aR v2, aR x13] h12) (fun h14 =>
            Ru 98 17 [(0, aR o), (2, aR v2), (3, aI (v3 + (1 : Int32))), (4, aI (v4 + (1 : Int32)))] [] h14) xT) xT)
          else
            Ru 98 17 [(0, aR o), (2, aR v2), (3, aI v3), (4, aI (v4 + (1 : Int32)))] [] h8)) xT
      else
        Ru 98 17 [(0, aR o), (2, aR v2), (3, aI v3), (4, aI (v4 + (1 : Int32)))] [] h5)))) xT)) xT) :=
  lift_of (k := 32) (rows := code_98) (cuts := cut_98) (hs := hdl_98) (r := fun R E =>
    (gfR h o 11 5).bind (fun x1 =>
    cI (E 405 [aR x1] h) (fun x3 h2 =>
    if x3 ≤ v4 then
      some (.inl (some (aI v3)), h2)
    else
      (gfR h2 o 11 5).bind (fun x4 =>
      cR (E 402 [aR x4, aI v4] h2) (fun x6 h5 =>
      acc x6 7 h5 (
      (gfR h5 x6 7 2).bind (fun x7 =>
      aq h5 x7 v2 (if x7 = v2 then
        cI (E 45 [aR x6] h5) (fun x9 h8 =>
        if x9 = 0 then
          R 17 [(0, aR o), (2, aR v2), (3, aI v3), (4, aI (v4 + (1 : Int32)))] [] h8
        else
          (gfI h8 x6 7 10).bind (fun x10 =>
          if x10 = 0 then
            (pf h8 x6 7 10 (aI (1 : Int32))).bind (fun h11 =>
            cR (E 49 [aR x6] h11) (fun x13 h12 =>
            cV (E 70 [aR v2, aR x13] h12) (fun h14 =>
            R 17 [(0, aR o), (2, aR v2), (3, aI (v3 + (1 : Int32))), (4, aI (v4 + (1 : Int32)))] [] h14) xT) xT)
          else
            R 17 [(0, aR o), (2, aR v2), (3, aI v3), (4, aI (v4 + (1 : Int32)))] [] h8)) xT
      else
        R 17 [(0, aR o), (2, aR v2), (3, aI v3), (4, aI (v4 + (1 : Int32)))] [] h5)))) xT)) xT)) rfl rfl rfl (fun R E => rfl)
-- Chipcardhouse.backMoney(III)I
set_option maxRecDepth 100000 in
theorem lf_99_0 (o : Option (Nat × Nat)) (p0 : Int32) (p1 : Int32) (p2 : Int32) (h : Hp) : Ru 99 0 [(0, aR o), (1, aI p0), (2, aI p1), (3, aI p2)] [] h =
    cI (Ex 100 [aR o, aI p0, aI p1, aI p2] h) (fun x2 h1 =>
    cV (Ex 142 [aI x2] h1) (fun h3 =>
    cI (Ex 101 [aR o, aI p0, aI p1, aI p2] h3) (fun x5 h4 =>
    some (.inl (some (aI x5)), h4)) xT) xT) xT :=
  lift_of (k := 13) (rows := code_99) (cuts := cut_99) (hs := hdl_99) (r := fun R E =>
    cI (E 100 [aR o, aI p0, aI p1, aI p2] h) (fun x2 h1 =>
    cV (E 142 [aI x2] h1) (fun h3 =>
    cI (E 101 [aR o, aI p0, aI p1, aI p2] h3) (fun x5 h4 =>
    some (.inl (some (aI x5)), h4)) xT) xT) xT) rfl rfl rfl (fun R E => rfl)
-- Chipcardhouse.refusalOfBack(III)I
set_option maxRecDepth 100000 in
theorem lf_100_0 (o : Option (Nat × Nat)) (p0 : Int32) (p1 : Int32) (p2 : Int32) (h : Hp) : Ru 100 0 [(0, aR o), (1, aI p0), (2, aI p1), (3, aI p2)] [] h =
    (gfR h o 11 3).bind (fun x1 =>
    cI (Ex 405 [aR x1] h) (fun x3 h2 =>
    cI (Ex 139 [aI p0, aI (0 : Int32), aI (x3 - (1 : Int32))] h2) (fun x5 h4 =>
    if x5 = 0 then
      some (.inl (some (aI (1 : Int32))), h4)
    else
      (gfR h4 o 11 5).bind (fun x6 =>
      cI (Ex 405 [aR x6] h4) (fun x8 h7 =>
      cI (Ex 139 [aI p1, aI (0 : Int32), aI (x8 - (1 : Int32))] h7) (fun x10 h9 =>
      if x10 = 0 then
        some (.inl (some (aI (1 : Int32))), h9)
      else
        (gfR h9 o 11 5).bind (fun x11 =>
        cR (Ex 402 [aR x11, aI p1] h9) (fun x13 h12 =>
        acc x13 7 h12 (
        (gfR h12 x13 7 2).bind (fun x14 =>
        (gfI h12 x14 10 0).bind (fun x15 =>
        if x15 = p0 then
          cI (Ex 139 [aI p2, aI (1 : Int32), aI (100000 : Int32)] h12) (fun x17 h16 =>
          if x17 = 0 then
            some (.inl (some (aI (2 : Int32))), h16)
          else
            (gfR h16 o 11 3).bind (fun x18 =>
            cR (Ex 402 [aR x18, aI p0] h16) (fun x20 h19 =>
            acc x20 10 h19 (
            (gfI h19 x20 10 9).bind (fun x21 =>
            if x21 < (100 : Int32) then
              some (.inl (some (aI (0 : Int32))), h19)
            else
              some (.inl (some (aI (3 : Int32))), h19)))) xT)) xT
        else
          some (.inl (some (aI (2 : Int32))), h12))))) xT)) xT) xT)) xT) xT) :=
  lift_of (k := 44) (rows := code_100) (cuts := cut_100) (hs := hdl_100) (r := fun R E =>
    (gfR h o 11 3).bind (fun x1 =>
    cI (E 405 [aR x1] h) (fun x3 h2 =>
    cI (E 139 [aI p0, aI (0 : Int32), aI (x3 - (1 : Int32))] h2) (fun x5 h4 =>
    if x5 = 0 then
      some (.inl (some (aI (1 : Int32))), h4)
    else
      (gfR h4 o 11 5).bind (fun x6 =>
      cI (E 405 [aR x6] h4) (fun x8 h7 =>
      cI (E 139 [aI p1, aI (0 : Int32), aI (x8 - (1 : Int32))] h7) (fun x10 h9 =>
      if x10 = 0 then
        some (.inl (some (aI (1 : Int32))), h9)
      else
        (gfR h9 o 11 5).bind (fun x11 =>
        cR (E 402 [aR x11, aI p1] h9) (fun x13 h12 =>
        acc x13 7 h12 (
        (gfR h12 x13 7 2).bind (fun x14 =>
        (gfI h12 x14 10 0).bind (fun x15 =>
        if x15 = p0 then
          cI (E 139 [aI p2, aI (1 : Int32), aI (100000 : Int32)] h12) (fun x17 h16 =>
          if x17 = 0 then
            some (.inl (some (aI (2 : Int32))), h16)
          else
            (gfR h16 o 11 3).bind (fun x18 =>
            cR (E 402 [aR x18, aI p0] h16) (fun x20 h19 =>
            acc x20 10 h19 (
            (gfI h19 x20 10 9).bind (fun x21 =>
            if x21 < (100 : Int32) then
              some (.inl (some (aI (0 : Int32))), h19)
            else
              some (.inl (some (aI (3 : Int32))), h19)))) xT)) xT
        else
          some (.inl (some (aI (2 : Int32))), h12))))) xT)) xT) xT)) xT) xT)) rfl rfl rfl (fun R E => rfl)
-- Chipcardhouse.sendBack(III)I
set_option maxRecDepth 100000 in
theorem lf_101_0 (o : Option (Nat × Nat)) (p0 : Int32) (p1 : Int32) (p2 : Int32) (h : Hp) : Ru 101 0 [(0, aR o), (1, aI p0), (2, aI p1), (3, aI p2)] [] h =
    (gfR h o 11 3).bind (fun x1 =>
    cR (Ex 402 [aR x1, aI p0] h) (fun x3 h2 =>
    acc x3 10 h2 (
    cV (Ex 40 [aR (nob h2 39 6 [0, 0, 0, 0, 0, 0, 0, 0, 0, 0, 0, 0, 0, 0, 0]).1, aI (4 : Int32), aI p1] (nob h2 39 6 [0, 0, 0, 0, 0, 0, 0, 0, 0, 0, 0, 0, 0, 0, 0]).2) (fun h4 =>
    (pf h4 (nob h2 39 6 [0, 0, 0, 0, 0, 0, 0, 0, 0, 0, 0, 0, 0, 0, 0]).1 6 5 (aI p2)).bind (fun h5 =>
    (gfI h5 x3 10 9).bind (fun x6 =>
    (pf h5 (nob h2 39 6 [0, 0, 0, 0, 0, 0, 0, 0, 0, 0, 0, 0, 0, 0, 0]).1 6 11 (aI x6)).bind (fun h7 =>
    (gfI h7 x3 10 9).bind (fun x8 =>
    (pf h7 x3 10 9 (aI (x8 + (1 : Int32)))).bind (fun h9 =>
    cV (Ex 70 [aR x3, aR (nob h2 39 6 [0, 0, 0, 0, 0, 0, 0, 0, 0, 0, 0, 0, 0, 0, 0]).1] h9) (fun h10 =>
    (gfI h10 (nob h2 39 6 [0, 0, 0, 0, 0, 0, 0, 0, 0, 0, 0, 0, 0, 0, 0]).1 6 11).bind (fun x11 =>
    some (.inl (some (aI x11)), h10))) xT)))))) xT)) xT) :=
  lift_of (k := 32) (rows := code_101) (cuts := cut_101) (hs := hdl_101) (r := fun R E =>
    (gfR h o 11 3).bind (fun x1 =>
    cR (E 402 [aR x1, aI p0] h) (fun x3 h2 =>
    acc x3 10 h2 (
    cV (E 40 [aR (nob h2 39 6 [0, 0, 0, 0, 0, 0, 0, 0, 0, 0, 0, 0, 0, 0, 0]).1, aI (4 : Int32), aI p1] (nob h2 39 6 [0, 0, 0, 0, 0, 0, 0, 0, 0, 0, 0, 0, 0, 0, 0]).2) (fun h4 =>
    (pf h4 (nob h2 39 6 [0, 0, 0, 0, 0, 0, 0, 0, 0, 0, 0, 0, 0, 0, 0]).1 6 5 (aI p2)).bind (fun h5 =>
    (gfI h5 x3 10 9).bind (fun x6 =>
    (pf h5 (nob h2 39 6 [0, 0, 0, 0, 0, 0, 0, 0, 0, 0, 0, 0, 0, 0, 0]).1 6 11 (aI x6)).bind (fun h7 =>
    (gfI h7 x3 10 9).bind (fun x8 =>
    (pf h7 x3 10 9 (aI (x8 + (1 : Int32)))).bind (fun h9 =>
    cV (E 70 [aR x3, aR (nob h2 39 6 [0, 0, 0, 0, 0, 0, 0, 0, 0, 0, 0, 0, 0, 0, 0]).1] h9) (fun h10 =>
    (gfI h10 (nob h2 39 6 [0, 0, 0, 0, 0, 0, 0, 0, 0, 0, 0, 0, 0, 0, 0]).1 6 11).bind (fun x11 =>
    some (.inl (some (aI x11)), h10))) xT)))))) xT)) xT)) rfl rfl rfl (fun R E => rfl)
-- Chipcardhouse.forge(III)I
set_option maxRecDepth 100000 in
theorem lf_102_0 (o : Option (Nat × Nat)) (p0 : Int32) (p1 : Int32) (p2 : Int32) (h : Hp) : Ru 102 0 [(0, aR o), (1, aI p0), (2, aI p1), (3, aI p2)] [] h =
    cI (Ex 103 [aR o, aI p0, aI p1, aI p2] h) (fun x2 h1 =>
    cV (Ex 142 [aI x2] h1) (fun h3 =>
    (gfR h3 o 11 5).bind (fun x4 =>
    cR (Ex 402 [aR x4, aI p1] h3) (fun x6 h5 =>
    acc x6 7 h5 (
    cR (Ex 49 [aR x6] h5) (fun x8 h7 =>
    (pf h7 x8 6 1 (aI p2)).bind (fun h9 =>
    (pf h9 x8 6 7 (aI (0 : Int32))).bind (fun h10 =>
    (pf h10 x8 6 14 (aI (1 : Int32))).bind (fun h11 =>
    (gfR h11 o 11 3).bind (fun x12 =>
    cR (Ex 402 [aR x12, aI p0] h11) (fun x14 h13 =>
    acc x14 10 h13 (
    (gfR h13 x14 10 4).bind (fun x15 =>
    cV (Ex 37 [aR x15, aR x8] h13) (fun h16 =>
    (pf h16 o 11 11 (aI (1 : Int32))).bind (fun h17 =>
    (gfI h17 x8 6 6).bind (fun x18 =>
    some (.inl (some (aI x18)), h17)))) xT))) xT))))) xT)) xT)) xT) xT :=
  lift_of (k := 37) (rows := code_102) (cuts := cut_102) (hs := hdl_102) (r := fun R E =>
    cI (E 103 [aR o, aI p0, aI p1, aI p2] h) (fun x2 h1 =>
    cV (E 142 [aI x2] h1) (fun h3 =>
    (gfR h3 o 11 5).bind (fun x4 =>
    cR (E 402 [aR x4, aI p1] h3) (fun x6 h5 =>
    acc x6 7 h5 (
    cR (E 49 [aR x6] h5) (fun x8 h7 =>
    (pf h7 x8 6 1 (aI p2)).bind (fun h9 =>
    (pf h9 x8 6 7 (aI (0 : Int32))).bind (fun h10 =>
    (pf h10 x8 6 14 (aI (1 : Int32))).bind (fun h11 =>
    (gfR h11 o 11 3).bind (fun x12 =>
    cR (E 402 [aR x12, aI p0] h11) (fun x14 h13 =>
    acc x14 10 h13 (
    (gfR h13 x14 10 4).bind (fun x15 =>
    cV (E 37 [aR x15, aR x8] h13) (fun h16 =>
    (pf h16 o 11 11 (aI (1 : Int32))).bind (fun h17 =>
    (gfI h17 x8 6 6).bind (fun x18 =>
    some (.inl (some (aI x18)), h17)))) xT))) xT))))) xT)) xT)) xT) xT) rfl rfl rfl (fun R E => rfl)
-- Chipcardhouse.refusalOfForging(III)I
set_option maxRecDepth 100000 in
theorem lf_103_0 (o : Option (Nat × Nat)) (p0 : Int32) (p1 : Int32) (p2 : Int32) (h : Hp) : Ru 103 0 [(0, aR o), (1, aI p0), (2, aI p1), (3, aI p2)] [] h =
    (gfR h o 11 3).bind (fun x1 =>
    cI (Ex 405 [aR x1] h) (fun x3 h2 =>
    cI (Ex 139 [aI p0, aI (0 : Int32), aI (x3 - (1 : Int32))] h2) (fun x5 h4 =>
    if x5 = 0 then
      some (.inl (some (aI (1 : Int32))), h4)
    else
      (gfR h4 o 11 5).bind (fun x6 =>
      cI (Ex 405 [aR x6] h4) (fun x8 h7 =>
      cI (Ex 139 [aI p1, aI (0 : Int32), aI (x8 - (1 : Int32))] h7) (fun x10 h9 =>
      if x10 = 0 then
        some (.inl (some (aI (1 : Int32))), h9)
      else
        cI (Ex 139 [aI p2, aI (0 : Int32), aI (999 : Int32)] h9) (fun x12 h11 =>
        if x12 = 0 then
          some (.inl (some (aI (2 : Int32))), h11)
        else
          some (.inl (some (aI (0 : Int32))), h11)) xT) xT) xT)) xT) xT) :=
  lift_of (k := 27) (rows := code_103) (cuts := cut_103) (hs := hdl_103) (r := fun R E =>
    (gfR h o 11 3).bind (fun x1 =>
    cI (E 405 [aR x1] h) (fun x3 h2 =>
    cI (E 139 [aI p0, aI (0 : Int32), aI (x3 - (1 : Int32))] h2) (fun x5 h4 =>
    if x5 = 0 then
      some (.inl (some (aI (1 : Int32))), h4)
    else
      (gfR h4 o 11 5).bind (fun x6 =>
      cI (E 405 [aR x6] h4) (fun x8 h7 =>
      cI (E 139 [aI p1, aI (0 : Int32), aI (x8 - (1 : Int32))] h7) (fun x10 h9 =>
      if x10 = 0 then
        some (.inl (some (aI (1 : Int32))), h9)
      else
        cI (E 139 [aI p2, aI (0 : Int32), aI (999 : Int32)] h9) (fun x12 h11 =>
        if x12 = 0 then
          some (.inl (some (aI (2 : Int32))), h11)
        else
          some (.inl (some (aI (0 : Int32))), h11)) xT) xT) xT)) xT) xT)) rfl rfl rfl (fun R E => rfl)
-- Chipcardhouse.passes(I)I
set_option maxRecDepth 100000 in
theorem lf_104_0 (o : Option (Nat × Nat)) (p0 : Int32) (h : Hp) : Ru 104 0 [(0, aR o), (1, aI p0)] [] h =
    cI (Ex 105 [aR o, aI p0] h) (fun x2 h1 =>
    cV (Ex 142 [aI x2] h1) (fun h3 =>
    cI (Ex 106 [aR o, aI p0] h3) (fun x5 h4 =>
    some (.inl (some (aI x5)), h4)) xT) xT) xT :=
  lift_of (k := 9) (rows := code_104) (cuts := cut_104) (hs := hdl_104) (r := fun R E =>
    cI (E 105 [aR o, aI p0] h) (fun x2 h1 =>
    cV (E 142 [aI x2] h1) (fun h3 =>
    cI (E 106 [aR o, aI p0] h3) (fun x5 h4 =>
    some (.inl (some (aI x5)), h4)) xT) xT) xT) rfl rfl rfl (fun R E => rfl)
-- Chipcardhouse.refusalOfTicks(I)I
set_option maxRecDepth 100000 in
theorem lf_105_0 (o : Option (Nat × Nat)) (p0 : Int32) (h : Hp) : Ru 105 0 [(0, aR o), (1, aI p0)] [] h =
    cI (Ex 139 [aI p0, aI (1 : Int32), aI (200 : Int32)] h) (fun x2 h1 =>
    if x2 = 0 then
      some (.inl (some (aI (2 : Int32))), h1)
    else
      (gfR h1 o 11 1).bind (fun x3 =>
      (gfI h1 x3 2 0).bind (fun x4 =>
      if (x4 + p0) ≤ (3000 : Int32) then
        some (.inl (some (aI (0 : Int32))), h1)
      else
        some (.inl (some (aI (3 : Int32))), h1)))) xT :=
  lift_of (k := 16) (rows := code_105) (cuts := cut_105) (hs := hdl_105) (r := fun R E =>
    cI (E 139 [aI p0, aI (1 : Int32), aI (200 : Int32)] h) (fun x2 h1 =>
    if x2 = 0 then
      some (.inl (some (aI (2 : Int32))), h1)
    else
      (gfR h1 o 11 1).bind (fun x3 =>
      (gfI h1 x3 2 0).bind (fun x4 =>
      if (x4 + p0) ≤ (3000 : Int32) then
        some (.inl (some (aI (0 : Int32))), h1)
      else
        some (.inl (some (aI (3 : Int32))), h1)))) xT) rfl rfl rfl (fun R E => rfl)
-- Chipcardhouse.letTicksPass(I)I
set_option maxRecDepth 100000 in
theorem lf_106_0 (o : Option (Nat × Nat)) (p0 : Int32) (h : Hp) : Ru 106 0 [(0, aR o), (1, aI p0)] [] h =
    Ru 106 2 [(0, aR o), (1, aI p0), (2, aI (0 : Int32))] [] h :=
  lift_of (k := 3) (rows := code_106) (cuts := cut_106) (hs := hdl_106) (r := fun R E =>
    R 2 [(0, aR o), (1, aI p0), (2, aI (0 : Int32))] [] h) rfl rfl rfl (fun R E => rfl)
set_option maxRecDepth 100000 in
theorem lf_106_2 (o : Option (Nat × Nat)) (v1 : Int32) (v2 : Int32) (h : Hp) : Ru 106 2 [(0, aR o), (1, aI v1), (2, aI v2)] [] h =
    if v1 ≤ v2 then
      (gfR h o 11 1).bind (fun x1 =>
      (gfI h x1 2 0).bind (fun x2 =>
      some (.inl (some (aI x2)), h)))
    else
      (gfR h o 11 1).bind (fun x3 =>
      (gfI h x3 2 0).bind (fun x4 =>
      (pf h x3 2 0 (aI (x4 + (1 : Int32)))).bind (fun h5 =>
      Ru 106 22 [(0, aR o), (1, aI v1), (2, aI v2), (3, aI (0 : Int32))] [] h5))) :=
  lift_of (k := 13) (rows := code_106) (cuts := cut_106) (hs := hdl_106) (r := fun R E =>
    if v1 ≤ v2 then
      (gfR h o 11 1).bind (fun x1 =>
      (gfI h x1 2 0).bind (fun x2 =>
      some (.inl (some (aI x2)), h)))
    else
      (gfR h o 11 1).bind (fun x3 =>
      (gfI h x3 2 0).bind (fun x4 =>
      (pf h x3 2 0 (aI (x4 + (1 : Int32)))).bind (fun h5 =>
      R 22 [(0, aR o), (1, aI v1), (2, aI v2), (3, aI (0 : Int32))] [] h5)))) rfl rfl rfl (fun R E => rfl)
set_option maxRecDepth 100000 in
theorem lf_106_22 (o : Option (Nat × Nat)) (v1 : Int32) (v2 : Int32) (v3 : Int32) (h : Hp) : Ru 106 22 [(0, aR o), (1, aI v1), (2, aI v2), (3, aI v3)] [] h =
    (gfR h o 11 3).bind (fun x1 =>
    cI (Ex 405 [aR x1] h) (fun x3 h2 =>
    if x3 ≤ v3 then
      Ru 106 70 [(0, aR o), (1, aI v1), (2, aI v2), (3, aI (0 : Int32))] [] h2
    else
      (gfR h2 o 11 3).bind (fun x4 =>
      cR (Ex 402 [aR x4, aI v3] h2) (fun x6 h5 =>
      acc x6 10 h5 (
      cV (Ex 107 [aR o, aR x6] h5) (fun h7 =>
      (gfR h7 o 11 3).bind (fun x8 =>
      cR (Ex 402 [aR x8, aI v3] h7) (fun x10 h9 =>
      acc x10 10 h9 (
      cV (Ex 71 [aR x10] h9) (fun h11 =>
      Ru 106 22 [(0, aR o), (1, aI v1), (2, aI v2), (3, aI (v3 + (1 : Int32)))] [] h11) xT)) xT)) xT)) xT)) xT) :=
  lift_of (k := 21) (rows := code_106) (cuts := cut_106) (hs := hdl_106) (r := fun R E =>
    (gfR h o 11 3).bind (fun x1 =>
    cI (E 405 [aR x1] h) (fun x3 h2 =>
    if x3 ≤ v3 then
      R 70 [(0, aR o), (1, aI v1), (2, aI v2), (3, aI (0 : Int32))] [] h2
    else
      (gfR h2 o 11 3).bind (fun x4 =>
      cR (E 402 [aR x4, aI v3] h2) (fun x6 h5 =>
      acc x6 10 h5 (
      cV (E 107 [aR o, aR x6] h5) (fun h7 =>
      (gfR h7 o 11 3).bind (fun x8 =>
      cR (E 402 [aR x8, aI v3] h7) (fun x10 h9 =>
      acc x10 10 h9 (
      cV (E 71 [aR x10] h9) (fun h11 =>
      R 22 [(0, aR o), (1, aI v1), (2, aI v2), (3, aI (v3 + (1 : Int32)))] [] h11) xT)) xT)) xT)) xT)) xT)) rfl rfl rfl (fun R E => rfl)
set_option maxRecDepth 100000 in
theorem lf_106_70 (o : Option (Nat × Nat)) (v1 : Int32) (v2 : Int32) (v3 : Int32) (h : Hp) : Ru 106 70 [(0, aR o), (1, aI v1), (2, aI v2), (3, aI v3)] [] h =
    (gfR h o 11 3).bind (fun x1 =>
    cI (Ex 405 [aR x1] h) (fun x3 h2 =>
    if x3 ≤ v3 then
      Ru 106 2 [(0, aR o), (1, aI v1), (2, aI (v2 + (1 : Int32)))] [] h2
    else
      (gfR h2 o 11 3).bind (fun x4 =>
      cR (Ex 402 [aR x4, aI v3] h2) (fun x6 h5 =>
      acc x6 10 h5 (
      cV (Ex 74 [aR x6] h5) (fun h7 =>
      (gfR h7 o 11 3).bind (fun x8 =>
      cR (Ex 402 [aR x8, aI v3] h7) (fun x10 h9 =>
      acc x10 10 h9 (
      cV (Ex 75 [aR x10] h9) (fun h11 =>
      Ru 106 70 [(0, aR o), (1, aI v1), (2, aI v2), (3, aI (v3 + (1 : Int32)))] [] h11) xT)) xT)) xT)) xT)) xT) :=
  lift_of (k := 20) (rows := code_106) (cuts := cut_106) (hs := hdl_106) (r := fun R E =>
    (gfR h o 11 3).bind (fun x1 =>
    cI (E 405 [aR x1] h) (fun x3 h2 =>
    if x3 ≤ v3 then
      R 2 [(0, aR o), (1, aI v1), (2, aI (v2 + (1 : Int32)))] [] h2
    else
      (gfR h2 o 11 3).bind (fun x4 =>
      cR (E 402 [aR x4, aI v3] h2) (fun x6 h5 =>
      acc x6 10 h5 (
      cV (E 74 [aR x6] h5) (fun h7 =>
      (gfR h7 o 11 3).bind (fun x8 =>
      cR (E 402 [aR x8, aI v3] h7) (fun x10 h9 =>
      acc x10 10 h9 (
      cV (E 75 [aR x10] h9) (fun h11 =>
      R 70 [(0, aR o), (1, aI v1), (2, aI v2), (3, aI (v3 + (1 : Int32)))] [] h11) xT)) xT)) xT)) xT)) xT)) rfl rfl rfl (fun R E => rfl)
-- Chipcardhouse.bringUp(LChipcardhouse$Terminal;)V
set_option maxRecDepth 100000 in
theorem lf_107_0 (o : Option (Nat × Nat)) (p0 : Option (Nat × Nat)) (h : Hp) : Ru 107 0 [(0, aR o), (1, aR p0)] [] h =
    (gfR h p0 10 4).bind (fun x1 =>
    (gfI h x1 5 3).bind (fun x2 =>
    Ru 107 13 [(0, aR o), (1, aR p0), (2, aR x1), (3, aI x2), (4, aI (0 : Int32))] [] h)) :=
  lift_of (k := 9) (rows := code_107) (cuts := cut_107) (hs := hdl_107) (r := fun R E =>
    (gfR h p0 10 4).bind (fun x1 =>
    (gfI h x1 5 3).bind (fun x2 =>
    R 13 [(0, aR o), (1, aR p0), (2, aR x1), (3, aI x2), (4, aI (0 : Int32))] [] h))) rfl rfl rfl (fun R E => rfl)
set_option maxRecDepth 100000 in
theorem lf_107_13 (o : Option (Nat × Nat)) (v1 : Option (Nat × Nat)) (v2 : Option (Nat × Nat)) (v3 : Int32) (v4 : Int32) (h : Hp) : Ru 107 13 [(0, aR o), (1, aR v1), (2, aR v2), (3, aI v3), (4, aI v4)] [] h =
    if v3 ≤ v4 then
      cV (Ex 39 [aR v2] h) (fun h1 =>
      some (.inl none, h1)) xT
    else
      (gfR h v2 5 2).bind (fun x2 =>
      cR (Ex 402 [aR x2, aI v4] h) (fun x4 h3 =>
      acc x4 6 h3 (
      (gfI h3 x4 6 12).bind (fun x5 =>
      (gfR h3 o 11 1).bind (fun x6 =>
      (gfI h3 x6 2 0).bind (fun x7 =>
      if x5 = x7 then
        (gfI h3 v1 10 0).bind (fun x8 =>
        (pf h3 x4 6 3 (aI x8)).bind (fun h9 =>
        (gfI h9 x4 6 0).bind (fun x10 =>
        if x10 = (1 : Int32) then
          (gfR h9 v1 10 5).bind (fun x11 =>
          (gfR h9 o 11 7).bind (fun x12 =>
          (gfI h9 x12 9 2).bind (fun x13 =>
          if x13 = 0 then
            (gfR h9 o 11 7).bind (fun x14 =>
            cR (Ex 64 [aR x14, aR x4] h9) (fun x16 h15 =>
            cV (Ex 37 [aR x11, aR x16] h15) (fun h17 =>
            Ru 107 13 [(0, aR o), (1, aR v1), (2, aR v2), (3, aI v3), (4, aI (v4 + (1 : Int32)))] [] h17) xT) xT)
          else
            (gfR h9 o 11 6).bind (fun x18 =>
            cR (Ex 19 [aR x18, aR x4] h9) (fun x20 h19 =>
            cV (Ex 37 [aR x11, aR x20] h19) (fun h21 =>
            Ru 107 13 [(0, aR o), (1, aR v1), (2, aR v2), (3, aI v3), (4, aI (v4 + (1 : Int32)))] [] h21) xT) xT))))
        else
          (gfR h9 o 11 7).bind (fun x22 =>
          (gfI h9 x22 9 2).bind (fun x23 =>
          if x23 = 0 then
            Ru 107 13 [(0, aR o), (1, aR v1), (2, aR v2), (3, aI v3), (4, aI (v4 + (1 : Int32)))] [] h9
          else
            (gfR h9 o 11 6).bind (fun x24 =>
            cV (Ex 18 [aR x24, aR x4, aR v1] h9) (fun h25 =>
            (gfR h25 v1 10 5).bind (fun x26 =>
            cV (Ex 37 [aR x26, aR x4] h25) (fun h27 =>
            Ru 107 13 [(0, aR o), (1, aR v1), (2, aR v2), (3, aI v3), (4, aI (v4 + (1 : Int32)))] [] h27) xT)) xT))))))
      else
        Ru 107 13 [(0, aR o), (1, aR v1), (2, aR v2), (3, aI v3), (4, aI (v4 + (1 : Int32)))] [] h3))))) xT) :=
  lift_of (k := 39) (rows := code_107) (cuts := cut_107) (hs := hdl_107) (r := fun R E =>
    if v3 ≤ v4 then
      cV (E 39 [aR v2] h) (fun h1 =>
      some (.inl none, h1)) xT
    else
      (gfR h v2 5 2).bind (fun x2 =>
      cR (E 402 [aR x2, aI v4] h) (fun x4 h3 =>
      acc x4 6 h3 (
      (gfI h3 x4 6 12).bind (fun x5 =>
      (gfR h3 o 11 1).bind (fun x6 =>
      (gfI h3 x6 2 0).bind (fun x7 =>
      if x5 = x7 then
        (gfI h3 v1 10 0).bind (fun x8 =>
        (pf h3 x4 6 3 (aI x8)).bind (fun h9 =>
        (gfI h9 x4 6 0).bind (fun x10 =>
        if x10 = (1 : Int32) then
          (gfR h9 v1 10 5).bind (fun x11 =>
          (gfR h9 o 11 7).bind (fun x12 =>
          (gfI h9 x12 9 2).bind (fun x13 =>
          if x13 = 0 then
            (gfR h9 o 11 7).bind (fun x14 =>
            cR (E 64 [aR x14, aR x4] h9) (fun x16 h15 =>
            cV (E 37 [aR x11, aR x16] h15) (fun h17 =>
            R 13 [(0, aR o), (1, aR v1), (2, aR v2), (3, aI v3), (4, aI (v4 + (1 : Int32)))] [] h17) xT) xT)
          else
            (gfR h9 o 11 6).bind (fun x18 =>
            cR (E 19 [aR x18, aR x4] h9) (fun x20 h19 =>
            cV (E 37 [aR x11, aR x20] h19) (fun h21 =>
            R 13 [(0, aR o), (1, aR v1), (2, aR v2), (3, aI v3), (4, aI (v4 + (1 : Int32)))] [] h21) xT) xT))))
        else
          (gfR h9 o 11 7).bind (fun x22 =>
          (gfI h9 x22 9 2).bind (fun x23 =>
          if x23 = 0 then
            R 13 [(0, aR o), (1, aR v1), (2, aR v2), (3, aI v3), (4, aI (v4 + (1 : Int32)))] [] h9
          else
            (gfR h9 o 11 6).bind (fun x24 =>
            cV (E 18 [aR x24, aR x4, aR v1] h9) (fun h25 =>
            (gfR h25 v1 10 5).bind (fun x26 =>
            cV (E 37 [aR x26, aR x4] h25) (fun h27 =>
            R 13 [(0, aR o), (1, aR v1), (2, aR v2), (3, aI v3), (4, aI (v4 + (1 : Int32)))] [] h27) xT)) xT))))))
      else
        R 13 [(0, aR o), (1, aR v1), (2, aR v2), (3, aI v3), (4, aI (v4 + (1 : Int32)))] [] h3))))) xT)) rfl rfl rfl (fun R E => rfl)
-- Chipcardhouse.faults(IIII)I
set_option maxRecDepth 100000 in
theorem lf_108_0 (o : Option (Nat × Nat)) (p0 : Int32) (p1 : Int32) (p2 : Int32) (p3 : Int32) (h : Hp) : Ru 108 0 [(0, aR o), (1, aI p0), (2, aI p1), (3, aI p2), (4, aI p3)] [] h =
    cI (Ex 109 [aR o, aI p0, aI p1, aI p2, aI p3] h) (fun x2 h1 =>
    cV (Ex 142 [aI x2] h1) (fun h3 =>
    cI (Ex 110 [aR o, aI p0, aI p1, aI p2, aI p3] h3) (fun x5 h4 =>
    some (.inl (some (aI x5)), h4)) xT) xT) xT :=
  lift_of (k := 15) (rows := code_108) (cuts := cut_108) (hs := hdl_108) (r := fun R E =>
    cI (E 109 [aR o, aI p0, aI p1, aI p2, aI p3] h) (fun x2 h1 =>
    cV (E 142 [aI x2] h1) (fun h3 =>
    cI (E 110 [aR o, aI p0, aI p1, aI p2, aI p3] h3) (fun x5 h4 =>
    some (.inl (some (aI x5)), h4)) xT) xT) xT) rfl rfl rfl (fun R E => rfl)
-- Chipcardhouse.refusalOfFaults(IIII)I
set_option maxRecDepth 100000 in
theorem lf_109_0 (o : Option (Nat × Nat)) (p0 : Int32) (p1 : Int32) (p2 : Int32) (p3 : Int32) (h : Hp) : Ru 109 0 [(0, aR o), (1, aI p0), (2, aI p1), (3, aI p2), (4, aI p3)] [] h =
    (gfR h o 11 3).bind (fun x1 =>
    cI (Ex 405 [aR x1] h) (fun x3 h2 =>
    cI (Ex 139 [aI p0, aI (0 : Int32), aI (x3 - (1 : Int32))] h2) (fun x5 h4 =>
    if x5 = 0 then
      some (.inl (some (aI (1 : Int32))), h4)
    else
      cI (Ex 139 [aI p1, aI (0 : Int32), aI (1 : Int32)] h4) (fun x7 h6 =>
      if x7 = 0 then
        if (0 : Int32) = 0 then
          some (.inl (some (aI (2 : Int32))), h6)
        else
          some (.inl (some (aI (0 : Int32))), h6)
      else
        cI (Ex 139 [aI p2, aI (0 : Int32), aI (2 : Int32)] h6) (fun x9 h8 =>
        if x9 = 0 then
          if (0 : Int32) = 0 then
            some (.inl (some (aI (2 : Int32))), h8)
          else
            some (.inl (some (aI (0 : Int32))), h8)
        else
          cI (Ex 139 [aI p3, aI (0 : Int32), aI (100 : Int32)] h8) (fun x11 h10 =>
          if x11 = 0 then
            if (0 : Int32) = 0 then
              some (.inl (some (aI (2 : Int32))), h10)
            else
              some (.inl (some (aI (0 : Int32))), h10)
          else
            if (1 : Int32) = 0 then
              some (.inl (some (aI (2 : Int32))), h10)
            else
              some (.inl (some (aI (0 : Int32))), h10)) xT) xT) xT) xT) xT) :=
  lift_of (k := 33) (rows := code_109) (cuts := cut_109) (hs := hdl_109) (r := fun R E =>
    (gfR h o 11 3).bind (fun x1 =>
    cI (E 405 [aR x1] h) (fun x3 h2 =>
    cI (E 139 [aI p0, aI (0 : Int32), aI (x3 - (1 : Int32))] h2) (fun x5 h4 =>
    if x5 = 0 then
      some (.inl (some (aI (1 : Int32))), h4)
    else
      cI (E 139 [aI p1, aI (0 : Int32), aI (1 : Int32)] h4) (fun x7 h6 =>
      if x7 = 0 then
        if (0 : Int32) = 0 then
          some (.inl (some (aI (2 : Int32))), h6)
        else
          some (.inl (some (aI (0 : Int32))), h6)
      else
        cI (E 139 [aI p2, aI (0 : Int32), aI (2 : Int32)] h6) (fun x9 h8 =>
        if x9 = 0 then
          if (0 : Int32) = 0 then
            some (.inl (some (aI (2 : Int32))), h8)
          else
            some (.inl (some (aI (0 : Int32))), h8)
        else
          cI (E 139 [aI p3, aI (0 : Int32), aI (100 : Int32)] h8) (fun x11 h10 =>
          if x11 = 0 then
            if (0 : Int32) = 0 then
              some (.inl (some (aI (2 : Int32))), h10)
            else
              some (.inl (some (aI (0 : Int32))), h10)
          else
            if (1 : Int32) = 0 then
              some (.inl (some (aI (2 : Int32))), h10)
            else
              some (.inl (some (aI (0 : Int32))), h10)) xT) xT) xT) xT) xT)) rfl rfl rfl (fun R E => rfl)
-- Chipcardhouse.addFaults(IIII)I
set_option maxRecDepth 100000 in
theorem lf_110_0 (o : Option (Nat × Nat)) (p0 : Int32) (p1 : Int32) (p2 : Int32) (p3 : Int32) (h : Hp) : Ru 110 0 [(0, aR o), (1, aI p0), (2, aI p1), (3, aI p2), (4, aI p3)] [] h =
    (gfR h o 11 3).bind (fun x1 =>
    cR (Ex 402 [aR x1, aI p0] h) (fun x3 h2 =>
    acc x3 10 h2 (
    if p1 = 0 then
      (gfR h2 x3 10 4).bind (fun x4 =>
      (gfR h2 x4 5 1).bind (fun x5 =>
      (gaI h2 x5 1000 p2).bind (fun x6 =>
      (pa h2 x5 1000 p2 (aI (x6 + p3))).bind (fun h7 =>
      (gaI h7 x5 1000 p2).bind (fun x8 =>
      some (.inl (some (aI x8)), h7))))))
    else
      (gfR h2 x3 10 5).bind (fun x9 =>
      (gfR h2 x9 5 1).bind (fun x10 =>
      (gaI h2 x10 1000 p2).bind (fun x11 =>
      (pa h2 x10 1000 p2 (aI (x11 + p3))).bind (fun h12 =>
      (gaI h12 x10 1000 p2).bind (fun x13 =>
      some (.inl (some (aI x13)), h12)))))))) xT) :=
  lift_of (k := 25) (rows := code_110) (cuts := cut_110) (hs := hdl_110) (r := fun R E =>
    (gfR h o 11 3).bind (fun x1 =>
    cR (E 402 [aR x1, aI p0] h) (fun x3 h2 =>
    acc x3 10 h2 (
    if p1 = 0 then
      (gfR h2 x3 10 4).bind (fun x4 =>
      (gfR h2 x4 5 1).bind (fun x5 =>
      (gaI h2 x5 1000 p2).bind (fun x6 =>
      (pa h2 x5 1000 p2 (aI (x6 + p3))).bind (fun h7 =>
      (gaI h7 x5 1000 p2).bind (fun x8 =>
      some (.inl (some (aI x8)), h7))))))
    else
      (gfR h2 x3 10 5).bind (fun x9 =>
      (gfR h2 x9 5 1).bind (fun x10 =>
      (gaI h2 x10 1000 p2).bind (fun x11 =>
      (pa h2 x10 1000 p2 (aI (x11 + p3))).bind (fun h12 =>
      (gaI h12 x10 1000 p2).bind (fun x13 =>
      some (.inl (some (aI x13)), h12)))))))) xT)) rfl rfl rfl (fun R E => rfl)
-- Chipcardhouse.setOpen(Z)I
set_option maxRecDepth 100000 in
theorem lf_111_0 (o : Option (Nat × Nat)) (p0 : Int32) (h : Hp) : Ru 111 0 [(0, aR o), (1, aI p0)] [] h =
    cI (Ex 112 [aR o, aI p0] h) (fun x2 h1 =>
    some (.inl (some (aI x2)), h1)) xT :=
  lift_of (k := 5) (rows := code_111) (cuts := cut_111) (hs := hdl_111) (r := fun R E =>
    cI (E 112 [aR o, aI p0] h) (fun x2 h1 =>
    some (.inl (some (aI x2)), h1)) xT) rfl rfl rfl (fun R E => rfl)
-- Chipcardhouse.openOrClose(Z)I
set_option maxRecDepth 100000 in
theorem lf_112_0 (o : Option (Nat × Nat)) (p0 : Int32) (h : Hp) : Ru 112 0 [(0, aR o), (1, aI p0)] [] h =
    (gfR h o 11 7).bind (fun x1 =>
    gz p0 ((pf h x1 9 2 (aI p0)).bind (fun h2 =>
    if p0 = 0 then
      some (.inl (some (aI (0 : Int32))), h2)
    else
      (gfR h2 o 11 7).bind (fun x3 =>
      (gfR h2 x3 9 0).bind (fun x4 =>
      cI (Ex 405 [aR x4] h2) (fun x6 h5 =>
      Ru 112 30 [(0, aR o), (2, aR x4), (3, aI x6), (4, aI (0 : Int32))] [] h5) xT))))) :=
  lift_of (k := 16) (rows := code_112) (cuts := cut_112) (hs := hdl_112) (r := fun R E =>
    (gfR h o 11 7).bind (fun x1 =>
    gz p0 ((pf h x1 9 2 (aI p0)).bind (fun h2 =>
    if p0 = 0 then
      some (.inl (some (aI (0 : Int32))), h2)
    else
      (gfR h2 o 11 7).bind (fun x3 =>
      (gfR h2 x3 9 0).bind (fun x4 =>
      cI (E 405 [aR x4] h2) (fun x6 h5 =>
      R 30 [(0, aR o), (2, aR x4), (3, aI x6), (4, aI (0 : Int32))] [] h5) xT)))))) rfl rfl rfl (fun R E => rfl)
set_option maxRecDepth 100000 in
theorem lf_112_30 (o : Option (Nat × Nat)) (v2 : Option (Nat × Nat)) (v3 : Int32) (v4 : Int32) (h : Hp) : Ru 112 30 [(0, aR o), (2, aR v2), (3, aI v3), (4, aI v4)] [] h =
    cI (Ex 405 [aR v2] h) (fun x2 h1 =>
    if x2 ≤ v4 then
      cV (Ex 407 [aR v2] h1) (fun h3 =>
      some (.inl (some (aI v3)), h3)) xT
    else
      (gfR h1 o 11 6).bind (fun x4 =>
      cR (Ex 402 [aR v2, aI v4] h1) (fun x6 h5 =>
      acc x6 6 h5 (
      cV (Ex 21 [aR x4, aR x6] h5) (fun h7 =>
      Ru 112 30 [(0, aR o), (2, aR v2), (3, aI v3), (4, aI (v4 + (1 : Int32)))] [] h7) xT)) xT)) xT :=
  lift_of (k := 14) (rows := code_112) (cuts := cut_112) (hs := hdl_112) (r := fun R E =>
    cI (E 405 [aR v2] h) (fun x2 h1 =>
    if x2 ≤ v4 then
      cV (E 407 [aR v2] h1) (fun h3 =>
      some (.inl (some (aI v3)), h3)) xT
    else
      (gfR h1 o 11 6).bind (fun x4 =>
      cR (E 402 [aR v2, aI v4] h1) (fun x6 h5 =>
      acc x6 6 h5 (
      cV (E 21 [aR x4, aR x6] h5) (fun h7 =>
      R 30 [(0, aR o), (2, aR v2), (3, aI v3), (4, aI (v4 + (1 : Int32)))] [] h7) xT)) xT)) xT) rfl rfl rfl (fun R E => rfl)
-- Chipcardhouse.tells(II)I
set_option maxRecDepth 100000 in
theorem lf_113_0 (o : Option (Nat × Nat)) (p0 : Int32) (p1 : Int32) (h : Hp) : Ru 113 0 [(0, aR o), (1, aI p0), (2, aI p1)] [] h =
    cI (Ex 114 [aR o, aI p0, aI p1] h) (fun x2 h1 =>
    cV (Ex 142 [aI x2] h1) (fun h3 =>
    cI (Ex 115 [aR o, aI p0, aI p1] h3) (fun x5 h4 =>
    some (.inl (some (aI x5)), h4)) xT) xT) xT :=
  lift_of (k := 11) (rows := code_113) (cuts := cut_113) (hs := hdl_113) (r := fun R E =>
    cI (E 114 [aR o, aI p0, aI p1] h) (fun x2 h1 =>
    cV (E 142 [aI x2] h1) (fun h3 =>
    cI (E 115 [aR o, aI p0, aI p1] h3) (fun x5 h4 =>
    some (.inl (some (aI x5)), h4)) xT) xT) xT) rfl rfl rfl (fun R E => rfl)
-- Chipcardhouse.refusalOfTelling(II)I
set_option maxRecDepth 100000 in
theorem lf_114_0 (o : Option (Nat × Nat)) (p0 : Int32) (p1 : Int32) (h : Hp) : Ru 114 0 [(0, aR o), (1, aI p0), (2, aI p1)] [] h =
    (gfR h o 11 4).bind (fun x1 =>
    cI (Ex 405 [aR x1] h) (fun x3 h2 =>
    cI (Ex 139 [aI p0, aI (0 : Int32), aI (x3 - (1 : Int32))] h2) (fun x5 h4 =>
    if x5 = 0 then
      some (.inl (some (aI (1 : Int32))), h4)
    else
      cI (Ex 139 [aI p1, aI (1 : Int32), aI (3 : Int32)] h4) (fun x7 h6 =>
      if x7 = 0 then
        some (.inl (some (aI (2 : Int32))), h6)
      else
        some (.inl (some (aI (0 : Int32))), h6)) xT) xT) xT) :=
  lift_of (k := 18) (rows := code_114) (cuts := cut_114) (hs := hdl_114) (r := fun R E =>
    (gfR h o 11 4).bind (fun x1 =>
    cI (E 405 [aR x1] h) (fun x3 h2 =>
    cI (E 139 [aI p0, aI (0 : Int32), aI (x3 - (1 : Int32))] h2) (fun x5 h4 =>
    if x5 = 0 then
      some (.inl (some (aI (1 : Int32))), h4)
    else
      cI (E 139 [aI p1, aI (1 : Int32), aI (3 : Int32)] h4) (fun x7 h6 =>
      if x7 = 0 then
        some (.inl (some (aI (2 : Int32))), h6)
      else
        some (.inl (some (aI (0 : Int32))), h6)) xT) xT) xT)) rfl rfl rfl (fun R E => rfl)
-- Chipcardhouse.tellCard(II)I
set_option maxRecDepth 100000 in
theorem lf_115_0 (o : Option (Nat × Nat)) (p0 : Int32) (p1 : Int32) (h : Hp) : Ru 115 0 [(0, aR o), (1, aI p0), (2, aI p1)] [] h =
    (gfR h o 11 4).bind (fun x1 =>
    cR (Ex 402 [aR x1, aI p0] h) (fun x3 h2 =>
    acc x3 1 h2 (
    (gfI h2 x3 1 13).bind (fun x4 =>
    (pf h2 x3 1 13 (aI (x4 ||| ((1 : Int32) <<< (p1 &&& 31))))).bind (fun h5 =>
    (gfI h5 x3 1 13).bind (fun x6 =>
    cI (Ex 317 [aI x6] h5) (fun x8 h7 =>
    some (.inl (some (aI x8)), h7)) xT))))) xT) :=
  lift_of (k := 19) (rows := code_115) (cuts := cut_115) (hs := hdl_115) (r := fun R E =>
    (gfR h o 11 4).bind (fun x1 =>
    cR (E 402 [aR x1, aI p0] h) (fun x3 h2 =>
    acc x3 1 h2 (
    (gfI h2 x3 1 13).bind (fun x4 =>
    (pf h2 x3 1 13 (aI (x4 ||| ((1 : Int32) <<< (p1 &&& 31))))).bind (fun h5 =>
    (gfI h5 x3 1 13).bind (fun x6 =>
    cI (E 317 [aI x6] h5) (fun x8 h7 =>
    some (.inl (some (aI x8)), h7)) xT))))) xT)) rfl rfl rfl (fun R E => rfl)
-- Chipcardhouse.stolen(I)Z
set_option maxRecDepth 100000 in
theorem lf_116_0 (o : Option (Nat × Nat)) (p0 : Int32) (h : Hp) : Ru 116 0 [(0, aR o), (1, aI p0)] [] h =
    (gfR h o 11 4).bind (fun x1 =>
    cI (Ex 405 [aR x1] h) (fun x3 h2 =>
    cI (Ex 140 [aI p0, aI x3] h2) (fun x5 h4 =>
    cV (Ex 142 [aI x5] h4) (fun h6 =>
    cI (Ex 117 [aR o, aI p0] h6) (fun x8 h7 =>
    gz x8 (some (.inl (some (aI x8)), h7))) xT) xT) xT) xT) :=
  lift_of (k := 11) (rows := code_116) (cuts := cut_116) (hs := hdl_116) (r := fun R E =>
    (gfR h o 11 4).bind (fun x1 =>
    cI (E 405 [aR x1] h) (fun x3 h2 =>
    cI (E 140 [aI p0, aI x3] h2) (fun x5 h4 =>
    cV (E 142 [aI x5] h4) (fun h6 =>
    cI (E 117 [aR o, aI p0] h6) (fun x8 h7 =>
    gz x8 (some (.inl (some (aI x8)), h7))) xT) xT) xT) xT)) rfl rfl rfl (fun R E => rfl)
-- Chipcardhouse.reportStolen(I)Z
set_option maxRecDepth 100000 in
theorem lf_117_0 (o : Option (Nat × Nat)) (p0 : Int32) (h : Hp) : Ru 117 0 [(0, aR o), (1, aI p0)] [] h =
    (gfR h o 11 4).bind (fun x1 =>
    cR (Ex 402 [aR x1, aI p0] h) (fun x3 h2 =>
    acc x3 1 h2 (
    (gfI h2 x3 1 12).bind (fun x4 =>
    (pf h2 x3 1 12 (aI (1 : Int32))).bind (fun h5 =>
    gz x4 (some (.inl (some (aI x4)), h5)))))) xT) :=
  lift_of (k := 15) (rows := code_117) (cuts := cut_117) (hs := hdl_117) (r := fun R E =>
    (gfR h o 11 4).bind (fun x1 =>
    cR (E 402 [aR x1, aI p0] h) (fun x3 h2 =>
    acc x3 1 h2 (
    (gfI h2 x3 1 12).bind (fun x4 =>
    (pf h2 x3 1 12 (aI (1 : Int32))).bind (fun h5 =>
    gz x4 (some (.inl (some (aI x4)), h5)))))) xT)) rfl rfl rfl (fun R E => rfl)
-- Chipcardhouse.freeze(IZ)Z
set_option maxRecDepth 100000 in
theorem lf_118_0 (o : Option (Nat × Nat)) (p0 : Int32) (p1 : Int32) (h : Hp) : Ru 118 0 [(0, aR o), (1, aI p0), (2, aI p1)] [] h =
    (gfR h o 11 2).bind (fun x1 =>
    cI (Ex 405 [aR x1] h) (fun x3 h2 =>
    cI (Ex 140 [aI p0, aI x3] h2) (fun x5 h4 =>
    cV (Ex 142 [aI x5] h4) (fun h6 =>
    cI (Ex 119 [aR o, aI p0, aI p1] h6) (fun x8 h7 =>
    gz x8 (some (.inl (some (aI x8)), h7))) xT) xT) xT) xT) :=
  lift_of (k := 12) (rows := code_118) (cuts := cut_118) (hs := hdl_118) (r := fun R E =>
    (gfR h o 11 2).bind (fun x1 =>
    cI (E 405 [aR x1] h) (fun x3 h2 =>
    cI (E 140 [aI p0, aI x3] h2) (fun x5 h4 =>
    cV (E 142 [aI x5] h4) (fun h6 =>
    cI (E 119 [aR o, aI p0, aI p1] h6) (fun x8 h7 =>
    gz x8 (some (.inl (some (aI x8)), h7))) xT) xT) xT) xT)) rfl rfl rfl (fun R E => rfl)
-- Chipcardhouse.setFrozen(IZ)Z
set_option maxRecDepth 100000 in
theorem lf_119_0 (o : Option (Nat × Nat)) (p0 : Int32) (p1 : Int32) (h : Hp) : Ru 119 0 [(0, aR o), (1, aI p0), (2, aI p1)] [] h =
    (gfR h o 11 2).bind (fun x1 =>
    cR (Ex 402 [aR x1, aI p0] h) (fun x3 h2 =>
    acc x3 0 h2 (
    (gfI h2 x3 0 2).bind (fun x4 =>
    gz p1 ((pf h2 x3 0 2 (aI p1)).bind (fun h5 =>
    gz x4 (some (.inl (some (aI x4)), h5))))))) xT) :=
  lift_of (k := 15) (rows := code_119) (cuts := cut_119) (hs := hdl_119) (r := fun R E =>
    (gfR h o 11 2).bind (fun x1 =>
    cR (E 402 [aR x1, aI p0] h) (fun x3 h2 =>
    acc x3 0 h2 (
    (gfI h2 x3 0 2).bind (fun x4 =>
    gz p1 ((pf h2 x3 0 2 (aI p1)).bind (fun h5 =>
    gz x4 (some (.inl (some (aI x4)), h5))))))) xT)) rfl rfl rfl (fun R E => rfl)
-- Chipcardhouse.dispute(I)I
set_option maxRecDepth 100000 in
theorem lf_120_0 (o : Option (Nat × Nat)) (p0 : Int32) (h : Hp) : Ru 120 0 [(0, aR o), (1, aI p0)] [] h =
    cI (Ex 121 [aR o, aI p0] h) (fun x2 h1 =>
    cV (Ex 142 [aI x2] h1) (fun h3 =>
    cI (Ex 122 [aR o, aI p0] h3) (fun x5 h4 =>
    some (.inl (some (aI x5)), h4)) xT) xT) xT :=
  lift_of (k := 9) (rows := code_120) (cuts := cut_120) (hs := hdl_120) (r := fun R E =>
    cI (E 121 [aR o, aI p0] h) (fun x2 h1 =>
    cV (E 142 [aI x2] h1) (fun h3 =>
    cI (E 122 [aR o, aI p0] h3) (fun x5 h4 =>
    some (.inl (some (aI x5)), h4)) xT) xT) xT) rfl rfl rfl (fun R E => rfl)
-- Chipcardhouse.refusalOfDispute(I)I
set_option maxRecDepth 100000 in
theorem lf_121_0 (o : Option (Nat × Nat)) (p0 : Int32) (h : Hp) : Ru 121 0 [(0, aR o), (1, aI p0)] [] h =
    (gfR h o 11 5).bind (fun x1 =>
    cI (Ex 405 [aR x1] h) (fun x3 h2 =>
    cI (Ex 139 [aI p0, aI (0 : Int32), aI (x3 - (1 : Int32))] h2) (fun x5 h4 =>
    if x5 = 0 then
      some (.inl (some (aI (1 : Int32))), h4)
    else
      (gfR h4 o 11 6).bind (fun x6 =>
      cR (Ex 14 [aR x6, aI p0] h4) (fun x8 h7 =>
      (gfR h7 o 11 5).bind (fun x9 =>
      cR (Ex 402 [aR x9, aI p0] h7) (fun x11 h10 =>
      acc x11 7 h10 (
      (gfI h10 x11 7 11).bind (fun x12 =>
      if x12 = 0 then
        if (0 : Int32) = 0 then
          some (.inl (some (aI (3 : Int32))), h10)
        else
          some (.inl (some (aI (0 : Int32))), h10)
      else
        if x8 = none then
          if (0 : Int32) = 0 then
            some (.inl (some (aI (3 : Int32))), h10)
          else
            some (.inl (some (aI (0 : Int32))), h10)
        else
          cI (Ex 29 [aR x8] h10) (fun x14 h13 =>
          if x14 = 0 then
            if (0 : Int32) = 0 then
              some (.inl (some (aI (3 : Int32))), h13)
            else
              some (.inl (some (aI (0 : Int32))), h13)
          else
            (gfI h13 x8 4 7).bind (fun x15 =>
            if x15 = 0 then
              (gfR h13 o 11 1).bind (fun x16 =>
              (gfI h13 x16 2 1).bind (fun x17 =>
              (gfI h13 x8 4 12).bind (fun x18 =>
              if (1 : Int32) < (x17 - x18) then
                if (0 : Int32) = 0 then
                  some (.inl (some (aI (3 : Int32))), h13)
                else
                  some (.inl (some (aI (0 : Int32))), h13)
              else
                if (1 : Int32) = 0 then
                  some (.inl (some (aI (3 : Int32))), h13)
                else
                  some (.inl (some (aI (0 : Int32))), h13))))
            else
              if (0 : Int32) = 0 then
                some (.inl (some (aI (3 : Int32))), h13)
              else
                some (.inl (some (aI (0 : Int32))), h13))) xT))) xT)) xT)) xT) xT) :=
  lift_of (k := 46) (rows := code_121) (cuts := cut_121) (hs := hdl_121) (r := fun R E =>
    (gfR h o 11 5).bind (fun x1 =>
    cI (E 405 [aR x1] h) (fun x3 h2 =>
    cI (E 139 [aI p0, aI (0 : Int32), aI (x3 - (1 : Int32))] h2) (fun x5 h4 =>
    if x5 = 0 then
      some (.inl (some (aI (1 : Int32))), h4)
    else
      (gfR h4 o 11 6).bind (fun x6 =>
      cR (E 14 [aR x6, aI p0] h4) (fun x8 h7 =>
      (gfR h7 o 11 5).bind (fun x9 =>
      cR (E 402 [aR x9, aI p0] h7) (fun x11 h10 =>
      acc x11 7 h10 (
      (gfI h10 x11 7 11).bind (fun x12 =>
      if x12 = 0 then
        if (0 : Int32) = 0 then
          some (.inl (some (aI (3 : Int32))), h10)
        else
          some (.inl (some (aI (0 : Int32))), h10)
      else
        if x8 = none then
          if (0 : Int32) = 0 then
            some (.inl (some (aI (3 : Int32))), h10)
          else
            some (.inl (some (aI (0 : Int32))), h10)
        else
          cI (E 29 [aR x8] h10) (fun x14 h13 =>
          if x14 = 0 then
            if (0 : Int32) = 0 then
              some (.inl (some (aI (3 : Int32))), h13)
            else
              some (.inl (some (aI (0 : Int32))), h13)
          else
            (gfI h13 x8 4 7).bind (fun x15 =>
            if x15 = 0 then
              (gfR h13 o 11 1).bind (fun x16 =>
              (gfI h13 x16 2 1).bind (fun x17 =>
              (gfI h13 x8 4 12).bind (fun x18 =>
              if (1 : Int32) < (x17 - x18) then
                if (0 : Int32) = 0 then
                  some (.inl (some (aI (3 : Int32))), h13)
                else
                  some (.inl (some (aI (0 : Int32))), h13)
              else
                if (1 : Int32) = 0 then
                  some (.inl (some (aI (3 : Int32))), h13)
                else
                  some (.inl (some (aI (0 : Int32))), h13))))
            else
              if (0 : Int32) = 0 then
                some (.inl (some (aI (3 : Int32))), h13)
              else
                some (.inl (some (aI (0 : Int32))), h13))) xT))) xT)) xT)) xT) xT)) rfl rfl rfl (fun R E => rfl)
-- Chipcardhouse.giveDisputedBack(I)I
set_option maxRecDepth 100000 in
theorem lf_122_0 (o : Option (Nat × Nat)) (p0 : Int32) (h : Hp) : Ru 122 0 [(0, aR o), (1, aI p0)] [] h =
    (gfR h o 11 6).bind (fun x1 =>
    cR (Ex 14 [aR x1, aI p0] h) (fun x3 h2 =>
    if x3 = none then
      some (.inl (some (aI (0 : Int32))), h2)
    else
      (gfI h2 x3 4 11).bind (fun x4 =>
      (pf h2 x3 4 7 (aI (1 : Int32))).bind (fun h5 =>
      cV (Ex 35 [aR x3, aI x4] h5) (fun h6 =>
      some (.inl (some (aI x4)), h6)) xT))) xT) :=
  lift_of (k := 19) (rows := code_122) (cuts := cut_122) (hs := hdl_122) (r := fun R E =>
    (gfR h o 11 6).bind (fun x1 =>
    cR (E 14 [aR x1, aI p0] h) (fun x3 h2 =>
    if x3 = none then
      some (.inl (some (aI (0 : Int32))), h2)
    else
      (gfI h2 x3 4 11).bind (fun x4 =>
      (pf h2 x3 4 7 (aI (1 : Int32))).bind (fun h5 =>
      cV (E 35 [aR x3, aI x4] h5) (fun h6 =>
      some (.inl (some (aI x4)), h6)) xT))) xT)) rfl rfl rfl (fun R E => rfl)
-- Chipcardhouse.endDay()I
set_option maxRecDepth 100000 in
theorem lf_123_0 (o : Option (Nat × Nat)) (h : Hp) : Ru 123 0 [(0, aR o)] [] h =
    cI (Ex 124 [aR o] h) (fun x2 h1 =>
    some (.inl (some (aI x2)), h1)) xT :=
  lift_of (k := 4) (rows := code_123) (cuts := cut_123) (hs := hdl_123) (r := fun R E =>
    cI (E 124 [aR o] h) (fun x2 h1 =>
    some (.inl (some (aI x2)), h1)) xT) rfl rfl rfl (fun R E => rfl)
-- Chipcardhouse.settleDay()I
set_option maxRecDepth 100000 in
theorem lf_124_0 (o : Option (Nat × Nat)) (h : Hp) : Ru 124 0 [(0, aR o)] [] h =
    Ru 124 2 [(0, aR o), (1, aI (0 : Int32))] [] h :=
  lift_of (k := 3) (rows := code_124) (cuts := cut_124) (hs := hdl_124) (r := fun R E =>
    R 2 [(0, aR o), (1, aI (0 : Int32))] [] h) rfl rfl rfl (fun R E => rfl)
set_option maxRecDepth 100000 in
theorem lf_124_2 (o : Option (Nat × Nat)) (v1 : Int32) (h : Hp) : Ru 124 2 [(0, aR o), (1, aI v1)] [] h =
    (gfR h o 11 3).bind (fun x1 =>
    cI (Ex 405 [aR x1] h) (fun x3 h2 =>
    if x3 ≤ v1 then
      (gfR h2 o 11 1).bind (fun x4 =>
      (gfI h2 x4 2 1).bind (fun x5 =>
      (pf h2 x4 2 1 (aI (x5 + (1 : Int32)))).bind (fun h6 =>
      (gfR h6 o 11 1).bind (fun x7 =>
      (gfI h6 x7 2 1).bind (fun x8 =>
      some (.inl (some (aI x8)), h6))))))
    else
      (gfR h2 o 11 3).bind (fun x9 =>
      cR (Ex 402 [aR x9, aI v1] h2) (fun x11 h10 =>
      acc x11 10 h10 (
      (gfL h10 x11 10 12).bind (fun x12 =>
      if (lg_cmp x12 (0 : Int64)) ≤ 0 then
        (gfL h10 x11 10 12).bind (fun x13 =>
        (gfL h10 x11 10 11).bind (fun x14 =>
        cL (Ex 318 [aL (-x13), aL x14] h10) (fun x16 h15 =>
        (gfL h15 x11 10 11).bind (fun x17 =>
        (pf h15 x11 10 11 (aL (x17 - x16))).bind (fun h18 =>
        (gfL h18 x11 10 12).bind (fun x19 =>
        (pf h18 x11 10 12 (aL (x19 + x16))).bind (fun h20 =>
        Ru 124 2 [(0, aR o), (1, aI (v1 + (1 : Int32)))] [] h20))))) xT))
      else
        (gfL h10 x11 10 12).bind (fun x21 =>
        (gfI h10 o 11 8).bind (fun x22 =>
        (gfL h10 o 11 9).bind (fun x23 =>
        (pf h10 o 11 9 (aL (x23 + ((x21 * x22.toInt64) / (10000 : Int64))))).bind (fun h24 =>
        (gfL h24 x11 10 11).bind (fun x25 =>
        (gfL h24 x11 10 12).bind (fun x26 =>
        (pf h24 x11 10 11 (aL (x25 + (x26 - ((x21 * x22.toInt64) / (10000 : Int64)))))).bind (fun h27 =>
        (pf h27 x11 10 12 (aL (0 : Int64))).bind (fun h28 =>
        Ru 124 2 [(0, aR o), (1, aI (v1 + (1 : Int32)))] [] h28))))))))))) xT)) xT) :=
  lift_of (k := 47) (rows := code_124) (cuts := cut_124) (hs := hdl_124) (r := fun R E =>
    (gfR h o 11 3).bind (fun x1 =>
    cI (E 405 [aR x1] h) (fun x3 h2 =>
    if x3 ≤ v1 then
      (gfR h2 o 11 1).bind (fun x4 =>
      (gfI h2 x4 2 1).bind (fun x5 =>
      (pf h2 x4 2 1 (aI (x5 + (1 : Int32)))).bind (fun h6 =>
      (gfR h6 o 11 1).bind (fun x7 =>
      (gfI h6 x7 2 1).bind (fun x8 =>
      some (.inl (some (aI x8)), h6))))))
    else
      (gfR h2 o 11 3).bind (fun x9 =>
      cR (E 402 [aR x9, aI v1] h2) (fun x11 h10 =>
      acc x11 10 h10 (
      (gfL h10 x11 10 12).bind (fun x12 =>
      if (lg_cmp x12 (0 : Int64)) ≤ 0 then
        (gfL h10 x11 10 12).bind (fun x13 =>
        (gfL h10 x11 10 11).bind (fun x14 =>
        cL (E 318 [aL (-x13), aL x14] h10) (fun x16 h15 =>
        (gfL h15 x11 10 11).bind (fun x17 =>
        (pf h15 x11 10 11 (aL (x17 - x16))).bind (fun h18 =>
        (gfL h18 x11 10 12).bind (fun x19 =>
        (pf h18 x11 10 12 (aL (x19 + x16))).bind (fun h20 =>
        R 2 [(0, aR o), (1, aI (v1 + (1 : Int32)))] [] h20))))) xT))
      else
        (gfL h10 x11 10 12).bind (fun x21 =>
        (gfI h10 o 11 8).bind (fun x22 =>
        (gfL h10 o 11 9).bind (fun x23 =>
        (pf h10 o 11 9 (aL (x23 + ((x21 * x22.toInt64) / (10000 : Int64))))).bind (fun h24 =>
        (gfL h24 x11 10 11).bind (fun x25 =>
        (gfL h24 x11 10 12).bind (fun x26 =>
        (pf h24 x11 10 11 (aL (x25 + (x26 - ((x21 * x22.toInt64) / (10000 : Int64)))))).bind (fun h27 =>
        (pf h27 x11 10 12 (aL (0 : Int64))).bind (fun h28 =>
        R 2 [(0, aR o), (1, aI (v1 + (1 : Int32)))] [] h28))))))))))) xT)) xT)) rfl rfl rfl (fun R E => rfl)
-- Chipcardhouse.cardAt(II)I
set_option maxRecDepth 100000 in
theorem lf_125_0 (o : Option (Nat × Nat)) (p0 : Int32) (p1 : Int32) (h : Hp) : Ru 125 0 [(0, aR o), (1, aI p0), (2, aI p1)] [] h =
    (gfR h o 11 4).bind (fun x1 =>
    cI (Ex 405 [aR x1] h) (fun x3 h2 =>
    cI (Ex 141 [aI p0, aI x3, aI p1, aI (8 : Int32)] h2) (fun x5 h4 =>
    cV (Ex 142 [aI x5] h4) (fun h6 =>
    (gfR h6 o 11 4).bind (fun x7 =>
    cR (Ex 402 [aR x7, aI p0] h6) (fun x9 h8 =>
    acc x9 1 h8 (
    if p1.toInt = 0 then
      (gfI h8 x9 1 6).bind (fun x10 =>
      some (.inl (some (aI x10)), h8))
    else if p1.toInt = 1 then
      (gfI h8 x9 1 7).bind (fun x11 =>
      some (.inl (some (aI x11)), h8))
    else if p1.toInt = 2 then
      (gfI h8 x9 1 8).bind (fun x12 =>
      some (.inl (some (aI x12)), h8))
    else if p1.toInt = 3 then
      (gfI h8 x9 1 9).bind (fun x13 =>
      some (.inl (some (aI x13)), h8))
    else if p1.toInt = 4 then
      (gfI h8 x9 1 10).bind (fun x14 =>
      some (.inl (some (aI x14)), h8))
    else if p1.toInt = 5 then
      (gfI h8 x9 1 11).bind (fun x15 =>
      if x15 = 0 then
        some (.inl (some (aI (0 : Int32))), h8)
      else
        some (.inl (some (aI (1 : Int32))), h8))
    else if p1.toInt = 6 then
      (gfI h8 x9 1 4).bind (fun x16 =>
      some (.inl (some (aI x16)), h8))
    else if p1.toInt = 7 then
      (gfI h8 x9 1 3).bind (fun x17 =>
      some (.inl (some (aI x17)), h8))
    else (gfI h8 x9 1 14).bind (fun x18 =>
      some (.inl (some (aI x18)), h8)))) xT)) xT) xT) xT) :=
  lift_of (k := 23) (rows := code_125) (cuts := cut_125) (hs := hdl_125) (r := fun R E =>
    (gfR h o 11 4).bind (fun x1 =>
    cI (E 405 [aR x1] h) (fun x3 h2 =>
    cI (E 141 [aI p0, aI x3, aI p1, aI (8 : Int32)] h2) (fun x5 h4 =>
    cV (E 142 [aI x5] h4) (fun h6 =>
    (gfR h6 o 11 4).bind (fun x7 =>
    cR (E 402 [aR x7, aI p0] h6) (fun x9 h8 =>
    acc x9 1 h8 (
    if p1.toInt = 0 then
      (gfI h8 x9 1 6).bind (fun x10 =>
      some (.inl (some (aI x10)), h8))
    else if p1.toInt = 1 then
      (gfI h8 x9 1 7).bind (fun x11 =>
      some (.inl (some (aI x11)), h8))
    else if p1.toInt = 2 then
      (gfI h8 x9 1 8).bind (fun x12 =>
      some (.inl (some (aI x12)), h8))
    else if p1.toInt = 3 then
      (gfI h8 x9 1 9).bind (fun x13 =>
      some (.inl (some (aI x13)), h8))
    else if p1.toInt = 4 then
      (gfI h8 x9 1 10).bind (fun x14 =>
      some (.inl (some (aI x14)), h8))
    else if p1.toInt = 5 then
      (gfI h8 x9 1 11).bind (fun x15 =>
      if x15 = 0 then
        some (.inl (some (aI (0 : Int32))), h8)
      else
        some (.inl (some (aI (1 : Int32))), h8))
    else if p1.toInt = 6 then
      (gfI h8 x9 1 4).bind (fun x16 =>
      some (.inl (some (aI x16)), h8))
    else if p1.toInt = 7 then
      (gfI h8 x9 1 3).bind (fun x17 =>
      some (.inl (some (aI x17)), h8))
    else (gfI h8 x9 1 14).bind (fun x18 =>
      some (.inl (some (aI x18)), h8)))) xT)) xT) xT) xT)) rfl rfl rfl (fun R E => rfl)
-- Chipcardhouse.paymentAt(II)I
set_option maxRecDepth 100000 in
theorem lf_126_0 (o : Option (Nat × Nat)) (p0 : Int32) (p1 : Int32) (h : Hp) : Ru 126 0 [(0, aR o), (1, aI p0), (2, aI p1)] [] h =
    (gfR h o 11 5).bind (fun x1 =>
    cI (Ex 405 [aR x1] h) (fun x3 h2 =>
    cI (Ex 141 [aI p0, aI x3, aI p1, aI (9 : Int32)] h2) (fun x5 h4 =>
    cV (Ex 142 [aI x5] h4) (fun h6 =>
    (gfR h6 o 11 5).bind (fun x7 =>
    cR (Ex 402 [aR x7, aI p0] h6) (fun x9 h8 =>
    acc x9 7 h8 (
    if p1.toInt = 0 then
      (gfI h8 x9 7 7).bind (fun x10 =>
      some (.inl (some (aI x10)), h8))
    else if p1.toInt = 1 then
      (gfR h8 x9 7 1).bind (fun x11 =>
      (gfI h8 x11 1 0).bind (fun x12 =>
      some (.inl (some (aI x12)), h8)))
    else if p1.toInt = 2 then
      (gfR h8 x9 7 2).bind (fun x13 =>
      (gfI h8 x13 10 0).bind (fun x14 =>
      some (.inl (some (aI x14)), h8)))
    else if p1.toInt = 3 then
      (gfI h8 x9 7 3).bind (fun x15 =>
      some (.inl (some (aI x15)), h8))
    else if p1.toInt = 4 then
      (gfI h8 x9 7 4).bind (fun x16 =>
      some (.inl (some (aI x16)), h8))
    else if p1.toInt = 5 then
      (gfI h8 x9 7 5).bind (fun x17 =>
      some (.inl (some (aI x17)), h8))
    else if p1.toInt = 6 then
      (gfI h8 x9 7 6).bind (fun x18 =>
      some (.inl (some (aI x18)), h8))
    else if p1.toInt = 7 then
      (gfI h8 x9 7 8).bind (fun x19 =>
      some (.inl (some (aI x19)), h8))
    else if p1.toInt = 8 then
      (gfI h8 x9 7 9).bind (fun x20 =>
      some (.inl (some (aI x20)), h8))
    else (gfI h8 x9 7 10).bind (fun x21 =>
      if x21 = 0 then
        some (.inl (some (aI (0 : Int32))), h8)
      else
        some (.inl (some (aI (1 : Int32))), h8)))) xT)) xT) xT) xT) :=
  lift_of (k := 23) (rows := code_126) (cuts := cut_126) (hs := hdl_126) (r := fun R E =>
    (gfR h o 11 5).bind (fun x1 =>
    cI (E 405 [aR x1] h) (fun x3 h2 =>
    cI (E 141 [aI p0, aI x3, aI p1, aI (9 : Int32)] h2) (fun x5 h4 =>
    cV (E 142 [aI x5] h4) (fun h6 =>
    (gfR h6 o 11 5).bind (fun x7 =>
    cR (E 402 [aR x7, aI p0] h6) (fun x9 h8 =>
    acc x9 7 h8 (
    if p1.toInt = 0 then
      (gfI h8 x9 7 7).bind (fun x10 =>
      some (.inl (some (aI x10)), h8))
    else if p1.toInt = 1 then
      (gfR h8 x9 7 1).bind (fun x11 =>
      (gfI h8 x11 1 0).bind (fun x12 =>
      some (.inl (some (aI x12)), h8)))
    else if p1.toInt = 2 then
      (gfR h8 x9 7 2).bind (fun x13 =>
      (gfI h8 x13 10 0).bind (fun x14 =>
      some (.inl (some (aI x14)), h8)))
    else if p1.toInt = 3 then
      (gfI h8 x9 7 3).bind (fun x15 =>
      some (.inl (some (aI x15)), h8))
    else if p1.toInt = 4 then
      (gfI h8 x9 7 4).bind (fun x16 =>
      some (.inl (some (aI x16)), h8))
    else if p1.toInt = 5 then
      (gfI h8 x9 7 5).bind (fun x17 =>
      some (.inl (some (aI x17)), h8))
    else if p1.toInt = 6 then
      (gfI h8 x9 7 6).bind (fun x18 =>
      some (.inl (some (aI x18)), h8))
    else if p1.toInt = 7 then
      (gfI h8 x9 7 8).bind (fun x19 =>
      some (.inl (some (aI x19)), h8))
    else if p1.toInt = 8 then
      (gfI h8 x9 7 9).bind (fun x20 =>
      some (.inl (some (aI x20)), h8))
    else (gfI h8 x9 7 10).bind (fun x21 =>
      if x21 = 0 then
        some (.inl (some (aI (0 : Int32))), h8)
      else
        some (.inl (some (aI (1 : Int32))), h8)))) xT)) xT) xT) xT)) rfl rfl rfl (fun R E => rfl)
-- Chipcardhouse.knows(II)I
set_option maxRecDepth 100000 in
theorem lf_127_0 (o : Option (Nat × Nat)) (p0 : Int32) (p1 : Int32) (h : Hp) : Ru 127 0 [(0, aR o), (1, aI p0), (2, aI p1)] [] h =
    cI (Ex 141 [aI p0, aI (1000 : Int32), aI p1, aI (7 : Int32)] h) (fun x2 h1 =>
    cV (Ex 142 [aI x2] h1) (fun h3 =>
    (gfR h3 o 11 6).bind (fun x4 =>
    cR (Ex 14 [aR x4, aI p0] h3) (fun x6 h5 =>
    if x6 = none then
      if p1 = (7 : Int32) then
        some (.inl (some (aI (-1 : Int32))), h5)
      else
        some (.inl (some (aI (0 : Int32))), h5)
    else
      if p1.toInt = 0 then
        (gfR h5 x6 4 1).bind (fun x7 =>
        if x7 = none then
          some (.inl (some (aI (0 : Int32))), h5)
        else
          (gfR h5 x6 4 1).bind (fun x8 =>
          (gfI h5 x8 6 8).bind (fun x9 =>
          some (.inl (some (aI x9)), h5))))
      else if p1.toInt = 1 then
        (gfI h5 x6 4 3).bind (fun x10 =>
        some (.inl (some (aI x10)), h5))
      else if p1.toInt = 2 then
        cI (Ex 29 [aR x6] h5) (fun x12 h11 =>
        if x12 = 0 then
          some (.inl (some (aI (0 : Int32))), h11)
        else
          some (.inl (some (aI (1 : Int32))), h11)) xT
      else if p1.toInt = 3 then
        (gfI h5 x6 4 5).bind (fun x13 =>
        if x13 = 0 then
          some (.inl (some (aI (0 : Int32))), h5)
        else
          some (.inl (some (aI (1 : Int32))), h5))
      else if p1.toInt = 4 then
        (gfI h5 x6 4 6).bind (fun x14 =>
        if x14 = 0 then
          some (.inl (some (aI (0 : Int32))), h5)
        else
          some (.inl (some (aI (1 : Int32))), h5))
      else if p1.toInt = 5 then
        (gfR h5 x6 4 2).bind (fun x15 =>
        if x15 = none then
          some (.inl (some (aI (0 : Int32))), h5)
        else
          some (.inl (some (aI (1 : Int32))), h5))
      else if p1.toInt = 6 then
        (gfI h5 x6 4 11).bind (fun x16 =>
        some (.inl (some (aI x16)), h5))
      else (gfI h5 x6 4 12).bind (fun x17 =>
        some (.inl (some (aI x17)), h5))) xT)) xT) xT :=
  lift_of (k := 23) (rows := code_127) (cuts := cut_127) (hs := hdl_127) (r := fun R E =>
    cI (E 141 [aI p0, aI (1000 : Int32), aI p1, aI (7 : Int32)] h) (fun x2 h1 =>
    cV (E 142 [aI x2] h1) (fun h3 =>
    (gfR h3 o 11 6).bind (fun x4 =>
    cR (E 14 [aR x4, aI p0] h3) (fun x6 h5 =>
    if x6 = none then
      if p1 = (7 : Int32) then
        some (.inl (some (aI (-1 : Int32))), h5)
      else
        some (.inl (some (aI (0 : Int32))), h5)
    else
      if p1.toInt = 0 then
        (gfR h5 x6 4 1).bind (fun x7 =>
        if x7 = none then
          some (.inl (some (aI (0 : Int32))), h5)
        else
          (gfR h5 x6 4 1).bind (fun x8 =>
          (gfI h5 x8 6 8).bind (fun x9 =>
          some (.inl (some (aI x9)), h5))))
      else if p1.toInt = 1 then
        (gfI h5 x6 4 3).bind (fun x10 =>
        some (.inl (some (aI x10)), h5))
      else if p1.toInt = 2 then
        cI (E 29 [aR x6] h5) (fun x12 h11 =>
        if x12 = 0 then
          some (.inl (some (aI (0 : Int32))), h11)
        else
          some (.inl (some (aI (1 : Int32))), h11)) xT
      else if p1.toInt = 3 then
        (gfI h5 x6 4 5).bind (fun x13 =>
        if x13 = 0 then
          some (.inl (some (aI (0 : Int32))), h5)
        else
          some (.inl (some (aI (1 : Int32))), h5))
      else if p1.toInt = 4 then
        (gfI h5 x6 4 6).bind (fun x14 =>
        if x14 = 0 then
          some (.inl (some (aI (0 : Int32))), h5)
        else
          some (.inl (some (aI (1 : Int32))), h5))
      else if p1.toInt = 5 then
        (gfR h5 x6 4 2).bind (fun x15 =>
        if x15 = none then
          some (.inl (some (aI (0 : Int32))), h5)
        else
          some (.inl (some (aI (1 : Int32))), h5))
      else if p1.toInt = 6 then
        (gfI h5 x6 4 11).bind (fun x16 =>
        some (.inl (some (aI x16)), h5))
      else (gfI h5 x6 4 12).bind (fun x17 =>
        some (.inl (some (aI x17)), h5))) xT)) xT) xT) rfl rfl rfl (fun R E => rfl)
-- Chipcardhouse.accountAt(II)J
set_option maxRecDepth 100000 in
theorem lf_128_0 (o : Option (Nat × Nat)) (p0 : Int32) (p1 : Int32) (h : Hp) : Ru 128 0 [(0, aR o), (1, aI p0), (2, aI p1)] [] h =
    (gfR h o 11 2).bind (fun x1 =>
    cI (Ex 405 [aR x1] h) (fun x3 h2 =>
    cI (Ex 141 [aI p0, aI x3, aI p1, aI (3 : Int32)] h2) (fun x5 h4 =>
    cV (Ex 142 [aI x5] h4) (fun h6 =>
    (gfR h6 o 11 2).bind (fun x7 =>
    cR (Ex 402 [aR x7, aI p0] h6) (fun x9 h8 =>
    acc x9 0 h8 (
    if p1.toInt = 0 then
      (gfL h8 x9 0 0).bind (fun x10 =>
      some (.inl (some (aL x10)), h8))
    else if p1.toInt = 1 then
      (gfL h8 x9 0 1).bind (fun x11 =>
      some (.inl (some (aL x11)), h8))
    else if p1.toInt = 2 then
      (gfL h8 x9 0 0).bind (fun x12 =>
      (gfL h8 x9 0 1).bind (fun x13 =>
      some (.inl (some (aL (x12 - x13))), h8)))
    else (gfI h8 x9 0 2).bind (fun x14 =>
      if x14 = 0 then
        some (.inl (some (aL (0 : Int64))), h8)
      else
        some (.inl (some (aL (1 : Int64))), h8)))) xT)) xT) xT) xT) :=
  lift_of (k := 23) (rows := code_128) (cuts := cut_128) (hs := hdl_128) (r := fun R E =>
    (gfR h o 11 2).bind (fun x1 =>
    cI (E 405 [aR x1] h) (fun x3 h2 =>
    cI (E 141 [aI p0, aI x3, aI p1, aI (3 : Int32)] h2) (fun x5 h4 =>
    cV (E 142 [aI x5] h4) (fun h6 =>
    (gfR h6 o 11 2).bind (fun x7 =>
    cR (E 402 [aR x7, aI p0] h6) (fun x9 h8 =>
    acc x9 0 h8 (
    if p1.toInt = 0 then
      (gfL h8 x9 0 0).bind (fun x10 =>
      some (.inl (some (aL x10)), h8))
    else if p1.toInt = 1 then
      (gfL h8 x9 0 1).bind (fun x11 =>
      some (.inl (some (aL x11)), h8))
    else if p1.toInt = 2 then
      (gfL h8 x9 0 0).bind (fun x12 =>
      (gfL h8 x9 0 1).bind (fun x13 =>
      some (.inl (some (aL (x12 - x13))), h8)))
    else (gfI h8 x9 0 2).bind (fun x14 =>
      if x14 = 0 then
        some (.inl (some (aL (0 : Int64))), h8)
      else
        some (.inl (some (aL (1 : Int64))), h8)))) xT)) xT) xT) xT)) rfl rfl rfl (fun R E => rfl)
-- Chipcardhouse.shopAt(II)J
set_option maxRecDepth 100000 in
theorem lf_129_0 (o : Option (Nat × Nat)) (p0 : Int32) (p1 : Int32) (h : Hp) : Ru 129 0 [(0, aR o), (1, aI p0), (2, aI p1)] [] h =
    (gfR h o 11 3).bind (fun x1 =>
    cI (Ex 405 [aR x1] h) (fun x3 h2 =>
    cI (Ex 141 [aI p0, aI x3, aI p1, aI (5 : Int32)] h2) (fun x5 h4 =>
    cV (Ex 142 [aI x5] h4) (fun h6 =>
    (gfR h6 o 11 3).bind (fun x7 =>
    cR (Ex 402 [aR x7, aI p0] h6) (fun x9 h8 =>
    acc x9 10 h8 (
    if p1.toInt = 0 then
      (gfL h8 x9 10 11).bind (fun x10 =>
      some (.inl (some (aL x10)), h8))
    else if p1.toInt = 1 then
      (gfL h8 x9 10 12).bind (fun x11 =>
      some (.inl (some (aL x11)), h8))
    else if p1.toInt = 2 then
      (gfI h8 x9 10 10).bind (fun x12 =>
      some (.inl (some (aL x12.toInt64)), h8))
    else if p1.toInt = 3 then
      (gfR h8 x9 10 7).bind (fun x13 =>
      cI (Ex 405 [aR x13] h8) (fun x15 h14 =>
      some (.inl (some (aL x15.toInt64)), h14)) xT)
    else if p1.toInt = 4 then
      (gfR h8 x9 10 4).bind (fun x16 =>
      (gfI h8 x16 5 3).bind (fun x17 =>
      some (.inl (some (aL x17.toInt64)), h8)))
    else (gfR h8 x9 10 5).bind (fun x18 =>
      (gfI h8 x18 5 3).bind (fun x19 =>
      some (.inl (some (aL x19.toInt64)), h8))))) xT)) xT) xT) xT) :=
  lift_of (k := 22) (rows := code_129) (cuts := cut_129) (hs := hdl_129) (r := fun R E =>
    (gfR h o 11 3).bind (fun x1 =>
    cI (E 405 [aR x1] h) (fun x3 h2 =>
    cI (E 141 [aI p0, aI x3, aI p1, aI (5 : Int32)] h2) (fun x5 h4 =>
    cV (E 142 [aI x5] h4) (fun h6 =>
    (gfR h6 o 11 3).bind (fun x7 =>
    cR (E 402 [aR x7, aI p0] h6) (fun x9 h8 =>
    acc x9 10 h8 (
    if p1.toInt = 0 then
      (gfL h8 x9 10 11).bind (fun x10 =>
      some (.inl (some (aL x10)), h8))
    else if p1.toInt = 1 then
      (gfL h8 x9 10 12).bind (fun x11 =>
      some (.inl (some (aL x11)), h8))
    else if p1.toInt = 2 then
      (gfI h8 x9 10 10).bind (fun x12 =>
      some (.inl (some (aL x12.toInt64)), h8))
    else if p1.toInt = 3 then
      (gfR h8 x9 10 7).bind (fun x13 =>
      cI (E 405 [aR x13] h8) (fun x15 h14 =>
      some (.inl (some (aL x15.toInt64)), h14)) xT)
    else if p1.toInt = 4 then
      (gfR h8 x9 10 4).bind (fun x16 =>
      (gfI h8 x16 5 3).bind (fun x17 =>
      some (.inl (some (aL x17.toInt64)), h8)))
    else (gfR h8 x9 10 5).bind (fun x18 =>
      (gfI h8 x18 5 3).bind (fun x19 =>
      some (.inl (some (aL x19.toInt64)), h8))))) xT)) xT) xT) xT)) rfl rfl rfl (fun R E => rfl)
-- Chipcardhouse.count(I)I
set_option maxRecDepth 100000 in
theorem lf_130_0 (o : Option (Nat × Nat)) (p0 : Int32) (h : Hp) : Ru 130 0 [(0, aR o), (1, aI p0)] [] h =
    cI (Ex 139 [aI p0, aI (0 : Int32), aI (9 : Int32)] h) (fun x2 h1 =>
    if x2 = 0 then
      cV (Ex 142 [aI (2 : Int32)] h1) (fun h3 =>
      if p0.toInt = 0 then
        (gfR h3 o 11 1).bind (fun x4 =>
        (gfI h3 x4 2 0).bind (fun x5 =>
        some (.inl (some (aI x5)), h3)))
      else if p0.toInt = 1 then
        (gfR h3 o 11 1).bind (fun x6 =>
        (gfI h3 x6 2 1).bind (fun x7 =>
        some (.inl (some (aI x7)), h3)))
      else if p0.toInt = 2 then
        (gfR h3 o 11 2).bind (fun x8 =>
        cI (Ex 405 [aR x8] h3) (fun x10 h9 =>
        some (.inl (some (aI x10)), h9)) xT)
      else if p0.toInt = 3 then
        (gfR h3 o 11 3).bind (fun x11 =>
        cI (Ex 405 [aR x11] h3) (fun x13 h12 =>
        some (.inl (some (aI x13)), h12)) xT)
      else if p0.toInt = 4 then
        (gfR h3 o 11 4).bind (fun x14 =>
        cI (Ex 405 [aR x14] h3) (fun x16 h15 =>
        some (.inl (some (aI x16)), h15)) xT)
      else if p0.toInt = 5 then
        (gfR h3 o 11 5).bind (fun x17 =>
        cI (Ex 405 [aR x17] h3) (fun x19 h18 =>
        some (.inl (some (aI x19)), h18)) xT)
      else if p0.toInt = 6 then
        (gfR h3 o 11 6).bind (fun x20 =>
        (gfI h3 x20 3 3).bind (fun x21 =>
        some (.inl (some (aI x21)), h3)))
      else if p0.toInt = 7 then
        (gfR h3 o 11 6).bind (fun x22 =>
        (gfI h3 x22 3 4).bind (fun x23 =>
        some (.inl (some (aI x23)), h3)))
      else if p0.toInt = 8 then
        (gfR h3 o 11 7).bind (fun x24 =>
        (gfR h3 x24 9 0).bind (fun x25 =>
        cI (Ex 405 [aR x25] h3) (fun x27 h26 =>
        some (.inl (some (aI x27)), h26)) xT))
      else (gfR h3 o 11 7).bind (fun x28 =>
        (gfI h3 x28 9 2).bind (fun x29 =>
        if x29 = 0 then
          some (.inl (some (aI (0 : Int32))), h3)
        else
          some (.inl (some (aI (1 : Int32))), h3)))) xT
    else
      cV (Ex 142 [aI (0 : Int32)] h1) (fun h30 =>
      if p0.toInt = 0 then
        (gfR h30 o 11 1).bind (fun x31 =>
        (gfI h30 x31 2 0).bind (fun x32 =>
        some (.inl (some (aI x32)), h30)))
      else if p0.toInt = 1 then
        (gfR h30 o 11 1).bind (fun x33 =>
        (gfI h30 x33 2 1).bind (fun x34 =>
        some (.inl (some (aI x34)), h30)))
      else if p0.toInt = 2 then
        (gfR h30 o 11 2).bind (fun x35 =>
        cI (Ex 405 [aR x35] h30) (fun x37 h36 =>
        some (.inl (some (aI x37)), h36)) xT)
      else if p0.toInt = 3 then
        (gfR h30 o 11 3).bind (fun x38 =>
        cI (Ex 405 [aR x38] h30) (fun x40 h39 =>
        some (.inl (some (aI x40)), h39)) xT)
      else if p0.toInt = 4 then
        (gfR h30 o 11 4).bind (fun x41 =>
        cI (Ex 405 [aR x41] h30) (fun x43 h42 =>
        some (.inl (some (aI x43)), h42)) xT)
      else if p0.toInt = 5 then
        (gfR h30 o 11 5).bind (fun x44 =>
        cI (Ex 405 [aR x44] h30) (fun x46 h45 =>
        some (.inl (some (aI x46)), h45)) xT)
      else if p0.toInt = 6 then
        (gfR h30 o 11 6).bind (fun x47 =>
        (gfI h30 x47 3 3).bind (fun x48 =>
        some (.inl (some (aI x48)), h30)))
      else if p0.toInt = 7 then
        (gfR h30 o 11 6).bind (fun x49 =>
        (gfI h30 x49 3 4).bind (fun x50 =>
        some (.inl (some (aI x50)), h30)))
      else if p0.toInt = 8 then
        (gfR h30 o 11 7).bind (fun x51 =>
        (gfR h30 x51 9 0).bind (fun x52 =>
        cI (Ex 405 [aR x52] h30) (fun x54 h53 =>
        some (.inl (some (aI x54)), h53)) xT))
      else (gfR h30 o 11 7).bind (fun x55 =>
        (gfI h30 x55 9 2).bind (fun x56 =>
        if x56 = 0 then
          some (.inl (some (aI (0 : Int32))), h30)
        else
          some (.inl (some (aI (1 : Int32))), h30)))) xT) xT :=
  lift_of (k := 18) (rows := code_130) (cuts := cut_130) (hs := hdl_130) (r := fun R E =>
    cI (E 139 [aI p0, aI (0 : Int32), aI (9 : Int32)] h) (fun x2 h1 =>
    if x2 = 0 then
      cV (E 142 [aI (2 : Int32)] h1) (fun h3 =>
      if p0.toInt = 0 then
        (gfR h3 o 11 1).bind (fun x4 =>
        (gfI h3 x4 2 0).bind (fun x5 =>
        some (.inl (some (aI x5)), h3)))
      else if p0.toInt = 1 then
        (gfR h3 o 11 1).bind (fun x6 =>
        (gfI h3 x6 2 1).bind (fun x7 =>
        some (.inl (some (aI x7)), h3)))
      else if p0.toInt = 2 then
        (gfR h3 o 11 2).bind (fun x8 =>
        cI (E 405 [aR x8] h3) (fun x10 h9 =>
        some (.inl (some (aI x10)), h9)) xT)
      else if p0.toInt = 3 then
        (gfR h3 o 11 3).bind (fun x11 =>
        cI (E 405 [aR x11] h3) (fun x13 h12 =>
        some (.inl (some (aI x13)), h12)) xT)
      else if p0.toInt = 4 then
        (gfR h3 o 11 4).bind (fun x14 =>
        cI (E 405 [aR x14] h3) (fun x16 h15 =>
        some (.inl (some (aI x16)), h15)) xT)
      else if p0.toInt = 5 then
        (gfR h3 o 11 5).bind (fun x17 =>
        cI (E 405 [aR x17] h3) (fun x19 h18 =>
        some (.inl (some (aI x19)), h18)) xT)
      else if p0.toInt = 6 then
        (gfR h3 o 11 6).bind (fun x20 =>
        (gfI h3 x20 3 3).bind (fun x21 =>
        some (.inl (some (aI x21)), h3)))
      else if p0.toInt = 7 then
        (gfR h3 o 11 6).bind (fun x22 =>
        (gfI h3 x22 3 4).bind (fun x23 =>
        some (.inl (some (aI x23)), h3)))
      else if p0.toInt = 8 then
        (gfR h3 o 11 7).bind (fun x24 =>
        (gfR h3 x24 9 0).bind (fun x25 =>
        cI (E 405 [aR x25] h3) (fun x27 h26 =>
        some (.inl (some (aI x27)), h26)) xT))
      else (gfR h3 o 11 7).bind (fun x28 =>
        (gfI h3 x28 9 2).bind (fun x29 =>
        if x29 = 0 then
          some (.inl (some (aI (0 : Int32))), h3)
        else
          some (.inl (some (aI (1 : Int32))), h3)))) xT
    else
      cV (E 142 [aI (0 : Int32)] h1) (fun h30 =>
      if p0.toInt = 0 then
        (gfR h30 o 11 1).bind (fun x31 =>
        (gfI h30 x31 2 0).bind (fun x32 =>
        some (.inl (some (aI x32)), h30)))
      else if p0.toInt = 1 then
        (gfR h30 o 11 1).bind (fun x33 =>
        (gfI h30 x33 2 1).bind (fun x34 =>
        some (.inl (some (aI x34)), h30)))
      else if p0.toInt = 2 then
        (gfR h30 o 11 2).bind (fun x35 =>
        cI (E 405 [aR x35] h30) (fun x37 h36 =>
        some (.inl (some (aI x37)), h36)) xT)
      else if p0.toInt = 3 then
        (gfR h30 o 11 3).bind (fun x38 =>
        cI (E 405 [aR x38] h30) (fun x40 h39 =>
        some (.inl (some (aI x40)), h39)) xT)
      else if p0.toInt = 4 then
        (gfR h30 o 11 4).bind (fun x41 =>
        cI (E 405 [aR x41] h30) (fun x43 h42 =>
        some (.inl (some (aI x43)), h42)) xT)
      else if p0.toInt = 5 then
        (gfR h30 o 11 5).bind (fun x44 =>
        cI (E 405 [aR x44] h30) (fun x46 h45 =>
        some (.inl (some (aI x46)), h45)) xT)
      else if p0.toInt = 6 then
        (gfR h30 o 11 6).bind (fun x47 =>
        (gfI h30 x47 3 3).bind (fun x48 =>
        some (.inl (some (aI x48)), h30)))
      else if p0.toInt = 7 then
        (gfR h30 o 11 6).bind (fun x49 =>
        (gfI h30 x49 3 4).bind (fun x50 =>
        some (.inl (some (aI x50)), h30)))
      else if p0.toInt = 8 then
        (gfR h30 o 11 7).bind (fun x51 =>
        (gfR h30 x51 9 0).bind (fun x52 =>
        cI (E 405 [aR x52] h30) (fun x54 h53 =>
        some (.inl (some (aI x54)), h53)) xT))
      else (gfR h30 o 11 7).bind (fun x55 =>
        (gfI h30 x55 9 2).bind (fun x56 =>
        if x56 = 0 then
          some (.inl (some (aI (0 : Int32))), h30)
        else
          some (.inl (some (aI (1 : Int32))), h30)))) xT) xT) rfl rfl rfl (fun R E => rfl)
-- Chipcardhouse.fees()J
set_option maxRecDepth 100000 in
theorem lf_131_0 (o : Option (Nat × Nat)) (h : Hp) : Ru 131 0 [(0, aR o)] [] h =
    (gfL h o 11 9).bind (fun x1 =>
    some (.inl (some (aL x1)), h)) :=
  lift_of (k := 4) (rows := code_131) (cuts := cut_131) (hs := hdl_131) (r := fun R E =>
    (gfL h o 11 9).bind (fun x1 =>
    some (.inl (some (aL x1)), h))) rfl rfl rfl (fun R E => rfl)
-- Chipcardhouse.meanPayment(I)D
set_option maxRecDepth 100000 in
theorem lf_132_0 (o : Option (Nat × Nat)) (p0 : Int32) (h : Hp) : Ru 132 0 [(0, aR o), (1, aI p0)] [] h =
    (gfR h o 11 3).bind (fun x1 =>
    cI (Ex 405 [aR x1] h) (fun x3 h2 =>
    cI (Ex 140 [aI p0, aI x3] h2) (fun x5 h4 =>
    cV (Ex 142 [aI x5] h4) (fun h6 =>
    Ru 132 22 [(0, aR o), (1, aI p0), (2, aL (0 : Int64)), (4, aI (0 : Int32)), (5, aI (0 : Int32))] [] h6) xT) xT) xT) :=
  lift_of (k := 13) (rows := code_132) (cuts := cut_132) (hs := hdl_132) (r := fun R E =>
    (gfR h o 11 3).bind (fun x1 =>
    cI (E 405 [aR x1] h) (fun x3 h2 =>
    cI (E 140 [aI p0, aI x3] h2) (fun x5 h4 =>
    cV (E 142 [aI x5] h4) (fun h6 =>
    R 22 [(0, aR o), (1, aI p0), (2, aL (0 : Int64)), (4, aI (0 : Int32)), (5, aI (0 : Int32))] [] h6) xT) xT) xT)) rfl rfl rfl (fun R E => rfl)
set_option maxRecDepth 100000 in
theorem lf_132_22 (o : Option (Nat × Nat)) (v1 : Int32) (v2 : Int64) (v4 : Int32) (v5 : Int32) (h : Hp) : Ru 132 22 [(0, aR o), (1, aI v1), (2, aL v2), (4, aI v4), (5, aI v5)] [] h =
    (gfR h o 11 5).bind (fun x1 =>
    cI (Ex 405 [aR x1] h) (fun x3 h2 =>
    if x3 ≤ v5 then
      if v4 = 0 then
        some (.inl (some (aD 0)), h2)
      else
        if (FP.ddiv (FP.l2d v2) (FP.i2d v4)) &&& 0x7fffffffffffffff ≤ 0x7ff0000000000000 then
        some (.inl (some (aD (FP.ddiv (FP.l2d v2) (FP.i2d v4)))), h2)
        else none
    else
      (gfR h2 o 11 5).bind (fun x4 =>
      cR (Ex 402 [aR x4, aI v5] h2) (fun x6 h5 =>
      acc x6 7 h5 (
      (gfR h5 x6 7 2).bind (fun x7 =>
      (gfI h5 x7 10 0).bind (fun x8 =>
      if x8 = v1 then
        cI (Ex 45 [aR x6] h5) (fun x10 h9 =>
        if x10 = 0 then
          Ru 132 22 [(0, aR o), (1, aI v1), (2, aL v2), (4, aI v4), (5, aI (v5 + (1 : Int32)))] [] h9
        else
          (gfI h9 x6 7 3).bind (fun x11 =>
          Ru 132 22 [(0, aR o), (1, aI v1), (2, aL (v2 + x11.toInt64)), (4, aI (v4 + (1 : Int32))), (5, aI (v5 + (1 : Int32)))] [] h9)) xT
      else
        Ru 132 22 [(0, aR o), (1, aI v1), (2, aL v2), (4, aI v4), (5, aI (v5 + (1 : Int32)))] [] h5)))) xT)) xT) :=
  lift_of (k := 29) (rows := code_132) (cuts := cut_132) (hs := hdl_132) (r := fun R E =>
    (gfR h o 11 5).bind (fun x1 =>
    cI (E 405 [aR x1] h) (fun x3 h2 =>
    if x3 ≤ v5 then
      if v4 = 0 then
        some (.inl (some (aD 0)), h2)
      else
        if (FP.ddiv (FP.l2d v2) (FP.i2d v4)) &&& 0x7fffffffffffffff ≤ 0x7ff0000000000000 then
        some (.inl (some (aD (FP.ddiv (FP.l2d v2) (FP.i2d v4)))), h2)
        else none
    else
      (gfR h2 o 11 5).bind (fun x4 =>
      cR (E 402 [aR x4, aI v5] h2) (fun x6 h5 =>
      acc x6 7 h5 (
      (gfR h5 x6 7 2).bind (fun x7 =>
      (gfI h5 x7 10 0).bind (fun x8 =>
      if x8 = v1 then
        cI (E 45 [aR x6] h5) (fun x10 h9 =>
        if x10 = 0 then
          R 22 [(0, aR o), (1, aI v1), (2, aL v2), (4, aI v4), (5, aI (v5 + (1 : Int32)))] [] h9
        else
          (gfI h9 x6 7 3).bind (fun x11 =>
          R 22 [(0, aR o), (1, aI v1), (2, aL (v2 + x11.toInt64)), (4, aI (v4 + (1 : Int32))), (5, aI (v5 + (1 : Int32)))] [] h9)) xT
      else
        R 22 [(0, aR o), (1, aI v1), (2, aL v2), (4, aI v4), (5, aI (v5 + (1 : Int32)))] [] h5)))) xT)) xT)) rfl rfl rfl (fun R E => rfl)
-- Chipcardhouse.grantedShare()F
set_option maxRecDepth 100000 in
theorem lf_133_0 (o : Option (Nat × Nat)) (h : Hp) : Ru 133 0 [(0, aR o)] [] h =
    Ru 133 4 [(0, aR o), (1, aI (0 : Int32)), (2, aI (0 : Int32))] [] h :=
  lift_of (k := 5) (rows := code_133) (cuts := cut_133) (hs := hdl_133) (r := fun R E =>
    R 4 [(0, aR o), (1, aI (0 : Int32)), (2, aI (0 : Int32))] [] h) rfl rfl rfl (fun R E => rfl)
set_option maxRecDepth 100000 in
theorem lf_133_4 (o : Option (Nat × Nat)) (v1 : Int32) (v2 : Int32) (h : Hp) : Ru 133 4 [(0, aR o), (1, aI v1), (2, aI v2)] [] h =
    (gfR h o 11 5).bind (fun x1 =>
    cI (Ex 405 [aR x1] h) (fun x3 h2 =>
    if x3 ≤ v2 then
      (gfR h2 o 11 5).bind (fun x4 =>
      cI (Ex 406 [aR x4] h2) (fun x6 h5 =>
      if x6 = 0 then
        (gfR h5 o 11 5).bind (fun x7 =>
        cI (Ex 405 [aR x7] h5) (fun x9 h8 =>
        if (FP.fdiv (FP.i2f v1) (FP.i2f x9)) &&& 0x7fffffff ≤ 0x7f800000 then
        some (.inl (some (aF (FP.fdiv (FP.i2f v1) (FP.i2f x9)))), h8)
        else none) xT)
      else
        some (.inl (some (aF 0)), h5)) xT)
    else
      (gfR h2 o 11 5).bind (fun x10 =>
      cR (Ex 402 [aR x10, aI v2] h2) (fun x12 h11 =>
      acc x12 7 h11 (
      cI (Ex 45 [aR x12] h11) (fun x14 h13 =>
      if x14 = 0 then
        Ru 133 4 [(0, aR o), (1, aI (v1 + (0 : Int32))), (2, aI (v2 + (1 : Int32)))] [] h13
      else
        Ru 133 4 [(0, aR o), (1, aI (v1 + (1 : Int32))), (2, aI (v2 + (1 : Int32)))] [] h13) xT)) xT)) xT) :=
  lift_of (k := 20) (rows := code_133) (cuts := cut_133) (hs := hdl_133) (r := fun R E =>
    (gfR h o 11 5).bind (fun x1 =>
    cI (E 405 [aR x1] h) (fun x3 h2 =>
    if x3 ≤ v2 then
      (gfR h2 o 11 5).bind (fun x4 =>
      cI (E 406 [aR x4] h2) (fun x6 h5 =>
      if x6 = 0 then
        (gfR h5 o 11 5).bind (fun x7 =>
        cI (E 405 [aR x7] h5) (fun x9 h8 =>
        if (FP.fdiv (FP.i2f v1) (FP.i2f x9)) &&& 0x7fffffff ≤ 0x7f800000 then
        some (.inl (some (aF (FP.fdiv (FP.i2f v1) (FP.i2f x9)))), h8)
        else none) xT)
      else
        some (.inl (some (aF 0)), h5)) xT)
    else
      (gfR h2 o 11 5).bind (fun x10 =>
      cR (E 402 [aR x10, aI v2] h2) (fun x12 h11 =>
      acc x12 7 h11 (
      cI (E 45 [aR x12] h11) (fun x14 h13 =>
      if x14 = 0 then
        R 4 [(0, aR o), (1, aI (v1 + (0 : Int32))), (2, aI (v2 + (1 : Int32)))] [] h13
      else
        R 4 [(0, aR o), (1, aI (v1 + (1 : Int32))), (2, aI (v2 + (1 : Int32)))] [] h13) xT)) xT)) xT)) rfl rfl rfl (fun R E => rfl)
-- Chipcardhouse.checksum()J
set_option maxRecDepth 100000 in
theorem lf_134_0 (o : Option (Nat × Nat)) (h : Hp) : Ru 134 0 [(0, aR o)] [] h =
    Ru 134 4 [(0, aR o), (1, aL (0 : Int64)), (3, aI (0 : Int32))] [] h :=
  lift_of (k := 5) (rows := code_134) (cuts := cut_134) (hs := hdl_134) (r := fun R E =>
    R 4 [(0, aR o), (1, aL (0 : Int64)), (3, aI (0 : Int32))] [] h) rfl rfl rfl (fun R E => rfl)
set_option maxRecDepth 100000 in
theorem lf_134_4 (o : Option (Nat × Nat)) (v1 : Int64) (v3 : Int32) (h : Hp) : Ru 134 4 [(0, aR o), (1, aL v1), (3, aI v3)] [] h =
    (gfR h o 11 5).bind (fun x1 =>
    cI (Ex 405 [aR x1] h) (fun x3 h2 =>
    if x3 ≤ v3 then
      some (.inl (some (aL v1)), h2)
    else
      (gfR h2 o 11 5).bind (fun x4 =>
      cR (Ex 402 [aR x4, aI v3] h2) (fun x6 h5 =>
      acc x6 7 h5 (
      (gfI h5 x6 7 7).bind (fun x7 =>
      (gfI h5 x6 7 3).bind (fun x8 =>
      (gfI h5 x6 7 4).bind (fun x9 =>
      (gfR h5 o 11 6).bind (fun x10 =>
      cI (Ex 17 [aR x10, aI v3] h5) (fun x12 h11 =>
      if x12 = 0 then
        Ru 134 4 [(0, aR o), (1, aL ((((((31 : Int64) * v1) + x7.toInt64) + ((7 : Int64) * x8.toInt64)) + ((3 : Int64) * x9.toInt64)) + (0 : Int64))), (3, aI (v3 + (1 : Int32)))] [] h11
      else
        Ru 134 4 [(0, aR o), (1, aL ((((((31 : Int64) * v1) + x7.toInt64) + ((7 : Int64) * x8.toInt64)) + ((3 : Int64) * x9.toInt64)) + (1000 : Int64))), (3, aI (v3 + (1 : Int32)))] [] h11) xT)))))) xT)) xT) :=
  lift_of (k := 44) (rows := code_134) (cuts := cut_134) (hs := hdl_134) (r := fun R E =>
    (gfR h o 11 5).bind (fun x1 =>
    cI (E 405 [aR x1] h) (fun x3 h2 =>
    if x3 ≤ v3 then
      some (.inl (some (aL v1)), h2)
    else
      (gfR h2 o 11 5).bind (fun x4 =>
      cR (E 402 [aR x4, aI v3] h2) (fun x6 h5 =>
      acc x6 7 h5 (
      (gfI h5 x6 7 7).bind (fun x7 =>
      (gfI h5 x6 7 3).bind (fun x8 =>
      (gfI h5 x6 7 4).bind (fun x9 =>
      (gfR h5 o 11 6).bind (fun x10 =>
      cI (E 17 [aR x10, aI v3] h5) (fun x12 h11 =>
      if x12 = 0 then
        R 4 [(0, aR o), (1, aL ((((((31 : Int64) * v1) + x7.toInt64) + ((7 : Int64) * x8.toInt64)) + ((3 : Int64) * x9.toInt64)) + (0 : Int64))), (3, aI (v3 + (1 : Int32)))] [] h11
      else
        R 4 [(0, aR o), (1, aL ((((((31 : Int64) * v1) + x7.toInt64) + ((7 : Int64) * x8.toInt64)) + ((3 : Int64) * x9.toInt64)) + (1000 : Int64))), (3, aI (v3 + (1 : Int32)))] [] h11) xT)))))) xT)) xT)) rfl rfl rfl (fun R E => rfl)
-- Chipcardhouse.errors()I
set_option maxRecDepth 100000 in
theorem lf_135_0 (o : Option (Nat × Nat)) (h : Hp) : Ru 135 0 [(0, aR o)] [] h =
    (gfR h o 11 6).bind (fun x1 =>
    (gfR h o 11 5).bind (fun x2 =>
    cI (Ex 23 [aR x1, aR x2] h) (fun x4 h3 =>
    if x4 = 0 then
      (gfR h3 o 11 6).bind (fun x5 =>
      cI (Ex 25 [aR x5] h3) (fun x7 h6 =>
      if x7 = 0 then
        (gfI h6 o 11 11).bind (fun x8 =>
        if x8 = 0 then
          cI (Ex 136 [aR o] h6) (fun x10 h9 =>
          if x10 = 0 then
            Ru 135 58 [(0, aR o)] [aI (1 : Int32), aI ((1 : Int32) + (1 : Int32))] h9
          else
            Ru 135 58 [(0, aR o)] [aI (0 : Int32), aI ((1 : Int32) + (1 : Int32))] h9) xT
        else
          Ru 135 58 [(0, aR o)] [aI (0 : Int32), aI ((1 : Int32) + (1 : Int32))] h6)
      else
        (gfI h6 o 11 11).bind (fun x11 =>
        if x11 = 0 then
          cI (Ex 136 [aR o] h6) (fun x13 h12 =>
          if x13 = 0 then
            Ru 135 58 [(0, aR o)] [aI (1 : Int32), aI ((1 : Int32) + (0 : Int32))] h12
          else
            Ru 135 58 [(0, aR o)] [aI (0 : Int32), aI ((1 : Int32) + (0 : Int32))] h12) xT
        else
          Ru 135 58 [(0, aR o)] [aI (0 : Int32), aI ((1 : Int32) + (0 : Int32))] h6)) xT)
    else
      (gfR h3 o 11 6).bind (fun x14 =>
      cI (Ex 25 [aR x14] h3) (fun x16 h15 =>
      if x16 = 0 then
        (gfI h15 o 11 11).bind (fun x17 =>
        if x17 = 0 then
          cI (Ex 136 [aR o] h15) (fun x19 h18 =>
          if x19 = 0 then
            Ru 135 58 [(0, aR o)] [aI (1 : Int32), aI ((0 : Int32) + (1 : Int32))] h18
          else
            Ru 135 58 [(0, aR o)] [aI (0 : Int32), aI ((0 : Int32) + (1 : Int32))] h18) xT
        else
          Ru 135 58 [(0, aR o)] [aI (0 : Int32), aI ((0 : Int32) + (1 : Int32))] h15)
      else
        (gfI h15 o 11 11).bind (fun x20 =>
        if x20 = 0 then
          cI (Ex 136 [aR o] h15) (fun x22 h21 =>
          if x22 = 0 then
            Ru 135 58 [(0, aR o)] [aI (1 : Int32), aI ((0 : Int32) + (0 : Int32))] h21
          else
            Ru 135 58 [(0, aR o)] [aI (0 : Int32), aI ((0 : Int32) + (0 : Int32))] h21) xT
        else
          Ru 135 58 [(0, aR o)] [aI (0 : Int32), aI ((0 : Int32) + (0 : Int32))] h15)) xT)) xT)) :=
  lift_of (k := 28) (rows := code_135) (cuts := cut_135) (hs := hdl_135) (r := fun R E =>
    (gfR h o 11 6).bind (fun x1 =>
    (gfR h o 11 5).bind (fun x2 =>
    cI (E 23 [aR x1, aR x2] h) (fun x4 h3 =>
    if x4 = 0 then
      (gfR h3 o 11 6).bind (fun x5 =>
      cI (E 25 [aR x5] h3) (fun x7 h6 =>
      if x7 = 0 then
        (gfI h6 o 11 11).bind (fun x8 =>
        if x8 = 0 then
          cI (E 136 [aR o] h6) (fun x10 h9 =>
          if x10 = 0 then
            R 58 [(0, aR o)] [aI (1 : Int32), aI ((1 : Int32) + (1 : Int32))] h9
          else
            R 58 [(0, aR o)] [aI (0 : Int32), aI ((1 : Int32) + (1 : Int32))] h9) xT
        else
          R 58 [(0, aR o)] [aI (0 : Int32), aI ((1 : Int32) + (1 : Int32))] h6)
      else
        (gfI h6 o 11 11).bind (fun x11 =>
        if x11 = 0 then
          cI (E 136 [aR o] h6) (fun x13 h12 =>
          if x13 = 0 then
            R 58 [(0, aR o)] [aI (1 : Int32), aI ((1 : Int32) + (0 : Int32))] h12
          else
            R 58 [(0, aR o)] [aI (0 : Int32), aI ((1 : Int32) + (0 : Int32))] h12) xT
        else
          R 58 [(0, aR o)] [aI (0 : Int32), aI ((1 : Int32) + (0 : Int32))] h6)) xT)
    else
      (gfR h3 o 11 6).bind (fun x14 =>
      cI (E 25 [aR x14] h3) (fun x16 h15 =>
      if x16 = 0 then
        (gfI h15 o 11 11).bind (fun x17 =>
        if x17 = 0 then
          cI (E 136 [aR o] h15) (fun x19 h18 =>
          if x19 = 0 then
            R 58 [(0, aR o)] [aI (1 : Int32), aI ((0 : Int32) + (1 : Int32))] h18
          else
            R 58 [(0, aR o)] [aI (0 : Int32), aI ((0 : Int32) + (1 : Int32))] h18) xT
        else
          R 58 [(0, aR o)] [aI (0 : Int32), aI ((0 : Int32) + (1 : Int32))] h15)
      else
        (gfI h15 o 11 11).bind (fun x20 =>
        if x20 = 0 then
          cI (E 136 [aR o] h15) (fun x22 h21 =>
          if x22 = 0 then
            R 58 [(0, aR o)] [aI (1 : Int32), aI ((0 : Int32) + (0 : Int32))] h21
          else
            R 58 [(0, aR o)] [aI (0 : Int32), aI ((0 : Int32) + (0 : Int32))] h21) xT
        else
          R 58 [(0, aR o)] [aI (0 : Int32), aI ((0 : Int32) + (0 : Int32))] h15)) xT)) xT))) rfl rfl rfl (fun R E => rfl)
set_option maxRecDepth 100000 in
theorem lf_135_58 (o : Option (Nat × Nat)) (s0 : Int32) (s1 : Int32) (h : Hp) : Ru 135 58 [(0, aR o)] [aI s1, aI s0] h =
    cI (Ex 137 [aR o] h) (fun x2 h1 =>
    if x2 = 0 then
      (gfR h1 o 11 6).bind (fun x3 =>
      cI (Ex 26 [aR x3] h1) (fun x5 h4 =>
      if x5 = 0 then
        cL (Ex 138 [aR o] h4) (fun x7 h6 =>
        (gfL h6 o 11 10).bind (fun x8 =>
        if (lg_cmp x7 x8) = 0 then
          some (.inl (some (aI ((((s0 + s1) + (1 : Int32)) + (1 : Int32)) + (0 : Int32)))), h6)
        else
          some (.inl (some (aI ((((s0 + s1) + (1 : Int32)) + (1 : Int32)) + (1 : Int32)))), h6))) xT
      else
        cL (Ex 138 [aR o] h4) (fun x10 h9 =>
        (gfL h9 o 11 10).bind (fun x11 =>
        if (lg_cmp x10 x11) = 0 then
          some (.inl (some (aI ((((s0 + s1) + (1 : Int32)) + (0 : Int32)) + (0 : Int32)))), h9)
        else
          some (.inl (some (aI ((((s0 + s1) + (1 : Int32)) + (0 : Int32)) + (1 : Int32)))), h9))) xT) xT)
    else
      (gfR h1 o 11 6).bind (fun x12 =>
      cI (Ex 26 [aR x12] h1) (fun x14 h13 =>
      if x14 = 0 then
        cL (Ex 138 [aR o] h13) (fun x16 h15 =>
        (gfL h15 o 11 10).bind (fun x17 =>
        if (lg_cmp x16 x17) = 0 then
          some (.inl (some (aI ((((s0 + s1) + (0 : Int32)) + (1 : Int32)) + (0 : Int32)))), h15)
        else
          some (.inl (some (aI ((((s0 + s1) + (0 : Int32)) + (1 : Int32)) + (1 : Int32)))), h15))) xT
      else
        cL (Ex 138 [aR o] h13) (fun x19 h18 =>
        (gfL h18 o 11 10).bind (fun x20 =>
        if (lg_cmp x19 x20) = 0 then
          some (.inl (some (aI ((((s0 + s1) + (0 : Int32)) + (0 : Int32)) + (0 : Int32)))), h18)
        else
          some (.inl (some (aI ((((s0 + s1) + (0 : Int32)) + (0 : Int32)) + (1 : Int32)))), h18))) xT) xT)) xT :=
  lift_of (k := 33) (rows := code_135) (cuts := cut_135) (hs := hdl_135) (r := fun R E =>
    cI (E 137 [aR o] h) (fun x2 h1 =>
    if x2 = 0 then
      (gfR h1 o 11 6).bind (fun x3 =>
      cI (E 26 [aR x3] h1) (fun x5 h4 =>
      if x5 = 0 then
        cL (E 138 [aR o] h4) (fun x7 h6 =>
        (gfL h6 o 11 10).bind (fun x8 =>
        if (lg_cmp x7 x8) = 0 then
          some (.inl (some (aI ((((s0 + s1) + (1 : Int32)) + (1 : Int32)) + (0 : Int32)))), h6)
        else
          some (.inl (some (aI ((((s0 + s1) + (1 : Int32)) + (1 : Int32)) + (1 : Int32)))), h6))) xT
      else
        cL (E 138 [aR o] h4) (fun x10 h9 =>
        (gfL h9 o 11 10).bind (fun x11 =>
        if (lg_cmp x10 x11) = 0 then
          some (.inl (some (aI ((((s0 + s1) + (1 : Int32)) + (0 : Int32)) + (0 : Int32)))), h9)
        else
          some (.inl (some (aI ((((s0 + s1) + (1 : Int32)) + (0 : Int32)) + (1 : Int32)))), h9))) xT) xT)
    else
      (gfR h1 o 11 6).bind (fun x12 =>
      cI (E 26 [aR x12] h1) (fun x14 h13 =>
      if x14 = 0 then
        cL (E 138 [aR o] h13) (fun x16 h15 =>
        (gfL h15 o 11 10).bind (fun x17 =>
        if (lg_cmp x16 x17) = 0 then
          some (.inl (some (aI ((((s0 + s1) + (0 : Int32)) + (1 : Int32)) + (0 : Int32)))), h15)
        else
          some (.inl (some (aI ((((s0 + s1) + (0 : Int32)) + (1 : Int32)) + (1 : Int32)))), h15))) xT
      else
        cL (E 138 [aR o] h13) (fun x19 h18 =>
        (gfL h18 o 11 10).bind (fun x20 =>
        if (lg_cmp x19 x20) = 0 then
          some (.inl (some (aI ((((s0 + s1) + (0 : Int32)) + (0 : Int32)) + (0 : Int32)))), h18)
        else
          some (.inl (some (aI ((((s0 + s1) + (0 : Int32)) + (0 : Int32)) + (1 : Int32)))), h18))) xT) xT)) xT) rfl rfl rfl (fun R E => rfl)
-- Chipcardhouse.allPostedAreGood()Z
set_option maxRecDepth 100000 in
theorem lf_136_0 (o : Option (Nat × Nat)) (h : Hp) : Ru 136 0 [(0, aR o)] [] h =
    Ru 136 2 [(0, aR o), (1, aI (0 : Int32))] [] h :=
  lift_of (k := 3) (rows := code_136) (cuts := cut_136) (hs := hdl_136) (r := fun R E =>
    R 2 [(0, aR o), (1, aI (0 : Int32))] [] h) rfl rfl rfl (fun R E => rfl)
set_option maxRecDepth 100000 in
theorem lf_136_2 (o : Option (Nat × Nat)) (v1 : Int32) (h : Hp) : Ru 136 2 [(0, aR o), (1, aI v1)] [] h =
    (gfR h o 11 5).bind (fun x1 =>
    cI (Ex 405 [aR x1] h) (fun x3 h2 =>
    if x3 ≤ v1 then
      some (.inl (some (aI (1 : Int32))), h2)
    else
      (gfR h2 o 11 6).bind (fun x4 =>
      cI (Ex 17 [aR x4, aI v1] h2) (fun x6 h5 =>
      if x6 = 0 then
        Ru 136 2 [(0, aR o), (1, aI (v1 + (1 : Int32)))] [] h5
      else
        (gfR h5 o 11 5).bind (fun x7 =>
        cR (Ex 402 [aR x7, aI v1] h5) (fun x9 h8 =>
        acc x9 7 h8 (
        cI (Ex 45 [aR x9] h8) (fun x11 h10 =>
        if x11 = 0 then
          some (.inl (some (aI (0 : Int32))), h10)
        else
          Ru 136 2 [(0, aR o), (1, aI (v1 + (1 : Int32)))] [] h10) xT)) xT)) xT)) xT) :=
  lift_of (k := 20) (rows := code_136) (cuts := cut_136) (hs := hdl_136) (r := fun R E =>
    (gfR h o 11 5).bind (fun x1 =>
    cI (E 405 [aR x1] h) (fun x3 h2 =>
    if x3 ≤ v1 then
      some (.inl (some (aI (1 : Int32))), h2)
    else
      (gfR h2 o 11 6).bind (fun x4 =>
      cI (E 17 [aR x4, aI v1] h2) (fun x6 h5 =>
      if x6 = 0 then
        R 2 [(0, aR o), (1, aI (v1 + (1 : Int32)))] [] h5
      else
        (gfR h5 o 11 5).bind (fun x7 =>
        cR (E 402 [aR x7, aI v1] h5) (fun x9 h8 =>
        acc x9 7 h8 (
        cI (E 45 [aR x9] h8) (fun x11 h10 =>
        if x11 = 0 then
          some (.inl (some (aI (0 : Int32))), h10)
        else
          R 2 [(0, aR o), (1, aI (v1 + (1 : Int32)))] [] h10) xT)) xT)) xT)) xT)) rfl rfl rfl (fun R E => rfl)
-- Chipcardhouse.allHoldsAreSummed()Z
set_option maxRecDepth 100000 in
theorem lf_137_0 (o : Option (Nat × Nat)) (h : Hp) : Ru 137 0 [(0, aR o)] [] h =
    Ru 137 2 [(0, aR o), (1, aI (0 : Int32))] [] h :=
  lift_of (k := 3) (rows := code_137) (cuts := cut_137) (hs := hdl_137) (r := fun R E =>
    R 2 [(0, aR o), (1, aI (0 : Int32))] [] h) rfl rfl rfl (fun R E => rfl)
set_option maxRecDepth 100000 in
theorem lf_137_2 (o : Option (Nat × Nat)) (v1 : Int32) (h : Hp) : Ru 137 2 [(0, aR o), (1, aI v1)] [] h =
    (gfR h o 11 2).bind (fun x1 =>
    cI (Ex 405 [aR x1] h) (fun x3 h2 =>
    if x3 ≤ v1 then
      some (.inl (some (aI (1 : Int32))), h2)
    else
      (gfR h2 o 11 6).bind (fun x4 =>
      (gfR h2 o 11 2).bind (fun x5 =>
      cR (Ex 402 [aR x5, aI v1] h2) (fun x7 h6 =>
      acc x7 0 h6 (
      cL (Ex 27 [aR x4, aR x7] h6) (fun x9 h8 =>
      (gfR h8 o 11 2).bind (fun x10 =>
      cR (Ex 402 [aR x10, aI v1] h8) (fun x12 h11 =>
      acc x12 0 h11 (
      (gfL h11 x12 0 1).bind (fun x13 =>
      if (lg_cmp x9 x13) = 0 then
        Ru 137 2 [(0, aR o), (1, aI (v1 + (1 : Int32)))] [] h11
      else
        some (.inl (some (aI (0 : Int32))), h11)))) xT)) xT)) xT))) xT) :=
  lift_of (k := 24) (rows := code_137) (cuts := cut_137) (hs := hdl_137) (r := fun R E =>
    (gfR h o 11 2).bind (fun x1 =>
    cI (E 405 [aR x1] h) (fun x3 h2 =>
    if x3 ≤ v1 then
      some (.inl (some (aI (1 : Int32))), h2)
    else
      (gfR h2 o 11 6).bind (fun x4 =>
      (gfR h2 o 11 2).bind (fun x5 =>
      cR (E 402 [aR x5, aI v1] h2) (fun x7 h6 =>
      acc x7 0 h6 (
      cL (E 27 [aR x4, aR x7] h6) (fun x9 h8 =>
      (gfR h8 o 11 2).bind (fun x10 =>
      cR (E 402 [aR x10, aI v1] h8) (fun x12 h11 =>
      acc x12 0 h11 (
      (gfL h11 x12 0 1).bind (fun x13 =>
      if (lg_cmp x9 x13) = 0 then
        R 2 [(0, aR o), (1, aI (v1 + (1 : Int32)))] [] h11
      else
        some (.inl (some (aI (0 : Int32))), h11)))) xT)) xT)) xT))) xT)) rfl rfl rfl (fun R E => rfl)
-- Chipcardhouse.allMoney()J
set_option maxRecDepth 100000 in
theorem lf_138_0 (o : Option (Nat × Nat)) (h : Hp) : Ru 138 0 [(0, aR o)] [] h =
    (gfL h o 11 9).bind (fun x1 =>
    Ru 138 7 [(0, aR o), (1, aL x1), (3, aI (0 : Int32))] [] h) :=
  lift_of (k := 6) (rows := code_138) (cuts := cut_138) (hs := hdl_138) (r := fun R E =>
    (gfL h o 11 9).bind (fun x1 =>
    R 7 [(0, aR o), (1, aL x1), (3, aI (0 : Int32))] [] h)) rfl rfl rfl (fun R E => rfl)
set_option maxRecDepth 100000 in
theorem lf_138_7 (o : Option (Nat × Nat)) (v1 : Int64) (v3 : Int32) (h : Hp) : Ru 138 7 [(0, aR o), (1, aL v1), (3, aI v3)] [] h =
    (gfR h o 11 2).bind (fun x1 =>
    cI (Ex 405 [aR x1] h) (fun x3 h2 =>
    if x3 ≤ v3 then
      Ru 138 43 [(0, aR o), (1, aL v1), (3, aI (0 : Int32))] [] h2
    else
      (gfR h2 o 11 2).bind (fun x4 =>
      cR (Ex 402 [aR x4, aI v3] h2) (fun x6 h5 =>
      acc x6 0 h5 (
      (gfL h5 x6 0 0).bind (fun x7 =>
      Ru 138 7 [(0, aR o), (1, aL (v1 + x7)), (3, aI (v3 + (1 : Int32)))] [] h5))) xT)) xT) :=
  lift_of (k := 17) (rows := code_138) (cuts := cut_138) (hs := hdl_138) (r := fun R E =>
    (gfR h o 11 2).bind (fun x1 =>
    cI (E 405 [aR x1] h) (fun x3 h2 =>
    if x3 ≤ v3 then
      R 43 [(0, aR o), (1, aL v1), (3, aI (0 : Int32))] [] h2
    else
      (gfR h2 o 11 2).bind (fun x4 =>
      cR (E 402 [aR x4, aI v3] h2) (fun x6 h5 =>
      acc x6 0 h5 (
      (gfL h5 x6 0 0).bind (fun x7 =>
      R 7 [(0, aR o), (1, aL (v1 + x7)), (3, aI (v3 + (1 : Int32)))] [] h5))) xT)) xT)) rfl rfl rfl (fun R E => rfl)
set_option maxRecDepth 100000 in
theorem lf_138_43 (o : Option (Nat × Nat)) (v1 : Int64) (v3 : Int32) (h : Hp) : Ru 138 43 [(0, aR o), (1, aL v1), (3, aI v3)] [] h =
    (gfR h o 11 3).bind (fun x1 =>
    cI (Ex 405 [aR x1] h) (fun x3 h2 =>
    if x3 ≤ v3 then
      some (.inl (some (aL v1)), h2)
    else
      (gfR h2 o 11 3).bind (fun x4 =>
      cR (Ex 402 [aR x4, aI v3] h2) (fun x6 h5 =>
      acc x6 10 h5 (
      (gfL h5 x6 10 11).bind (fun x7 =>
      (gfR h5 o 11 3).bind (fun x8 =>
      cR (Ex 402 [aR x8, aI v3] h5) (fun x10 h9 =>
      acc x10 10 h9 (
      (gfL h9 x10 10 12).bind (fun x11 =>
      Ru 138 43 [(0, aR o), (1, aL (v1 + (x7 + x11))), (3, aI (v3 + (1 : Int32)))] [] h9))) xT)))) xT)) xT) :=
  lift_of (k := 24) (rows := code_138) (cuts := cut_138) (hs := hdl_138) (r := fun R E =>
    (gfR h o 11 3).bind (fun x1 =>
    cI (E 405 [aR x1] h) (fun x3 h2 =>
    if x3 ≤ v3 then
      some (.inl (some (aL v1)), h2)
    else
      (gfR h2 o 11 3).bind (fun x4 =>
      cR (E 402 [aR x4, aI v3] h2) (fun x6 h5 =>
      acc x6 10 h5 (
      (gfL h5 x6 10 11).bind (fun x7 =>
      (gfR h5 o 11 3).bind (fun x8 =>
      cR (E 402 [aR x8, aI v3] h5) (fun x10 h9 =>
      acc x10 10 h9 (
      (gfL h9 x10 10 12).bind (fun x11 =>
      R 43 [(0, aR o), (1, aL (v1 + (x7 + x11))), (3, aI (v3 + (1 : Int32)))] [] h9))) xT)))) xT)) xT)) rfl rfl rfl (fun R E => rfl)
-- Chipcardhouse.isWithin(III)Z
set_option maxRecDepth 100000 in
theorem lf_139_0 (p0 : Int32) (p1 : Int32) (p2 : Int32) (h : Hp) : Ru 139 0 [(0, aI p0), (1, aI p1), (2, aI p2)] [] h =
    if p0 < p1 then
      some (.inl (some (aI (0 : Int32))), h)
    else
      if p2 < p0 then
        some (.inl (some (aI (0 : Int32))), h)
      else
        some (.inl (some (aI (1 : Int32))), h) :=
  lift_of (k := 10) (rows := code_139) (cuts := cut_139) (hs := hdl_139) (r := fun R E =>
    if p0 < p1 then
      some (.inl (some (aI (0 : Int32))), h)
    else
      if p2 < p0 then
        some (.inl (some (aI (0 : Int32))), h)
      else
        some (.inl (some (aI (1 : Int32))), h)) rfl rfl rfl (fun R E => rfl)
-- Chipcardhouse.refusalOfNumber(II)I
set_option maxRecDepth 100000 in
theorem lf_140_0 (p0 : Int32) (p1 : Int32) (h : Hp) : Ru 140 0 [(0, aI p0), (1, aI p1)] [] h =
    cI (Ex 139 [aI p0, aI (0 : Int32), aI (p1 - (1 : Int32))] h) (fun x2 h1 =>
    if x2 = 0 then
      some (.inl (some (aI (1 : Int32))), h1)
    else
      some (.inl (some (aI (0 : Int32))), h1)) xT :=
  lift_of (k := 11) (rows := code_140) (cuts := cut_140) (hs := hdl_140) (r := fun R E =>
    cI (E 139 [aI p0, aI (0 : Int32), aI (p1 - (1 : Int32))] h) (fun x2 h1 =>
    if x2 = 0 then
      some (.inl (some (aI (1 : Int32))), h1)
    else
      some (.inl (some (aI (0 : Int32))), h1)) xT) rfl rfl rfl (fun R E => rfl)
-- Chipcardhouse.refusalOfQuestion(IIII)I
set_option maxRecDepth 100000 in
theorem lf_141_0 (p0 : Int32) (p1 : Int32) (p2 : Int32) (p3 : Int32) (h : Hp) : Ru 141 0 [(0, aI p0), (1, aI p1), (2, aI p2), (3, aI p3)] [] h =
    cI (Ex 139 [aI p0, aI (0 : Int32), aI (p1 - (1 : Int32))] h) (fun x2 h1 =>
    if x2 = 0 then
      some (.inl (some (aI (1 : Int32))), h1)
    else
      cI (Ex 139 [aI p2, aI (0 : Int32), aI p3] h1) (fun x4 h3 =>
      if x4 = 0 then
        some (.inl (some (aI (2 : Int32))), h3)
      else
        some (.inl (some (aI (0 : Int32))), h3)) xT) xT :=
  lift_of (k := 16) (rows := code_141) (cuts := cut_141) (hs := hdl_141) (r := fun R E =>
    cI (E 139 [aI p0, aI (0 : Int32), aI (p1 - (1 : Int32))] h) (fun x2 h1 =>
    if x2 = 0 then
      some (.inl (some (aI (1 : Int32))), h1)
    else
      cI (E 139 [aI p2, aI (0 : Int32), aI p3] h1) (fun x4 h3 =>
      if x4 = 0 then
        some (.inl (some (aI (2 : Int32))), h3)
      else
        some (.inl (some (aI (0 : Int32))), h3)) xT) xT) rfl rfl rfl (fun R E => rfl)
-- Chipcardhouse.raise(I)V
set_option maxRecDepth 100000 in
theorem lf_142_0 (p0 : Int32) (h : Hp) : Ru 142 0 [(0, aI p0)] [] h =
    if p0 = (1 : Int32) then
      some (.inr 32, (hC h 1 6))
    else
      if p0 = (2 : Int32) then
        some (.inr 30, (hC h 1 6))
      else
        if p0 = (3 : Int32) then
          some (.inr 31, (hC h 1 6))
        else
          some (.inl none, h) :=
  lift_of (k := 11) (rows := code_142) (cuts := cut_142) (hs := hdl_142) (r := fun R E =>
    if p0 = (1 : Int32) then
      some (.inr 32, (hC h 1 6))
    else
      if p0 = (2 : Int32) then
        some (.inr 30, (hC h 1 6))
      else
        if p0 = (3 : Int32) then
          some (.inr 31, (hC h 1 6))
        else
          some (.inl none, h)) rfl rfl rfl (fun R E => rfl)
-- ChipcardhouseModel$Bank.<init>()V
set_option maxRecDepth 100000 in
theorem lf_143_0 (o : Option (Nat × Nat)) (h : Hp) : Ru 143 0 [(0, aR o)] [] h =
    cV (Ex 420 [aR o] h) (fun h1 =>
    (nwa h1 43 1001 (8 : Int32)).bind (fun q2 =>
    (pf q2.2 o 12 0 (aR q2.1)).bind (fun h3 =>
    (nwa h3 44 1001 (8 : Int32)).bind (fun q4 =>
    (pf q4.2 o 12 1 (aR q4.1)).bind (fun h5 =>
    (nwa h5 45 1001 (4 : Int32)).bind (fun q6 =>
    (pf q6.2 o 12 2 (aR q6.1)).bind (fun h7 =>
    (nwa h7 46 1001 (4 : Int32)).bind (fun q8 =>
    (pf q8.2 o 12 3 (aR q8.1)).bind (fun h9 =>
    (nwa h9 47 1002 (8 : Int32)).bind (fun q10 =>
    (pf q10.2 o 12 4 (aR q10.1)).bind (fun h11 =>
    some (.inl none, h11)))))))))))) xT :=
  lift_of (k := 24) (rows := code_143) (cuts := cut_143) (hs := hdl_143) (r := fun R E =>
    cV (E 420 [aR o] h) (fun h1 =>
    (nwa h1 43 1001 (8 : Int32)).bind (fun q2 =>
    (pf q2.2 o 12 0 (aR q2.1)).bind (fun h3 =>
    (nwa h3 44 1001 (8 : Int32)).bind (fun q4 =>
    (pf q4.2 o 12 1 (aR q4.1)).bind (fun h5 =>
    (nwa h5 45 1001 (4 : Int32)).bind (fun q6 =>
    (pf q6.2 o 12 2 (aR q6.1)).bind (fun h7 =>
    (nwa h7 46 1001 (4 : Int32)).bind (fun q8 =>
    (pf q8.2 o 12 3 (aR q8.1)).bind (fun h9 =>
    (nwa h9 47 1002 (8 : Int32)).bind (fun q10 =>
    (pf q10.2 o 12 4 (aR q10.1)).bind (fun h11 =>
    some (.inl none, h11)))))))))))) xT) rfl rfl rfl (fun R E => rfl)
-- ChipcardhouseModel$Bank.balance(I)J
set_option maxRecDepth 100000 in
theorem lf_144_0 (o : Option (Nat × Nat)) (p0 : Int32) (h : Hp) : Ru 144 0 [(0, aR o), (1, aI p0)] [] h =
    (gfR h o 12 0).bind (fun x1 =>
    (gaL h x1 1001 p0).bind (fun x2 =>
    some (.inl (some (aL x2)), h))) :=
  lift_of (k := 6) (rows := code_144) (cuts := cut_144) (hs := hdl_144) (r := fun R E =>
    (gfR h o 12 0).bind (fun x1 =>
    (gaL h x1 1001 p0).bind (fun x2 =>
    some (.inl (some (aL x2)), h)))) rfl rfl rfl (fun R E => rfl)
-- ChipcardhouseModel$Bank.held(I)J
set_option maxRecDepth 100000 in
theorem lf_145_0 (o : Option (Nat × Nat)) (p0 : Int32) (h : Hp) : Ru 145 0 [(0, aR o), (1, aI p0)] [] h =
    (gfR h o 12 1).bind (fun x1 =>
    (gaL h x1 1001 p0).bind (fun x2 =>
    some (.inl (some (aL x2)), h))) :=
  lift_of (k := 6) (rows := code_145) (cuts := cut_145) (hs := hdl_145) (r := fun R E =>
    (gfR h o 12 1).bind (fun x1 =>
    (gaL h x1 1001 p0).bind (fun x2 =>
    some (.inl (some (aL x2)), h)))) rfl rfl rfl (fun R E => rfl)
-- ChipcardhouseModel$Bank.isFrozen(I)Z
set_option maxRecDepth 100000 in
theorem lf_146_0 (o : Option (Nat × Nat)) (p0 : Int32) (h : Hp) : Ru 146 0 [(0, aR o), (1, aI p0)] [] h =
    (gfR h o 12 4).bind (fun x1 =>
    (gaI h x1 1002 p0).bind (fun x2 =>
    gz x2 (some (.inl (some (aI x2)), h)))) :=
  lift_of (k := 6) (rows := code_146) (cuts := cut_146) (hs := hdl_146) (r := fun R E =>
    (gfR h o 12 4).bind (fun x1 =>
    (gaI h x1 1002 p0).bind (fun x2 =>
    gz x2 (some (.inl (some (aI x2)), h))))) rfl rfl rfl (fun R E => rfl)
-- ChipcardhouseModel$Bank.holds(II)V
set_option maxRecDepth 100000 in
theorem lf_147_0 (o : Option (Nat × Nat)) (p0 : Int32) (p1 : Int32) (h : Hp) : Ru 147 0 [(0, aR o), (1, aI p0), (2, aI p1)] [] h =
    (gfR h o 12 1).bind (fun x1 =>
    (gaL h x1 1001 p0).bind (fun x2 =>
    (pa h x1 1001 p0 (aL (x2 + p1.toInt64))).bind (fun h3 =>
    some (.inl none, h3)))) :=
  lift_of (k := 11) (rows := code_147) (cuts := cut_147) (hs := hdl_147) (r := fun R E =>
    (gfR h o 12 1).bind (fun x1 =>
    (gaL h x1 1001 p0).bind (fun x2 =>
    (pa h x1 1001 p0 (aL (x2 + p1.toInt64))).bind (fun h3 =>
    some (.inl none, h3))))) rfl rfl rfl (fun R E => rfl)
-- ChipcardhouseModel$Bank.frees(II)V
set_option maxRecDepth 100000 in
theorem lf_148_0 (o : Option (Nat × Nat)) (p0 : Int32) (p1 : Int32) (h : Hp) : Ru 148 0 [(0, aR o), (1, aI p0), (2, aI p1)] [] h =
    (gfR h o 12 1).bind (fun x1 =>
    (gaL h x1 1001 p0).bind (fun x2 =>
    (pa h x1 1001 p0 (aL (x2 - p1.toInt64))).bind (fun h3 =>
    some (.inl none, h3)))) :=
  lift_of (k := 11) (rows := code_148) (cuts := cut_148) (hs := hdl_148) (r := fun R E =>
    (gfR h o 12 1).bind (fun x1 =>
    (gaL h x1 1001 p0).bind (fun x2 =>
    (pa h x1 1001 p0 (aL (x2 - p1.toInt64))).bind (fun h3 =>
    some (.inl none, h3))))) rfl rfl rfl (fun R E => rfl)
-- ChipcardhouseModel$Bank.posts(III)V
set_option maxRecDepth 100000 in
theorem lf_149_0 (o : Option (Nat × Nat)) (p0 : Int32) (p1 : Int32) (p2 : Int32) (h : Hp) : Ru 149 0 [(0, aR o), (1, aI p0), (2, aI p1), (3, aI p2)] [] h =
    (gfR h o 12 0).bind (fun x1 =>
    (gaL h x1 1001 p0).bind (fun x2 =>
    (pa h x1 1001 p0 (aL (x2 - p2.toInt64))).bind (fun h3 =>
    (gfR h3 o 12 3).bind (fun x4 =>
    (gaL h3 x4 1001 p1).bind (fun x5 =>
    (pa h3 x4 1001 p1 (aL (x5 + p2.toInt64))).bind (fun h6 =>
    some (.inl none, h6))))))) :=
  lift_of (k := 20) (rows := code_149) (cuts := cut_149) (hs := hdl_149) (r := fun R E =>
    (gfR h o 12 0).bind (fun x1 =>
    (gaL h x1 1001 p0).bind (fun x2 =>
    (pa h x1 1001 p0 (aL (x2 - p2.toInt64))).bind (fun h3 =>
    (gfR h3 o 12 3).bind (fun x4 =>
    (gaL h3 x4 1001 p1).bind (fun x5 =>
    (pa h3 x4 1001 p1 (aL (x5 + p2.toInt64))).bind (fun h6 =>
    some (.inl none, h6)))))))) rfl rfl rfl (fun R E => rfl)
-- ChipcardhouseModel$Bank.givesBack(III)V
set_option maxRecDepth 100000 in
theorem lf_150_0 (o : Option (Nat × Nat)) (p0 : Int32) (p1 : Int32) (p2 : Int32) (h : Hp) : Ru 150 0 [(0, aR o), (1, aI p0), (2, aI p1), (3, aI p2)] [] h =
    cV (Ex 149 [aR o, aI p0, aI p1, aI (-p2)] h) (fun h1 =>
    some (.inl none, h1)) xT :=
  lift_of (k := 8) (rows := code_150) (cuts := cut_150) (hs := hdl_150) (r := fun R E =>
    cV (E 149 [aR o, aI p0, aI p1, aI (-p2)] h) (fun h1 =>
    some (.inl none, h1)) xT) rfl rfl rfl (fun R E => rfl)
-- ChipcardhouseModel$Bank.settles(I)V
set_option maxRecDepth 100000 in
theorem lf_151_0 (o : Option (Nat × Nat)) (p0 : Int32) (h : Hp) : Ru 151 0 [(0, aR o), (1, aI p0)] [] h =
    Ru 151 2 [(0, aR o), (1, aI p0), (2, aI (0 : Int32))] [] h :=
  lift_of (k := 3) (rows := code_151) (cuts := cut_151) (hs := hdl_151) (r := fun R E =>
    R 2 [(0, aR o), (1, aI p0), (2, aI (0 : Int32))] [] h) rfl rfl rfl (fun R E => rfl)
set_option maxRecDepth 100000 in
theorem lf_151_2 (o : Option (Nat × Nat)) (v1 : Int32) (v2 : Int32) (h : Hp) : Ru 151 2 [(0, aR o), (1, aI v1), (2, aI v2)] [] h =
    (gfI h o 12 6).bind (fun x1 =>
    if x1 ≤ v2 then
      some (.inl none, h)
    else
      (gfR h o 12 3).bind (fun x2 =>
      (gaL h x2 1001 v2).bind (fun x3 =>
      if (lg_cmp x3 (0 : Int64)) ≤ 0 then
        (gfR h o 12 2).bind (fun x4 =>
        (gaL h x4 1001 v2).bind (fun x5 =>
        cL (Ex 318 [aL (-x3), aL x5] h) (fun x7 h6 =>
        (gfR h6 o 12 2).bind (fun x8 =>
        (gaL h6 x8 1001 v2).bind (fun x9 =>
        (pa h6 x8 1001 v2 (aL (x9 - x7))).bind (fun h10 =>
        (gfR h10 o 12 3).bind (fun x11 =>
        (gaL h10 x11 1001 v2).bind (fun x12 =>
        (pa h10 x11 1001 v2 (aL (x12 + x7))).bind (fun h13 =>
        Ru 151 2 [(0, aR o), (1, aI v1), (2, aI (v2 + (1 : Int32)))] [] h13))))))) xT))
      else
        (gfL h o 12 7).bind (fun x14 =>
        (pf h o 12 7 (aL (x14 + ((x3 * v1.toInt64) / (10000 : Int64))))).bind (fun h15 =>
        (gfR h15 o 12 2).bind (fun x16 =>
        (gaL h15 x16 1001 v2).bind (fun x17 =>
        (pa h15 x16 1001 v2 (aL (x17 + (x3 - ((x3 * v1.toInt64) / (10000 : Int64)))))).bind (fun h18 =>
        (gfR h18 o 12 3).bind (fun x19 =>
        (pa h18 x19 1001 v2 (aL (0 : Int64))).bind (fun h20 =>
        Ru 151 2 [(0, aR o), (1, aI v1), (2, aI (v2 + (1 : Int32)))] [] h20)))))))))) :=
  lift_of (k := 45) (rows := code_151) (cuts := cut_151) (hs := hdl_151) (r := fun R E =>
    (gfI h o 12 6).bind (fun x1 =>
    if x1 ≤ v2 then
      some (.inl none, h)
    else
      (gfR h o 12 3).bind (fun x2 =>
      (gaL h x2 1001 v2).bind (fun x3 =>
      if (lg_cmp x3 (0 : Int64)) ≤ 0 then
        (gfR h o 12 2).bind (fun x4 =>
        (gaL h x4 1001 v2).bind (fun x5 =>
        cL (E 318 [aL (-x3), aL x5] h) (fun x7 h6 =>
        (gfR h6 o 12 2).bind (fun x8 =>
        (gaL h6 x8 1001 v2).bind (fun x9 =>
        (pa h6 x8 1001 v2 (aL (x9 - x7))).bind (fun h10 =>
        (gfR h10 o 12 3).bind (fun x11 =>
        (gaL h10 x11 1001 v2).bind (fun x12 =>
        (pa h10 x11 1001 v2 (aL (x12 + x7))).bind (fun h13 =>
        R 2 [(0, aR o), (1, aI v1), (2, aI (v2 + (1 : Int32)))] [] h13))))))) xT))
      else
        (gfL h o 12 7).bind (fun x14 =>
        (pf h o 12 7 (aL (x14 + ((x3 * v1.toInt64) / (10000 : Int64))))).bind (fun h15 =>
        (gfR h15 o 12 2).bind (fun x16 =>
        (gaL h15 x16 1001 v2).bind (fun x17 =>
        (pa h15 x16 1001 v2 (aL (x17 + (x3 - ((x3 * v1.toInt64) / (10000 : Int64)))))).bind (fun h18 =>
        (gfR h18 o 12 3).bind (fun x19 =>
        (pa h18 x19 1001 v2 (aL (0 : Int64))).bind (fun h20 =>
        R 2 [(0, aR o), (1, aI v1), (2, aI (v2 + (1 : Int32)))] [] h20))))))))))) rfl rfl rfl (fun R E => rfl)
-- ChipcardhouseModel$Bank.isAllThere()Z
set_option maxRecDepth 100000 in
theorem lf_152_0 (o : Option (Nat × Nat)) (h : Hp) : Ru 152 0 [(0, aR o)] [] h =
    (gfL h o 12 7).bind (fun x1 =>
    Ru 152 7 [(0, aR o), (1, aL x1), (3, aI (0 : Int32))] [] h) :=
  lift_of (k := 6) (rows := code_152) (cuts := cut_152) (hs := hdl_152) (r := fun R E =>
    (gfL h o 12 7).bind (fun x1 =>
    R 7 [(0, aR o), (1, aL x1), (3, aI (0 : Int32))] [] h)) rfl rfl rfl (fun R E => rfl)
set_option maxRecDepth 100000 in
theorem lf_152_7 (o : Option (Nat × Nat)) (v1 : Int64) (v3 : Int32) (h : Hp) : Ru 152 7 [(0, aR o), (1, aL v1), (3, aI v3)] [] h =
    (gfI h o 12 5).bind (fun x1 =>
    if x1 ≤ v3 then
      Ru 152 32 [(0, aR o), (1, aL v1), (3, aI (0 : Int32))] [] h
    else
      (gfR h o 12 0).bind (fun x2 =>
      (gaL h x2 1001 v3).bind (fun x3 =>
      Ru 152 7 [(0, aR o), (1, aL (v1 + x3)), (3, aI (v3 + (1 : Int32)))] [] h))) :=
  lift_of (k := 14) (rows := code_152) (cuts := cut_152) (hs := hdl_152) (r := fun R E =>
    (gfI h o 12 5).bind (fun x1 =>
    if x1 ≤ v3 then
      R 32 [(0, aR o), (1, aL v1), (3, aI (0 : Int32))] [] h
    else
      (gfR h o 12 0).bind (fun x2 =>
      (gaL h x2 1001 v3).bind (fun x3 =>
      R 7 [(0, aR o), (1, aL (v1 + x3)), (3, aI (v3 + (1 : Int32)))] [] h)))) rfl rfl rfl (fun R E => rfl)
set_option maxRecDepth 100000 in
theorem lf_152_32 (o : Option (Nat × Nat)) (v1 : Int64) (v3 : Int32) (h : Hp) : Ru 152 32 [(0, aR o), (1, aL v1), (3, aI v3)] [] h =
    (gfI h o 12 6).bind (fun x1 =>
    if x1 ≤ v3 then
      (gfL h o 12 8).bind (fun x2 =>
      if (lg_cmp v1 x2) = 0 then
        some (.inl (some (aI (1 : Int32))), h)
      else
        some (.inl (some (aI (0 : Int32))), h))
    else
      (gfR h o 12 2).bind (fun x3 =>
      (gaL h x3 1001 v3).bind (fun x4 =>
      (gfR h o 12 3).bind (fun x5 =>
      (gaL h x5 1001 v3).bind (fun x6 =>
      Ru 152 32 [(0, aR o), (1, aL (v1 + (x4 + x6))), (3, aI (v3 + (1 : Int32)))] [] h))))) :=
  lift_of (k := 19) (rows := code_152) (cuts := cut_152) (hs := hdl_152) (r := fun R E =>
    (gfI h o 12 6).bind (fun x1 =>
    if x1 ≤ v3 then
      (gfL h o 12 8).bind (fun x2 =>
      if (lg_cmp v1 x2) = 0 then
        some (.inl (some (aI (1 : Int32))), h)
      else
        some (.inl (some (aI (0 : Int32))), h))
    else
      (gfR h o 12 2).bind (fun x3 =>
      (gaL h x3 1001 v3).bind (fun x4 =>
      (gfR h o 12 3).bind (fun x5 =>
      (gaL h x5 1001 v3).bind (fun x6 =>
      R 32 [(0, aR o), (1, aL (v1 + (x4 + x6))), (3, aI (v3 + (1 : Int32)))] [] h)))))) rfl rfl rfl (fun R E => rfl)
-- ChipcardhouseModel$Cable.<init>()V
set_option maxRecDepth 100000 in
theorem lf_153_0 (o : Option (Nat × Nat)) (h : Hp) : Ru 153 0 [(0, aR o)] [] h =
    cV (Ex 420 [aR o] h) (fun h1 =>
    (nwa h1 48 1000 (3 : Int32)).bind (fun q2 =>
    (pf q2.2 o 13 0 (aR q2.1)).bind (fun h3 =>
    (nwa h3 49 1000 (32 : Int32)).bind (fun q4 =>
    (pf q4.2 o 13 2 (aR q4.1)).bind (fun h5 =>
    (nwa h5 50 1028 (32 : Int32)).bind (fun q6 =>
    (pf q6.2 o 13 3 (aR q6.1)).bind (fun h7 =>
    some (.inl none, h7)))))))) xT :=
  lift_of (k := 16) (rows := code_153) (cuts := cut_153) (hs := hdl_153) (r := fun R E =>
    cV (E 420 [aR o] h) (fun h1 =>
    (nwa h1 48 1000 (3 : Int32)).bind (fun q2 =>
    (pf q2.2 o 13 0 (aR q2.1)).bind (fun h3 =>
    (nwa h3 49 1000 (32 : Int32)).bind (fun q4 =>
    (pf q4.2 o 13 2 (aR q4.1)).bind (fun h5 =>
    (nwa h5 50 1028 (32 : Int32)).bind (fun q6 =>
    (pf q6.2 o 13 3 (aR q6.1)).bind (fun h7 =>
    some (.inl none, h7)))))))) xT) rfl rfl rfl (fun R E => rfl)
-- ChipcardhouseModel$Cable.lays(ILChipcardhouseModel$Mail;)V
set_option maxRecDepth 100000 in
theorem lf_154_0 (o : Option (Nat × Nat)) (p0 : Int32) (p1 : Option (Nat × Nat)) (h : Hp) : Ru 154 0 [(0, aR o), (1, aI p0), (2, aR p1)] [] h =
    (gfI h o 13 1).bind (fun x1 =>
    (gfR h o 13 2).bind (fun x2 =>
    (len h x2).bind (fun x3 =>
    if x1 = x3 then
      (gfI h o 13 1).bind (fun x4 =>
      (nwa h 51 1000 ((2 : Int32) * x4)).bind (fun q5 =>
      (gfI q5.2 o 13 1).bind (fun x6 =>
      (nwa q5.2 52 1028 ((2 : Int32) * x6)).bind (fun q7 =>
      Ru 154 35 [(0, aR o), (1, aI p0), (2, aR p1), (3, aR q5.1), (4, aR q7.1), (5, aI (0 : Int32))] [] q7.2))))
    else
      (gfR h o 13 2).bind (fun x8 =>
      (gfI h o 13 1).bind (fun x9 =>
      (pa h x8 1000 x9 (aI p0)).bind (fun h10 =>
      (gfR h10 o 13 3).bind (fun x11 =>
      (gfI h10 o 13 1).bind (fun x12 =>
      (paR h10 x11 x12 p1).bind (fun h13 =>
      (gfI h13 o 13 1).bind (fun x14 =>
      (pf h13 o 13 1 (aI (x14 + (1 : Int32)))).bind (fun h15 =>
      some (.inl none, h15)))))))))))) :=
  lift_of (k := 26) (rows := code_154) (cuts := cut_154) (hs := hdl_154) (r := fun R E =>
    (gfI h o 13 1).bind (fun x1 =>
    (gfR h o 13 2).bind (fun x2 =>
    (len h x2).bind (fun x3 =>
    if x1 = x3 then
      (gfI h o 13 1).bind (fun x4 =>
      (nwa h 51 1000 ((2 : Int32) * x4)).bind (fun q5 =>
      (gfI q5.2 o 13 1).bind (fun x6 =>
      (nwa q5.2 52 1028 ((2 : Int32) * x6)).bind (fun q7 =>
      R 35 [(0, aR o), (1, aI p0), (2, aR p1), (3, aR q5.1), (4, aR q7.1), (5, aI (0 : Int32))] [] q7.2))))
    else
      (gfR h o 13 2).bind (fun x8 =>
      (gfI h o 13 1).bind (fun x9 =>
      (pa h x8 1000 x9 (aI p0)).bind (fun h10 =>
      (gfR h10 o 13 3).bind (fun x11 =>
      (gfI h10 o 13 1).bind (fun x12 =>
      (paR h10 x11 x12 p1).bind (fun h13 =>
      (gfI h13 o 13 1).bind (fun x14 =>
      (pf h13 o 13 1 (aI (x14 + (1 : Int32)))).bind (fun h15 =>
      some (.inl none, h15))))))))))))) rfl rfl rfl (fun R E => rfl)
set_option maxRecDepth 100000 in
theorem lf_154_35 (o : Option (Nat × Nat)) (v1 : Int32) (v2 : Option (Nat × Nat)) (v3 : Option (Nat × Nat)) (v4 : Option (Nat × Nat)) (v5 : Int32) (h : Hp) : Ru 154 35 [(0, aR o), (1, aI v1), (2, aR v2), (3, aR v3), (4, aR v4), (5, aI v5)] [] h =
    (gfI h o 13 1).bind (fun x1 =>
    if x1 ≤ v5 then
      (pf h o 13 2 (aR v3)).bind (fun h2 =>
      (pf h2 o 13 3 (aR v4)).bind (fun h3 =>
      (gfR h3 o 13 2).bind (fun x4 =>
      (gfI h3 o 13 1).bind (fun x5 =>
      (pa h3 x4 1000 x5 (aI v1)).bind (fun h6 =>
      (gfR h6 o 13 3).bind (fun x7 =>
      (gfI h6 o 13 1).bind (fun x8 =>
      (paR h6 x7 x8 v2).bind (fun h9 =>
      (gfI h9 o 13 1).bind (fun x10 =>
      (pf h9 o 13 1 (aI (x10 + (1 : Int32)))).bind (fun h11 =>
      some (.inl none, h11)))))))))))
    else
      (gfR h o 13 2).bind (fun x12 =>
      (gaI h x12 1000 v5).bind (fun x13 =>
      (pa h v3 1000 v5 (aI x13)).bind (fun h14 =>
      (gfR h14 o 13 3).bind (fun x15 =>
      (gaR h14 x15 v5).bind (fun x16 =>
      (paR h14 v4 v5 x16).bind (fun h17 =>
      Ru 154 35 [(0, aR o), (1, aI v1), (2, aR v2), (3, aR v3), (4, aR v4), (5, aI (v5 + (1 : Int32)))] [] h17))))))) :=
  lift_of (k := 30) (rows := code_154) (cuts := cut_154) (hs := hdl_154) (r := fun R E =>
    (gfI h o 13 1).bind (fun x1 =>
    if x1 ≤ v5 then
      (pf h o 13 2 (aR v3)).bind (fun h2 =>
      (pf h2 o 13 3 (aR v4)).bind (fun h3 =>
      (gfR h3 o 13 2).bind (fun x4 =>
      (gfI h3 o 13 1).bind (fun x5 =>
      (pa h3 x4 1000 x5 (aI v1)).bind (fun h6 =>
      (gfR h6 o 13 3).bind (fun x7 =>
      (gfI h6 o 13 1).bind (fun x8 =>
      (paR h6 x7 x8 v2).bind (fun h9 =>
      (gfI h9 o 13 1).bind (fun x10 =>
      (pf h9 o 13 1 (aI (x10 + (1 : Int32)))).bind (fun h11 =>
      some (.inl none, h11)))))))))))
    else
      (gfR h o 13 2).bind (fun x12 =>
      (gaI h x12 1000 v5).bind (fun x13 =>
      (pa h v3 1000 v5 (aI x13)).bind (fun h14 =>
      (gfR h14 o 13 3).bind (fun x15 =>
      (gaR h14 x15 v5).bind (fun x16 =>
      (paR h14 v4 v5 x16).bind (fun h17 =>
      R 35 [(0, aR o), (1, aI v1), (2, aR v2), (3, aR v3), (4, aR v4), (5, aI (v5 + (1 : Int32)))] [] h17)))))))) rfl rfl rfl (fun R E => rfl)
-- ChipcardhouseModel$Cable.puts(IILChipcardhouseModel$Mail;)V
set_option maxRecDepth 100000 in
theorem lf_155_0 (o : Option (Nat × Nat)) (p0 : Int32) (p1 : Int32) (p2 : Option (Nat × Nat)) (h : Hp) : Ru 155 0 [(0, aR o), (1, aI p0), (2, aI p1), (3, aR p2)] [] h =
    (gfR h o 13 0).bind (fun x1 =>
    (gaI h x1 1000 (0 : Int32)).bind (fun x2 =>
    if x2 ≤ 0 then
      (gfR h o 13 0).bind (fun x3 =>
      (gaI h x3 1000 (1 : Int32)).bind (fun x4 =>
      if x4 ≤ 0 then
        (gfR h o 13 0).bind (fun x5 =>
        (gaI h x5 1000 (2 : Int32)).bind (fun x6 =>
        if x6 ≤ 0 then
          cV (Ex 154 [aR o, aI (p0 + p1), aR p2] h) (fun h7 =>
          some (.inl none, h7)) xT
        else
          (gfR h o 13 0).bind (fun x8 =>
          (gaI h x8 1000 (2 : Int32)).bind (fun x9 =>
          (pa h x8 1000 (2 : Int32) (aI (x9 - (1 : Int32)))).bind (fun h10 =>
          cV (Ex 154 [aR o, aI ((p0 + p1) + (4 : Int32)), aR p2] h10) (fun h11 =>
          some (.inl none, h11)) xT)))))
      else
        (gfR h o 13 0).bind (fun x12 =>
        (gaI h x12 1000 (1 : Int32)).bind (fun x13 =>
        (pa h x12 1000 (1 : Int32) (aI (x13 - (1 : Int32)))).bind (fun h14 =>
        cV (Ex 154 [aR o, aI (p0 + p1), aR p2] h14) (fun h15 =>
        cV (Ex 154 [aR o, aI (p0 + p1), aR p2] h15) (fun h16 =>
        some (.inl none, h16)) xT) xT)))))
    else
      (gfR h o 13 0).bind (fun x17 =>
      (gaI h x17 1000 (0 : Int32)).bind (fun x18 =>
      (pa h x17 1000 (0 : Int32) (aI (x18 - (1 : Int32)))).bind (fun h19 =>
      some (.inl none, h19)))))) :=
  lift_of (k := 34) (rows := code_155) (cuts := cut_155) (hs := hdl_155) (r := fun R E =>
    (gfR h o 13 0).bind (fun x1 =>
    (gaI h x1 1000 (0 : Int32)).bind (fun x2 =>
    if x2 ≤ 0 then
      (gfR h o 13 0).bind (fun x3 =>
      (gaI h x3 1000 (1 : Int32)).bind (fun x4 =>
      if x4 ≤ 0 then
        (gfR h o 13 0).bind (fun x5 =>
        (gaI h x5 1000 (2 : Int32)).bind (fun x6 =>
        if x6 ≤ 0 then
          cV (E 154 [aR o, aI (p0 + p1), aR p2] h) (fun h7 =>
          some (.inl none, h7)) xT
        else
          (gfR h o 13 0).bind (fun x8 =>
          (gaI h x8 1000 (2 : Int32)).bind (fun x9 =>
          (pa h x8 1000 (2 : Int32) (aI (x9 - (1 : Int32)))).bind (fun h10 =>
          cV (E 154 [aR o, aI ((p0 + p1) + (4 : Int32)), aR p2] h10) (fun h11 =>
          some (.inl none, h11)) xT)))))
      else
        (gfR h o 13 0).bind (fun x12 =>
        (gaI h x12 1000 (1 : Int32)).bind (fun x13 =>
        (pa h x12 1000 (1 : Int32) (aI (x13 - (1 : Int32)))).bind (fun h14 =>
        cV (E 154 [aR o, aI (p0 + p1), aR p2] h14) (fun h15 =>
        cV (E 154 [aR o, aI (p0 + p1), aR p2] h15) (fun h16 =>
        some (.inl none, h16)) xT) xT)))))
    else
      (gfR h o 13 0).bind (fun x17 =>
      (gaI h x17 1000 (0 : Int32)).bind (fun x18 =>
      (pa h x17 1000 (0 : Int32) (aI (x18 - (1 : Int32)))).bind (fun h19 =>
      some (.inl none, h19))))))) rfl rfl rfl (fun R E => rfl)
-- ChipcardhouseModel$Cable.takes(I)LChipcardhouseModel$Mail;
set_option maxRecDepth 100000 in
theorem lf_156_0 (o : Option (Nat × Nat)) (p0 : Int32) (h : Hp) : Ru 156 0 [(0, aR o), (1, aI p0)] [] h =
    Ru 156 2 [(0, aR o), (1, aI p0), (2, aI (0 : Int32))] [] h :=
  lift_of (k := 3) (rows := code_156) (cuts := cut_156) (hs := hdl_156) (r := fun R E =>
    R 2 [(0, aR o), (1, aI p0), (2, aI (0 : Int32))] [] h) rfl rfl rfl (fun R E => rfl)
set_option maxRecDepth 100000 in
theorem lf_156_2 (o : Option (Nat × Nat)) (v1 : Int32) (v2 : Int32) (h : Hp) : Ru 156 2 [(0, aR o), (1, aI v1), (2, aI v2)] [] h =
    (gfI h o 13 1).bind (fun x1 =>
    if x1 ≤ v2 then
      (gfI h o 13 1).bind (fun x2 =>
      if v2 = x2 then
        some (.inl (some (aR none)), h)
      else
        (gfR h o 13 3).bind (fun x3 =>
        (gaR h x3 v2).bind (fun x4 =>
        (gfI h o 13 1).bind (fun x5 =>
        (pf h o 13 1 (aI (x5 - (1 : Int32)))).bind (fun h6 =>
        Ru 156 56 [(0, aR o), (3, aR x4), (4, aI v2)] [] h6)))))
    else
      (gfR h o 13 2).bind (fun x7 =>
      (gaI h x7 1000 v2).bind (fun x8 =>
      if x8 = v1 then
        (gfI h o 13 1).bind (fun x9 =>
        if v2 = x9 then
          some (.inl (some (aR none)), h)
        else
          (gfR h o 13 3).bind (fun x10 =>
          (gaR h x10 v2).bind (fun x11 =>
          (gfI h o 13 1).bind (fun x12 =>
          (pf h o 13 1 (aI (x12 - (1 : Int32)))).bind (fun h13 =>
          Ru 156 56 [(0, aR o), (3, aR x11), (4, aI v2)] [] h13)))))
      else
        Ru 156 2 [(0, aR o), (1, aI v1), (2, aI (v2 + (1 : Int32)))] [] h))) :=
  lift_of (k := 28) (rows := code_156) (cuts := cut_156) (hs := hdl_156) (r := fun R E =>
    (gfI h o 13 1).bind (fun x1 =>
    if x1 ≤ v2 then
      (gfI h o 13 1).bind (fun x2 =>
      if v2 = x2 then
        some (.inl (some (aR none)), h)
      else
        (gfR h o 13 3).bind (fun x3 =>
        (gaR h x3 v2).bind (fun x4 =>
        (gfI h o 13 1).bind (fun x5 =>
        (pf h o 13 1 (aI (x5 - (1 : Int32)))).bind (fun h6 =>
        R 56 [(0, aR o), (3, aR x4), (4, aI v2)] [] h6)))))
    else
      (gfR h o 13 2).bind (fun x7 =>
      (gaI h x7 1000 v2).bind (fun x8 =>
      if x8 = v1 then
        (gfI h o 13 1).bind (fun x9 =>
        if v2 = x9 then
          some (.inl (some (aR none)), h)
        else
          (gfR h o 13 3).bind (fun x10 =>
          (gaR h x10 v2).bind (fun x11 =>
          (gfI h o 13 1).bind (fun x12 =>
          (pf h o 13 1 (aI (x12 - (1 : Int32)))).bind (fun h13 =>
          R 56 [(0, aR o), (3, aR x11), (4, aI v2)] [] h13)))))
      else
        R 2 [(0, aR o), (1, aI v1), (2, aI (v2 + (1 : Int32)))] [] h)))) rfl rfl rfl (fun R E => rfl)
set_option maxRecDepth 100000 in
theorem lf_156_56 (o : Option (Nat × Nat)) (v3 : Option (Nat × Nat)) (v4 : Int32) (h : Hp) : Ru 156 56 [(0, aR o), (3, aR v3), (4, aI v4)] [] h =
    (gfI h o 13 1).bind (fun x1 =>
    if x1 ≤ v4 then
      (gfR h o 13 3).bind (fun x2 =>
      (gfI h o 13 1).bind (fun x3 =>
      (paR h x2 x3 none).bind (fun h4 =>
      some (.inl (some (aR v3)), h4))))
    else
      (gfR h o 13 2).bind (fun x5 =>
      (gfR h o 13 2).bind (fun x6 =>
      (gaI h x6 1000 (v4 + (1 : Int32))).bind (fun x7 =>
      (pa h x5 1000 v4 (aI x7)).bind (fun h8 =>
      (gfR h8 o 13 3).bind (fun x9 =>
      (gfR h8 o 13 3).bind (fun x10 =>
      (gaR h8 x10 (v4 + (1 : Int32))).bind (fun x11 =>
      (paR h8 x9 v4 x11).bind (fun h12 =>
      Ru 156 56 [(0, aR o), (3, aR v3), (4, aI (v4 + (1 : Int32)))] [] h12))))))))) :=
  lift_of (k := 27) (rows := code_156) (cuts := cut_156) (hs := hdl_156) (r := fun R E =>
    (gfI h o 13 1).bind (fun x1 =>
    if x1 ≤ v4 then
      (gfR h o 13 3).bind (fun x2 =>
      (gfI h o 13 1).bind (fun x3 =>
      (paR h x2 x3 none).bind (fun h4 =>
      some (.inl (some (aR v3)), h4))))
    else
      (gfR h o 13 2).bind (fun x5 =>
      (gfR h o 13 2).bind (fun x6 =>
      (gaI h x6 1000 (v4 + (1 : Int32))).bind (fun x7 =>
      (pa h x5 1000 v4 (aI x7)).bind (fun h8 =>
      (gfR h8 o 13 3).bind (fun x9 =>
      (gfR h8 o 13 3).bind (fun x10 =>
      (gaR h8 x10 (v4 + (1 : Int32))).bind (fun x11 =>
      (paR h8 x9 v4 x11).bind (fun h12 =>
      R 56 [(0, aR o), (3, aR v3), (4, aI (v4 + (1 : Int32)))] [] h12)))))))))) rfl rfl rfl (fun R E => rfl)
-- ChipcardhouseModel$Issuer.<init>(LChipcardhouseModel$Tills;LChipcardhouseModel$Bank;)V
set_option maxRecDepth 100000 in
theorem lf_157_0 (o : Option (Nat × Nat)) (p0 : Option (Nat × Nat)) (p1 : Option (Nat × Nat)) (h : Hp) : Ru 157 0 [(0, aR o), (1, aR p0), (2, aR p1)] [] h =
    cV (Ex 420 [aR o] h) (fun h1 =>
    (nwa h1 53 1026 (1000 : Int32)).bind (fun q2 =>
    (pf q2.2 o 14 2 (aR q2.1)).bind (fun h3 =>
    (nwa h3 54 1000 (200 : Int32)).bind (fun q4 =>
    (pf q4.2 o 14 3 (aR q4.1)).bind (fun h5 =>
    (nwa h5 55 1000 (200 : Int32)).bind (fun q6 =>
    (pf q6.2 o 14 4 (aR q6.1)).bind (fun h7 =>
    (nwa h7 56 1000 (200 : Int32)).bind (fun q8 =>
    (pf q8.2 o 14 5 (aR q8.1)).bind (fun h9 =>
    (nwa h9 57 1000 (8 : Int32)).bind (fun q10 =>
    (pf q10.2 o 14 7 (aR q10.1)).bind (fun h11 =>
    (nwa h11 58 1002 (8 : Int32)).bind (fun q12 =>
    (pf q12.2 o 14 8 (aR q12.1)).bind (fun h13 =>
    (pf (nmu h13 59 1900 1002 4 100) o 14 9 (aR (some (59, (h13.1 59).length)))).bind (fun h14 =>
    (pf h14 o 14 0 (aR p0)).bind (fun h15 =>
    (pf h15 o 14 1 (aR p1)).bind (fun h16 =>
    some (.inl none, h16))))))))))))))))) xT :=
  lift_of (k := 39) (rows := code_157) (cuts := cut_157) (hs := hdl_157) (r := fun R E =>
    cV (E 420 [aR o] h) (fun h1 =>
    (nwa h1 53 1026 (1000 : Int32)).bind (fun q2 =>
    (pf q2.2 o 14 2 (aR q2.1)).bind (fun h3 =>
    (nwa h3 54 1000 (200 : Int32)).bind (fun q4 =>
    (pf q4.2 o 14 3 (aR q4.1)).bind (fun h5 =>
    (nwa h5 55 1000 (200 : Int32)).bind (fun q6 =>
    (pf q6.2 o 14 4 (aR q6.1)).bind (fun h7 =>
    (nwa h7 56 1000 (200 : Int32)).bind (fun q8 =>
    (pf q8.2 o 14 5 (aR q8.1)).bind (fun h9 =>
    (nwa h9 57 1000 (8 : Int32)).bind (fun q10 =>
    (pf q10.2 o 14 7 (aR q10.1)).bind (fun h11 =>
    (nwa h11 58 1002 (8 : Int32)).bind (fun q12 =>
    (pf q12.2 o 14 8 (aR q12.1)).bind (fun h13 =>
    (pf (nmu h13 59 1900 1002 4 100) o 14 9 (aR (some (59, (h13.1 59).length)))).bind (fun h14 =>
    (pf h14 o 14 0 (aR p0)).bind (fun h15 =>
    (pf h15 o 14 1 (aR p1)).bind (fun h16 =>
    some (.inl none, h16))))))))))))))))) xT) rfl rfl rfl (fun R E => rfl)
-- ChipcardhouseModel$Issuer.at(I)LChipcardhouseModel$Known;
set_option maxRecDepth 100000 in
theorem lf_158_0 (o : Option (Nat × Nat)) (p0 : Int32) (h : Hp) : Ru 158 0 [(0, aR o), (1, aI p0)] [] h =
    (gfR h o 14 2).bind (fun x1 =>
    (gaR h x1 p0).bind (fun x2 =>
    if x2 = none then
      (gfR h o 14 2).bind (fun x3 =>
      cV (Ex 185 [aR (nob h 61 15 [0, 0, 0, 0, 4, 4, 4, 0, 0, 0, 0, 0, 0, 0, 0, 0, 0]).1] (nob h 61 15 [0, 0, 0, 0, 4, 4, 4, 0, 0, 0, 0, 0, 0, 0, 0, 0, 0]).2) (fun h4 =>
      (paR h4 x3 p0 (nob h 61 15 [0, 0, 0, 0, 4, 4, 4, 0, 0, 0, 0, 0, 0, 0, 0, 0, 0]).1).bind (fun h5 =>
      (gfR h5 o 14 2).bind (fun x6 =>
      (gaR h5 x6 p0).bind (fun x7 =>
      some (.inl (some (aR x7)), h5))))) xT)
    else
      (gfR h o 14 2).bind (fun x8 =>
      (gaR h x8 p0).bind (fun x9 =>
      some (.inl (some (aR x9)), h))))) :=
  lift_of (k := 18) (rows := code_158) (cuts := cut_158) (hs := hdl_158) (r := fun R E =>
    (gfR h o 14 2).bind (fun x1 =>
    (gaR h x1 p0).bind (fun x2 =>
    if x2 = none then
      (gfR h o 14 2).bind (fun x3 =>
      cV (E 185 [aR (nob h 61 15 [0, 0, 0, 0, 4, 4, 4, 0, 0, 0, 0, 0, 0, 0, 0, 0, 0]).1] (nob h 61 15 [0, 0, 0, 0, 4, 4, 4, 0, 0, 0, 0, 0, 0, 0, 0, 0, 0]).2) (fun h4 =>
      (paR h4 x3 p0 (nob h 61 15 [0, 0, 0, 0, 4, 4, 4, 0, 0, 0, 0, 0, 0, 0, 0, 0, 0]).1).bind (fun h5 =>
      (gfR h5 o 14 2).bind (fun x6 =>
      (gaR h5 x6 p0).bind (fun x7 =>
      some (.inl (some (aR x7)), h5))))) xT)
    else
      (gfR h o 14 2).bind (fun x8 =>
      (gaR h x8 p0).bind (fun x9 =>
      some (.inl (some (aR x9)), h)))))) rfl rfl rfl (fun R E => rfl)
-- ChipcardhouseModel$Issuer.isCard(I)Z
set_option maxRecDepth 100000 in
theorem lf_159_0 (o : Option (Nat × Nat)) (p0 : Int32) (h : Hp) : Ru 159 0 [(0, aR o), (1, aI p0)] [] h =
    if p0 < 0 then
      some (.inl (some (aI (0 : Int32))), h)
    else
      (gfR h o 14 0).bind (fun x1 =>
      (gfI h x1 19 6).bind (fun x2 =>
      if x2 ≤ p0 then
        some (.inl (some (aI (0 : Int32))), h)
      else
        some (.inl (some (aI (1 : Int32))), h))) :=
  lift_of (k := 11) (rows := code_159) (cuts := cut_159) (hs := hdl_159) (r := fun R E =>
    if p0 < 0 then
      some (.inl (some (aI (0 : Int32))), h)
    else
      (gfR h o 14 0).bind (fun x1 =>
      (gfI h x1 19 6).bind (fun x2 =>
      if x2 ≤ p0 then
        some (.inl (some (aI (0 : Int32))), h)
      else
        some (.inl (some (aI (1 : Int32))), h)))) rfl rfl rfl (fun R E => rfl)
-- ChipcardhouseModel$Issuer.isStamp(IIIIII)Z
set_option maxRecDepth 100000 in
theorem lf_160_0 (o : Option (Nat × Nat)) (p0 : Int32) (p1 : Int32) (p2 : Int32) (p3 : Int32) (p4 : Int32) (p5 : Int32) (h : Hp) : Ru 160 0 [(0, aR o), (1, aI p0), (2, aI p1), (3, aI p2), (4, aI p3), (5, aI p4), (6, aI p5)] [] h =
    (gfR h o 14 0).bind (fun x1 =>
    cL (Ex 234 [aR x1, aI p0] h) (fun x3 h2 =>
    cI (Ex 236 [aL x3, aI p1, aI p2, aI p3, aI p4] h2) (fun x5 h4 =>
    if x5 = p5 then
      some (.inl (some (aI (1 : Int32))), h4)
    else
      some (.inl (some (aI (0 : Int32))), h4)) xT) xT) :=
  lift_of (k := 15) (rows := code_160) (cuts := cut_160) (hs := hdl_160) (r := fun R E =>
    (gfR h o 14 0).bind (fun x1 =>
    cL (E 234 [aR x1, aI p0] h) (fun x3 h2 =>
    cI (E 236 [aL x3, aI p1, aI p2, aI p3, aI p4] h2) (fun x5 h4 =>
    if x5 = p5 then
      some (.inl (some (aI (1 : Int32))), h4)
    else
      some (.inl (some (aI (0 : Int32))), h4)) xT) xT)) rfl rfl rfl (fun R E => rfl)
-- ChipcardhouseModel$Issuer.heardAt(II)I
set_option maxRecDepth 100000 in
theorem lf_161_0 (o : Option (Nat × Nat)) (p0 : Int32) (p1 : Int32) (h : Hp) : Ru 161 0 [(0, aR o), (1, aI p0), (2, aI p1)] [] h =
    Ru 161 2 [(0, aR o), (1, aI p0), (2, aI p1), (3, aI (0 : Int32))] [] h :=
  lift_of (k := 3) (rows := code_161) (cuts := cut_161) (hs := hdl_161) (r := fun R E =>
    R 2 [(0, aR o), (1, aI p0), (2, aI p1), (3, aI (0 : Int32))] [] h) rfl rfl rfl (fun R E => rfl)
set_option maxRecDepth 100000 in
theorem lf_161_2 (o : Option (Nat × Nat)) (v1 : Int32) (v2 : Int32) (v3 : Int32) (h : Hp) : Ru 161 2 [(0, aR o), (1, aI v1), (2, aI v2), (3, aI v3)] [] h =
    (gfI h o 14 6).bind (fun x1 =>
    if x1 ≤ v3 then
      some (.inl (some (aI (-1 : Int32))), h)
    else
      (gfR h o 14 3).bind (fun x2 =>
      (gaI h x2 1000 v3).bind (fun x3 =>
      if x3 = v1 then
        (gfR h o 14 4).bind (fun x4 =>
        (gaI h x4 1000 v3).bind (fun x5 =>
        if x5 = v2 then
          some (.inl (some (aI v3)), h)
        else
          Ru 161 2 [(0, aR o), (1, aI v1), (2, aI v2), (3, aI (v3 + (1 : Int32)))] [] h))
      else
        Ru 161 2 [(0, aR o), (1, aI v1), (2, aI v2), (3, aI (v3 + (1 : Int32)))] [] h))) :=
  lift_of (k := 19) (rows := code_161) (cuts := cut_161) (hs := hdl_161) (r := fun R E =>
    (gfI h o 14 6).bind (fun x1 =>
    if x1 ≤ v3 then
      some (.inl (some (aI (-1 : Int32))), h)
    else
      (gfR h o 14 3).bind (fun x2 =>
      (gaI h x2 1000 v3).bind (fun x3 =>
      if x3 = v1 then
        (gfR h o 14 4).bind (fun x4 =>
        (gaI h x4 1000 v3).bind (fun x5 =>
        if x5 = v2 then
          some (.inl (some (aI v3)), h)
        else
          R 2 [(0, aR o), (1, aI v1), (2, aI v2), (3, aI (v3 + (1 : Int32)))] [] h))
      else
        R 2 [(0, aR o), (1, aI v1), (2, aI v2), (3, aI (v3 + (1 : Int32)))] [] h)))) rfl rfl rfl (fun R E => rfl)
-- ChipcardhouseModel$Issuer.isHeardOfOther(III)Z
set_option maxRecDepth 100000 in
theorem lf_162_0 (o : Option (Nat × Nat)) (p0 : Int32) (p1 : Int32) (p2 : Int32) (h : Hp) : Ru 162 0 [(0, aR o), (1, aI p0), (2, aI p1), (3, aI p2)] [] h =
    cI (Ex 161 [aR o, aI p0, aI p1] h) (fun x2 h1 =>
    if x2 = (-1 : Int32) then
      some (.inl (some (aI (0 : Int32))), h1)
    else
      (gfR h1 o 14 5).bind (fun x3 =>
      (gaI h1 x3 1000 x2).bind (fun x4 =>
      if x4 = p2 then
        some (.inl (some (aI (0 : Int32))), h1)
      else
        some (.inl (some (aI (1 : Int32))), h1)))) xT :=
  lift_of (k := 18) (rows := code_162) (cuts := cut_162) (hs := hdl_162) (r := fun R E =>
    cI (E 161 [aR o, aI p0, aI p1] h) (fun x2 h1 =>
    if x2 = (-1 : Int32) then
      some (.inl (some (aI (0 : Int32))), h1)
    else
      (gfR h1 o 14 5).bind (fun x3 =>
      (gaI h1 x3 1000 x2).bind (fun x4 =>
      if x4 = p2 then
        some (.inl (some (aI (0 : Int32))), h1)
      else
        some (.inl (some (aI (1 : Int32))), h1)))) xT) rfl rfl rfl (fun R E => rfl)
-- ChipcardhouseModel$Issuer.hear(III)V
set_option maxRecDepth 100000 in
theorem lf_163_0 (o : Option (Nat × Nat)) (p0 : Int32) (p1 : Int32) (p2 : Int32) (h : Hp) : Ru 163 0 [(0, aR o), (1, aI p0), (2, aI p1), (3, aI p2)] [] h =
    cI (Ex 161 [aR o, aI p0, aI p1] h) (fun x2 h1 =>
    if x2 = (-1 : Int32) then
      (gfR h1 o 14 3).bind (fun x3 =>
      (gfI h1 o 14 6).bind (fun x4 =>
      (pa h1 x3 1000 x4 (aI p0)).bind (fun h5 =>
      (gfR h5 o 14 4).bind (fun x6 =>
      (gfI h5 o 14 6).bind (fun x7 =>
      (pa h5 x6 1000 x7 (aI p1)).bind (fun h8 =>
      (gfR h8 o 14 5).bind (fun x9 =>
      (gfI h8 o 14 6).bind (fun x10 =>
      (pa h8 x9 1000 x10 (aI p2)).bind (fun h11 =>
      (gfI h11 o 14 6).bind (fun x12 =>
      (pf h11 o 14 6 (aI (x12 + (1 : Int32)))).bind (fun h13 =>
      some (.inl none, h13))))))))))))
    else
      some (.inl none, h1)) xT :=
  lift_of (k := 32) (rows := code_163) (cuts := cut_163) (hs := hdl_163) (r := fun R E =>
    cI (E 161 [aR o, aI p0, aI p1] h) (fun x2 h1 =>
    if x2 = (-1 : Int32) then
      (gfR h1 o 14 3).bind (fun x3 =>
      (gfI h1 o 14 6).bind (fun x4 =>
      (pa h1 x3 1000 x4 (aI p0)).bind (fun h5 =>
      (gfR h5 o 14 4).bind (fun x6 =>
      (gfI h5 o 14 6).bind (fun x7 =>
      (pa h5 x6 1000 x7 (aI p1)).bind (fun h8 =>
      (gfR h8 o 14 5).bind (fun x9 =>
      (gfI h8 o 14 6).bind (fun x10 =>
      (pa h8 x9 1000 x10 (aI p2)).bind (fun h11 =>
      (gfI h11 o 14 6).bind (fun x12 =>
      (pf h11 o 14 6 (aI (x12 + (1 : Int32)))).bind (fun h13 =>
      some (.inl none, h13))))))))))))
    else
      some (.inl none, h1)) xT) rfl rfl rfl (fun R E => rfl)
-- ChipcardhouseModel$Issuer.heard(I)I
set_option maxRecDepth 100000 in
theorem lf_164_0 (o : Option (Nat × Nat)) (p0 : Int32) (h : Hp) : Ru 164 0 [(0, aR o), (1, aI p0)] [] h =
    Ru 164 4 [(0, aR o), (1, aI p0), (2, aI (0 : Int32)), (3, aI (0 : Int32))] [] h :=
  lift_of (k := 5) (rows := code_164) (cuts := cut_164) (hs := hdl_164) (r := fun R E =>
    R 4 [(0, aR o), (1, aI p0), (2, aI (0 : Int32)), (3, aI (0 : Int32))] [] h) rfl rfl rfl (fun R E => rfl)
set_option maxRecDepth 100000 in
theorem lf_164_4 (o : Option (Nat × Nat)) (v1 : Int32) (v2 : Int32) (v3 : Int32) (h : Hp) : Ru 164 4 [(0, aR o), (1, aI v1), (2, aI v2), (3, aI v3)] [] h =
    (gfI h o 14 6).bind (fun x1 =>
    if x1 ≤ v3 then
      some (.inl (some (aI v2)), h)
    else
      (gfR h o 14 3).bind (fun x2 =>
      (gaI h x2 1000 v3).bind (fun x3 =>
      if x3 = v1 then
        Ru 164 4 [(0, aR o), (1, aI v1), (2, aI (v2 + (1 : Int32))), (3, aI (v3 + (1 : Int32)))] [] h
      else
        Ru 164 4 [(0, aR o), (1, aI v1), (2, aI v2), (3, aI (v3 + (1 : Int32)))] [] h))) :=
  lift_of (k := 14) (rows := code_164) (cuts := cut_164) (hs := hdl_164) (r := fun R E =>
    (gfI h o 14 6).bind (fun x1 =>
    if x1 ≤ v3 then
      some (.inl (some (aI v2)), h)
    else
      (gfR h o 14 3).bind (fun x2 =>
      (gaI h x2 1000 v3).bind (fun x3 =>
      if x3 = v1 then
        R 4 [(0, aR o), (1, aI v1), (2, aI (v2 + (1 : Int32))), (3, aI (v3 + (1 : Int32)))] [] h
      else
        R 4 [(0, aR o), (1, aI v1), (2, aI v2), (3, aI (v3 + (1 : Int32)))] [] h)))) rfl rfl rfl (fun R E => rfl)
-- ChipcardhouseModel$Issuer.hold(LChipcardhouseModel$Known;II)V
set_option maxRecDepth 100000 in
theorem lf_165_0 (o : Option (Nat × Nat)) (p0 : Option (Nat × Nat)) (p1 : Int32) (p2 : Int32) (h : Hp) : Ru 165 0 [(0, aR o), (1, aR p0), (2, aI p1), (3, aI p2)] [] h =
    (pf h p0 15 12 (aI p2)).bind (fun h1 =>
    (pf h1 p0 15 13 (aI p1)).bind (fun h2 =>
    (gfR h2 o 14 1).bind (fun x3 =>
    cV (Ex 147 [aR x3, aI p1, aI p2] h2) (fun h4 =>
    some (.inl none, h4)) xT))) :=
  lift_of (k := 13) (rows := code_165) (cuts := cut_165) (hs := hdl_165) (r := fun R E =>
    (pf h p0 15 12 (aI p2)).bind (fun h1 =>
    (pf h1 p0 15 13 (aI p1)).bind (fun h2 =>
    (gfR h2 o 14 1).bind (fun x3 =>
    cV (E 147 [aR x3, aI p1, aI p2] h2) (fun h4 =>
    some (.inl none, h4)) xT)))) rfl rfl rfl (fun R E => rfl)
-- ChipcardhouseModel$Issuer.free(LChipcardhouseModel$Known;)V
set_option maxRecDepth 100000 in
theorem lf_166_0 (o : Option (Nat × Nat)) (p0 : Option (Nat × Nat)) (h : Hp) : Ru 166 0 [(0, aR o), (1, aR p0)] [] h =
    (gfI h p0 15 12).bind (fun x1 =>
    if x1 ≤ 0 then
      some (.inl none, h)
    else
      (gfR h o 14 1).bind (fun x2 =>
      (gfI h p0 15 13).bind (fun x3 =>
      (gfI h p0 15 12).bind (fun x4 =>
      cV (Ex 148 [aR x2, aI x3, aI x4] h) (fun h5 =>
      (pf h5 p0 15 12 (aI (0 : Int32))).bind (fun h6 =>
      some (.inl none, h6))) xT)))) :=
  lift_of (k := 15) (rows := code_166) (cuts := cut_166) (hs := hdl_166) (r := fun R E =>
    (gfI h p0 15 12).bind (fun x1 =>
    if x1 ≤ 0 then
      some (.inl none, h)
    else
      (gfR h o 14 1).bind (fun x2 =>
      (gfI h p0 15 13).bind (fun x3 =>
      (gfI h p0 15 12).bind (fun x4 =>
      cV (E 148 [aR x2, aI x3, aI x4] h) (fun h5 =>
      (pf h5 p0 15 12 (aI (0 : Int32))).bind (fun h6 =>
      some (.inl none, h6))) xT))))) rfl rfl rfl (fun R E => rfl)
-- ChipcardhouseModel$Issuer.asks(IIIIII)V
set_option maxRecDepth 100000 in
theorem lf_167_0 (o : Option (Nat × Nat)) (p0 : Int32) (p1 : Int32) (p2 : Int32) (p3 : Int32) (p4 : Int32) (p5 : Int32) (h : Hp) : Ru 167 0 [(0, aR o), (1, aI p0), (2, aI p1), (3, aI p2), (4, aI p3), (5, aI p4), (6, aI p5)] [] h =
    cR (Ex 158 [aR o, aI p1] h) (fun x2 h1 =>
    (gfI h1 x2 15 0).bind (fun x3 =>
    if x3 = 0 then
      cI (Ex 168 [aR o, aR x2, aI p0, aI p1, aI p2, aI p3, aI p4, aI p5] h1) (fun x5 h4 =>
      (pf h4 x2 15 1 (aI x5)).bind (fun h6 =>
      (gfI h6 x2 15 1).bind (fun x7 =>
      if x7 = 0 then
        (pf h6 x2 15 0 (aI (1 : Int32))).bind (fun h8 =>
        (pf h8 x2 15 2 (aI (0 : Int32))).bind (fun h9 =>
        (pf h9 x2 15 3 (aI (0 : Int32))).bind (fun h10 =>
        (gfR h10 x2 15 4).bind (fun x11 =>
        cV (Ex 186 [aR x11, aI p2, aI p3, aI p4] h10) (fun h12 =>
        (gfI h12 x2 15 1).bind (fun x13 =>
        if x13 = 0 then
          (gfI h12 x2 15 12).bind (fun x14 =>
          if x14 = 0 then
            (gfR h12 o 14 0).bind (fun x15 =>
            cI (Ex 233 [aR x15, aI p2] h12) (fun x17 h16 =>
            cV (Ex 165 [aR o, aR x2, aI x17, aI p4] h16) (fun h18 =>
            cI (Ex 159 [aR o, aI p2] h18) (fun x20 h19 =>
            if x20 = 0 then
              Ru 167 158 [(0, aR o), (7, aR x2)] [] h19
            else
              (gfR h19 o 14 0).bind (fun x21 =>
              cL (Ex 234 [aR x21, aI p2] h19) (fun x23 h22 =>
              cI (Ex 236 [aL x23, aI p3, aI p4, aI p0, aI (3 : Int32)] h22) (fun x25 h24 =>
              (pf h24 x2 15 2 (aI x25)).bind (fun h26 =>
              (gfR h26 o 14 7).bind (fun x27 =>
              (gaI h26 x27 1000 p2).bind (fun x28 =>
              (pf h26 x2 15 3 (aI x28)).bind (fun h29 =>
              (gfR h29 o 14 7).bind (fun x30 =>
              (pa h29 x30 1000 p2 (aI (0 : Int32))).bind (fun h31 =>
              Ru 167 158 [(0, aR o), (7, aR x2)] [] h31))))))) xT) xT)) xT) xT) xT)
          else
            cI (Ex 159 [aR o, aI p2] h12) (fun x33 h32 =>
            if x33 = 0 then
              Ru 167 158 [(0, aR o), (7, aR x2)] [] h32
            else
              (gfR h32 o 14 0).bind (fun x34 =>
              cL (Ex 234 [aR x34, aI p2] h32) (fun x36 h35 =>
              cI (Ex 236 [aL x36, aI p3, aI p4, aI p0, aI (3 : Int32)] h35) (fun x38 h37 =>
              (pf h37 x2 15 2 (aI x38)).bind (fun h39 =>
              (gfR h39 o 14 7).bind (fun x40 =>
              (gaI h39 x40 1000 p2).bind (fun x41 =>
              (pf h39 x2 15 3 (aI x41)).bind (fun h42 =>
              (gfR h42 o 14 7).bind (fun x43 =>
              (pa h42 x43 1000 p2 (aI (0 : Int32))).bind (fun h44 =>
              Ru 167 158 [(0, aR o), (7, aR x2)] [] h44))))))) xT) xT)) xT)
        else
          cI (Ex 159 [aR o, aI p2] h12) (fun x46 h45 =>
          if x46 = 0 then
            Ru 167 158 [(0, aR o), (7, aR x2)] [] h45
          else
            (gfR h45 o 14 0).bind (fun x47 =>
            cL (Ex 234 [aR x47, aI p2] h45) (fun x49 h48 =>
            cI (Ex 236 [aL x49, aI p3, aI p4, aI p0, aI (3 : Int32)] h48) (fun x51 h50 =>
            (pf h50 x2 15 2 (aI x51)).bind (fun h52 =>
            (gfR h52 o 14 7).bind (fun x53 =>
            (gaI h52 x53 1000 p2).bind (fun x54 =>
            (pf h52 x2 15 3 (aI x54)).bind (fun h55 =>
            (gfR h55 o 14 7).bind (fun x56 =>
            (pa h55 x56 1000 p2 (aI (0 : Int32))).bind (fun h57 =>
            Ru 167 158 [(0, aR o), (7, aR x2)] [] h57))))))) xT) xT)) xT)) xT))))
      else
        (pf h6 x2 15 0 (aI (2 : Int32))).bind (fun h58 =>
        (pf h58 x2 15 2 (aI (0 : Int32))).bind (fun h59 =>
        (pf h59 x2 15 3 (aI (0 : Int32))).bind (fun h60 =>
        (gfR h60 x2 15 4).bind (fun x61 =>
        cV (Ex 186 [aR x61, aI p2, aI p3, aI p4] h60) (fun h62 =>
        (gfI h62 x2 15 1).bind (fun x63 =>
        if x63 = 0 then
          (gfI h62 x2 15 12).bind (fun x64 =>
          if x64 = 0 then
            (gfR h62 o 14 0).bind (fun x65 =>
            cI (Ex 233 [aR x65, aI p2] h62) (fun x67 h66 =>
            cV (Ex 165 [aR o, aR x2, aI x67, aI p4] h66) (fun h68 =>
            cI (Ex 159 [aR o, aI p2] h68) (fun x70 h69 =>
            if x70 = 0 then
              Ru 167 158 [(0, aR o), (7, aR x2)] [] h69
            else
              (gfR h69 o 14 0).bind (fun x71 =>
              cL (Ex 234 [aR x71, aI p2] h69) (fun x73 h72 =>
              cI (Ex 236 [aL x73, aI p3, aI p4, aI p0, aI (3 : Int32)] h72) (fun x75 h74 =>
              (pf h74 x2 15 2 (aI x75)).bind (fun h76 =>
              (gfR h76 o 14 7).bind (fun x77 =>
              (gaI h76 x77 1000 p2).bind (fun x78 =>
              (pf h76 x2 15 3 (aI x78)).bind (fun h79 =>
              (gfR h79 o 14 7).bind (fun x80 =>
              (pa h79 x80 1000 p2 (aI (0 : Int32))).bind (fun h81 =>
              Ru 167 158 [(0, aR o), (7, aR x2)] [] h81))))))) xT) xT)) xT) xT) xT)
          else
            cI (Ex 159 [aR o, aI p2] h62) (fun x83 h82 =>
            if x83 = 0 then
              Ru 167 158 [(0, aR o), (7, aR x2)] [] h82
            else
              (gfR h82 o 14 0).bind (fun x84 =>
              cL (Ex 234 [aR x84, aI p2] h82) (fun x86 h85 =>
              cI (Ex 236 [aL x86, aI p3, aI p4, aI p0, aI (3 : Int32)] h85) (fun x88 h87 =>
              (pf h87 x2 15 2 (aI x88)).bind (fun h89 =>
              (gfR h89 o 14 7).bind (fun x90 =>
              (gaI h89 x90 1000 p2).bind (fun x91 =>
              (pf h89 x2 15 3 (aI x91)).bind (fun h92 =>
              (gfR h92 o 14 7).bind (fun x93 =>
              (pa h92 x93 1000 p2 (aI (0 : Int32))).bind (fun h94 =>
              Ru 167 158 [(0, aR o), (7, aR x2)] [] h94))))))) xT) xT)) xT)
        else
          cI (Ex 159 [aR o, aI p2] h62) (fun x96 h95 =>
          if x96 = 0 then
            Ru 167 158 [(0, aR o), (7, aR x2)] [] h95
          else
            (gfR h95 o 14 0).bind (fun x97 =>
            cL (Ex 234 [aR x97, aI p2] h95) (fun x99 h98 =>
            cI (Ex 236 [aL x99, aI p3, aI p4, aI p0, aI (3 : Int32)] h98) (fun x101 h100 =>
            (pf h100 x2 15 2 (aI x101)).bind (fun h102 =>
            (gfR h102 o 14 7).bind (fun x103 =>
            (gaI h102 x103 1000 p2).bind (fun x104 =>
            (pf h102 x2 15 3 (aI x104)).bind (fun h105 =>
            (gfR h105 o 14 7).bind (fun x106 =>
            (pa h105 x106 1000 p2 (aI (0 : Int32))).bind (fun h107 =>
            Ru 167 158 [(0, aR o), (7, aR x2)] [] h107))))))) xT) xT)) xT)) xT))))))) xT
    else
      Ru 167 158 [(0, aR o), (7, aR x2)] [] h1)) xT :=
  lift_of (k := 78) (rows := code_167) (cuts := cut_167) (hs := hdl_167) (r := fun R E =>
    cR (E 158 [aR o, aI p1] h) (fun x2 h1 =>
    (gfI h1 x2 15 0).bind (fun x3 =>
    if x3 = 0 then
      cI (E 168 [aR o, aR x2, aI p0, aI p1, aI p2, aI p3, aI p4, aI p5] h1) (fun x5 h4 =>
      (pf h4 x2 15 1 (aI x5)).bind (fun h6 =>
      (gfI h6 x2 15 1).bind (fun x7 =>
      if x7 = 0 then
        (pf h6 x2 15 0 (aI (1 : Int32))).bind (fun h8 =>
        (pf h8 x2 15 2 (aI (0 : Int32))).bind (fun h9 =>
        (pf h9 x2 15 3 (aI (0 : Int32))).bind (fun h10 =>
        (gfR h10 x2 15 4).bind (fun x11 =>
        cV (E 186 [aR x11, aI p2, aI p3, aI p4] h10) (fun h12 =>
        (gfI h12 x2 15 1).bind (fun x13 =>
        if x13 = 0 then
          (gfI h12 x2 15 12).bind (fun x14 =>
          if x14 = 0 then
            (gfR h12 o 14 0).bind (fun x15 =>
            cI (E 233 [aR x15, aI p2] h12) (fun x17 h16 =>
            cV (E 165 [aR o, aR x2, aI x17, aI p4] h16) (fun h18 =>
            cI (E 159 [aR o, aI p2] h18) (fun x20 h19 =>
            if x20 = 0 then
              R 158 [(0, aR o), (7, aR x2)] [] h19
            else
              (gfR h19 o 14 0).bind (fun x21 =>
              cL (E 234 [aR x21, aI p2] h19) (fun x23 h22 =>
              cI (E 236 [aL x23, aI p3, aI p4, aI p0, aI (3 : Int32)] h22) (fun x25 h24 =>
              (pf h24 x2 15 2 (aI x25)).bind (fun h26 =>
              (gfR h26 o 14 7).bind (fun x27 =>
              (gaI h26 x27 1000 p2).bind (fun x28 =>
              (pf h26 x2 15 3 (aI x28)).bind (fun h29 =>
              (gfR h29 o 14 7).bind (fun x30 =>
              (pa h29 x30 1000 p2 (aI (0 : Int32))).bind (fun h31 =>
              R 158 [(0, aR o), (7, aR x2)] [] h31))))))) xT) xT)) xT) xT) xT)
          else
            cI (E 159 [aR o, aI p2] h12) (fun x33 h32 =>
            if x33 = 0 then
              R 158 [(0, aR o), (7, aR x2)] [] h32
            else
              (gfR h32 o 14 0).bind (fun x34 =>
              cL (E 234 [aR x34, aI p2] h32) (fun x36 h35 =>
              cI (E 236 [aL x36, aI p3, aI p4, aI p0, aI (3 : Int32)] h35) (fun x38 h37 =>
              (pf h37 x2 15 2 (aI x38)).bind (fun h39 =>
              (gfR h39 o 14 7).bind (fun x40 =>
              (gaI h39 x40 1000 p2).bind (fun x41 =>
              (pf h39 x2 15 3 (aI x41)).bind (fun h42 =>
              (gfR h42 o 14 7).bind (fun x43 =>
              (pa h42 x43 1000 p2 (aI (0 : Int32))).bind (fun h44 =>
              R 158 [(0, aR o), (7, aR x2)] [] h44))))))) xT) xT)) xT)
        else
          cI (E 159 [aR o, aI p2] h12) (fun x46 h45 =>
          if x46 = 0 then
            R 158 [(0, aR o), (7, aR x2)] [] h45
          else
            (gfR h45 o 14 0).bind (fun x47 =>
            cL (E 234 [aR x47, aI p2] h45) (fun x49 h48 =>
            cI (E 236 [aL x49, aI p3, aI p4, aI p0, aI (3 : Int32)] h48) (fun x51 h50 =>
            (pf h50 x2 15 2 (aI x51)).bind (fun h52 =>
            (gfR h52 o 14 7).bind (fun x53 =>
            (gaI h52 x53 1000 p2).bind (fun x54 =>
            (pf h52 x2 15 3 (aI x54)).bind (fun h55 =>
            (gfR h55 o 14 7).bind (fun x56 =>
            (pa h55 x56 1000 p2 (aI (0 : Int32))).bind (fun h57 =>
            R 158 [(0, aR o), (7, aR x2)] [] h57))))))) xT) xT)) xT)) xT))))
      else
        (pf h6 x2 15 0 (aI (2 : Int32))).bind (fun h58 =>
        (pf h58 x2 15 2 (aI (0 : Int32))).bind (fun h59 =>
        (pf h59 x2 15 3 (aI (0 : Int32))).bind (fun h60 =>
        (gfR h60 x2 15 4).bind (fun x61 =>
        cV (E 186 [aR x61, aI p2, aI p3, aI p4] h60) (fun h62 =>
        (gfI h62 x2 15 1).bind (fun x63 =>
        if x63 = 0 then
          (gfI h62 x2 15 12).bind (fun x64 =>
          if x64 = 0 then
            (gfR h62 o 14 0).bind (fun x65 =>
            cI (E 233 [aR x65, aI p2] h62) (fun x67 h66 =>
            cV (E 165 [aR o, aR x2, aI x67, aI p4] h66) (fun h68 =>
            cI (E 159 [aR o, aI p2] h68) (fun x70 h69 =>
            if x70 = 0 then
              R 158 [(0, aR o), (7, aR x2)] [] h69
            else
              (gfR h69 o 14 0).bind (fun x71 =>
              cL (E 234 [aR x71, aI p2] h69) (fun x73 h72 =>
              cI (E 236 [aL x73, aI p3, aI p4, aI p0, aI (3 : Int32)] h72) (fun x75 h74 =>
              (pf h74 x2 15 2 (aI x75)).bind (fun h76 =>
              (gfR h76 o 14 7).bind (fun x77 =>
              (gaI h76 x77 1000 p2).bind (fun x78 =>
              (pf h76 x2 15 3 (aI x78)).bind (fun h79 =>
              (gfR h79 o 14 7).bind (fun x80 =>
              (pa h79 x80 1000 p2 (aI (0 : Int32))).bind (fun h81 =>
              R 158 [(0, aR o), (7, aR x2)] [] h81))))))) xT) xT)) xT) xT) xT)
          else
            cI (E 159 [aR o, aI p2] h62) (fun x83 h82 =>
            if x83 = 0 then
              R 158 [(0, aR o), (7, aR x2)] [] h82
            else
              (gfR h82 o 14 0).bind (fun x84 =>
              cL (E 234 [aR x84, aI p2] h82) (fun x86 h85 =>
              cI (E 236 [aL x86, aI p3, aI p4, aI p0, aI (3 : Int32)] h85) (fun x88 h87 =>
              (pf h87 x2 15 2 (aI x88)).bind (fun h89 =>
              (gfR h89 o 14 7).bind (fun x90 =>
              (gaI h89 x90 1000 p2).bind (fun x91 =>
              (pf h89 x2 15 3 (aI x91)).bind (fun h92 =>
              (gfR h92 o 14 7).bind (fun x93 =>
              (pa h92 x93 1000 p2 (aI (0 : Int32))).bind (fun h94 =>
              R 158 [(0, aR o), (7, aR x2)] [] h94))))))) xT) xT)) xT)
        else
          cI (E 159 [aR o, aI p2] h62) (fun x96 h95 =>
          if x96 = 0 then
            R 158 [(0, aR o), (7, aR x2)] [] h95
          else
            (gfR h95 o 14 0).bind (fun x97 =>
            cL (E 234 [aR x97, aI p2] h95) (fun x99 h98 =>
            cI (E 236 [aL x99, aI p3, aI p4, aI p0, aI (3 : Int32)] h98) (fun x101 h100 =>
            (pf h100 x2 15 2 (aI x101)).bind (fun h102 =>
            (gfR h102 o 14 7).bind (fun x103 =>
            (gaI h102 x103 1000 p2).bind (fun x104 =>
            (pf h102 x2 15 3 (aI x104)).bind (fun h105 =>
            (gfR h105 o 14 7).bind (fun x106 =>
            (pa h105 x106 1000 p2 (aI (0 : Int32))).bind (fun h107 =>
            R 158 [(0, aR o), (7, aR x2)] [] h107))))))) xT) xT)) xT)) xT))))))) xT
    else
      R 158 [(0, aR o), (7, aR x2)] [] h1)) xT) rfl rfl rfl (fun R E => rfl)
set_option maxRecDepth 100000 in
theorem lf_167_158 (o : Option (Nat × Nat)) (v7 : Option (Nat × Nat)) (h : Hp) : Ru 167 158 [(0, aR o), (7, aR v7)] [] h =
    (gfI h v7 15 0).bind (fun x1 =>
    if x1 = (1 : Int32) then
      (pf h o 14 14 (aI (1 : Int32))).bind (fun h2 =>
      (gfI h2 v7 15 1).bind (fun x3 =>
      (pf h2 o 14 15 (aI x3)).bind (fun h4 =>
      (gfI h4 v7 15 2).bind (fun x5 =>
      (pf h4 o 14 16 (aI x5)).bind (fun h6 =>
      (gfI h6 v7 15 3).bind (fun x7 =>
      (pf h6 o 14 17 (aI x7)).bind (fun h8 =>
      some (.inl none, h8))))))))
    else
      (pf h o 14 14 (aI (0 : Int32))).bind (fun h9 =>
      (gfI h9 v7 15 1).bind (fun x10 =>
      (pf h9 o 14 15 (aI x10)).bind (fun h11 =>
      (gfI h11 v7 15 2).bind (fun x12 =>
      (pf h11 o 14 16 (aI x12)).bind (fun h13 =>
      (gfI h13 v7 15 3).bind (fun x14 =>
      (pf h13 o 14 17 (aI x14)).bind (fun h15 =>
      some (.inl none, h15))))))))) :=
  lift_of (k := 22) (rows := code_167) (cuts := cut_167) (hs := hdl_167) (r := fun R E =>
    (gfI h v7 15 0).bind (fun x1 =>
    if x1 = (1 : Int32) then
      (pf h o 14 14 (aI (1 : Int32))).bind (fun h2 =>
      (gfI h2 v7 15 1).bind (fun x3 =>
      (pf h2 o 14 15 (aI x3)).bind (fun h4 =>
      (gfI h4 v7 15 2).bind (fun x5 =>
      (pf h4 o 14 16 (aI x5)).bind (fun h6 =>
      (gfI h6 v7 15 3).bind (fun x7 =>
      (pf h6 o 14 17 (aI x7)).bind (fun h8 =>
      some (.inl none, h8))))))))
    else
      (pf h o 14 14 (aI (0 : Int32))).bind (fun h9 =>
      (gfI h9 v7 15 1).bind (fun x10 =>
      (pf h9 o 14 15 (aI x10)).bind (fun h11 =>
      (gfI h11 v7 15 2).bind (fun x12 =>
      (pf h11 o 14 16 (aI x12)).bind (fun h13 =>
      (gfI h13 v7 15 3).bind (fun x14 =>
      (pf h13 o 14 17 (aI x14)).bind (fun h15 =>
      some (.inl none, h15)))))))))) rfl rfl rfl (fun R E => rfl)
-- ChipcardhouseModel$Issuer.judge(LChipcardhouseModel$Known;IIIIII)I
set_option maxRecDepth 100000 in
theorem lf_168_0 (o : Option (Nat × Nat)) (p0 : Option (Nat × Nat)) (p1 : Int32) (p2 : Int32) (p3 : Int32) (p4 : Int32) (p5 : Int32) (p6 : Int32) (h : Hp) : Ru 168 0 [(0, aR o), (1, aR p0), (2, aI p1), (3, aI p2), (4, aI p3), (5, aI p4), (6, aI p5), (7, aI p6)] [] h =
    (gfI h p0 15 9).bind (fun x1 =>
    if x1 = 0 then
      (gfI h p0 15 8).bind (fun x2 =>
      if x2 = 0 then
        cI (Ex 159 [aR o, aI p3] h) (fun x4 h3 =>
        if x4 = 0 then
          some (.inl (some (aI (1 : Int32))), h3)
        else
          cI (Ex 160 [aR o, aI p3, aI p4, aI p5, aI p1, aI (2 : Int32), aI p6] h3) (fun x6 h5 =>
          if x6 = 0 then
            some (.inl (some (aI (2 : Int32))), h5)
          else
            cI (Ex 162 [aR o, aI p3, aI p4, aI p2] h5) (fun x8 h7 =>
            if x8 = 0 then
              cV (Ex 163 [aR o, aI p3, aI p4, aI p2] h7) (fun h9 =>
              (gfR h9 o 14 0).bind (fun x10 =>
              cI (Ex 233 [aR x10, aI p3] h9) (fun x12 h11 =>
              (gfR h11 o 14 8).bind (fun x13 =>
              (gaI h11 x13 1002 p3).bind (fun x14 =>
              if x14 = 0 then
                (gfR h11 o 14 1).bind (fun x15 =>
                cI (Ex 146 [aR x15, aI x12] h11) (fun x17 h16 =>
                if x17 = 0 then
                  (gfR h16 o 14 1).bind (fun x18 =>
                  cL (Ex 144 [aR x18, aI x12] h16) (fun x20 h19 =>
                  (gfR h19 o 14 1).bind (fun x21 =>
                  cL (Ex 145 [aR x21, aI x12] h19) (fun x23 h22 =>
                  if (lg_cmp p5.toInt64 (x20 - x23)) ≤ 0 then
                    some (.inl (some (aI (0 : Int32))), h22)
                  else
                    some (.inl (some (aI (6 : Int32))), h22)) xT)) xT)
                else
                  some (.inl (some (aI (5 : Int32))), h16)) xT)
              else
                some (.inl (some (aI (4 : Int32))), h11)))) xT)) xT
            else
              some (.inl (some (aI (3 : Int32))), h7)) xT) xT) xT
      else
        some (.inl (some (aI (7 : Int32))), h))
    else
      some (.inl (some (aI (7 : Int32))), h)) :=
  lift_of (k := 62) (rows := code_168) (cuts := cut_168) (hs := hdl_168) (r := fun R E =>
    (gfI h p0 15 9).bind (fun x1 =>
    if x1 = 0 then
      (gfI h p0 15 8).bind (fun x2 =>
      if x2 = 0 then
        cI (E 159 [aR o, aI p3] h) (fun x4 h3 =>
        if x4 = 0 then
          some (.inl (some (aI (1 : Int32))), h3)
        else
          cI (E 160 [aR o, aI p3, aI p4, aI p5, aI p1, aI (2 : Int32), aI p6] h3) (fun x6 h5 =>
          if x6 = 0 then
            some (.inl (some (aI (2 : Int32))), h5)
          else
            cI (E 162 [aR o, aI p3, aI p4, aI p2] h5) (fun x8 h7 =>
            if x8 = 0 then
              cV (E 163 [aR o, aI p3, aI p4, aI p2] h7) (fun h9 =>
              (gfR h9 o 14 0).bind (fun x10 =>
              cI (E 233 [aR x10, aI p3] h9) (fun x12 h11 =>
              (gfR h11 o 14 8).bind (fun x13 =>
              (gaI h11 x13 1002 p3).bind (fun x14 =>
              if x14 = 0 then
                (gfR h11 o 14 1).bind (fun x15 =>
                cI (E 146 [aR x15, aI x12] h11) (fun x17 h16 =>
                if x17 = 0 then
                  (gfR h16 o 14 1).bind (fun x18 =>
                  cL (E 144 [aR x18, aI x12] h16) (fun x20 h19 =>
                  (gfR h19 o 14 1).bind (fun x21 =>
                  cL (E 145 [aR x21, aI x12] h19) (fun x23 h22 =>
                  if (lg_cmp p5.toInt64 (x20 - x23)) ≤ 0 then
                    some (.inl (some (aI (0 : Int32))), h22)
                  else
                    some (.inl (some (aI (6 : Int32))), h22)) xT)) xT)
                else
                  some (.inl (some (aI (5 : Int32))), h16)) xT)
              else
                some (.inl (some (aI (4 : Int32))), h11)))) xT)) xT
            else
              some (.inl (some (aI (3 : Int32))), h7)) xT) xT) xT
      else
        some (.inl (some (aI (7 : Int32))), h))
    else
      some (.inl (some (aI (7 : Int32))), h))) rfl rfl rfl (fun R E => rfl)
-- ChipcardhouseModel$Issuer.note(IIIIII)V
set_option maxRecDepth 100000 in
theorem lf_169_0 (o : Option (Nat × Nat)) (p0 : Int32) (p1 : Int32) (p2 : Int32) (p3 : Int32) (p4 : Int32) (p5 : Int32) (h : Hp) : Ru 169 0 [(0, aR o), (1, aI p0), (2, aI p1), (3, aI p2), (4, aI p3), (5, aI p4), (6, aI p5)] [] h =
    cI (Ex 159 [aR o, aI p2] h) (fun x2 h1 =>
    if x2 = 0 then
      some (.inl none, h1)
    else
      cI (Ex 160 [aR o, aI p2, aI p3, aI p4, aI p0, aI (2 : Int32), aI p5] h1) (fun x4 h3 =>
      if x4 = 0 then
        some (.inl none, h3)
      else
        cI (Ex 162 [aR o, aI p2, aI p3, aI p1] h3) (fun x6 h5 =>
        if x6 = 0 then
          cR (Ex 158 [aR o, aI p1] h5) (fun x8 h7 =>
          cV (Ex 163 [aR o, aI p2, aI p3, aI p1] h7) (fun h9 =>
          (pf h9 x8 15 7 (aI (1 : Int32))).bind (fun h10 =>
          (gfR h10 x8 15 5).bind (fun x11 =>
          cV (Ex 186 [aR x11, aI p2, aI p3, aI p4] h10) (fun h12 =>
          (gfI h12 x8 15 9).bind (fun x13 =>
          if x13 = 0 then
            (gfI h12 x8 15 8).bind (fun x14 =>
            if x14 = 0 then
              (gfI h12 x8 15 12).bind (fun x15 =>
              if x15 = 0 then
                (gfR h12 o 14 0).bind (fun x16 =>
                cI (Ex 233 [aR x16, aI p2] h12) (fun x18 h17 =>
                cV (Ex 165 [aR o, aR x8, aI x18, aI p4] h17) (fun h19 =>
                some (.inl none, h19)) xT) xT)
              else
                some (.inl none, h12))
            else
              some (.inl none, h12))
          else
            some (.inl none, h12))) xT))) xT) xT
        else
          some (.inl none, h5)) xT) xT) xT :=
  lift_of (k := 56) (rows := code_169) (cuts := cut_169) (hs := hdl_169) (r := fun R E =>
    cI (E 159 [aR o, aI p2] h) (fun x2 h1 =>
    if x2 = 0 then
      some (.inl none, h1)
    else
      cI (E 160 [aR o, aI p2, aI p3, aI p4, aI p0, aI (2 : Int32), aI p5] h1) (fun x4 h3 =>
      if x4 = 0 then
        some (.inl none, h3)
      else
        cI (E 162 [aR o, aI p2, aI p3, aI p1] h3) (fun x6 h5 =>
        if x6 = 0 then
          cR (E 158 [aR o, aI p1] h5) (fun x8 h7 =>
          cV (E 163 [aR o, aI p2, aI p3, aI p1] h7) (fun h9 =>
          (pf h9 x8 15 7 (aI (1 : Int32))).bind (fun h10 =>
          (gfR h10 x8 15 5).bind (fun x11 =>
          cV (E 186 [aR x11, aI p2, aI p3, aI p4] h10) (fun h12 =>
          (gfI h12 x8 15 9).bind (fun x13 =>
          if x13 = 0 then
            (gfI h12 x8 15 8).bind (fun x14 =>
            if x14 = 0 then
              (gfI h12 x8 15 12).bind (fun x15 =>
              if x15 = 0 then
                (gfR h12 o 14 0).bind (fun x16 =>
                cI (E 233 [aR x16, aI p2] h12) (fun x18 h17 =>
                cV (E 165 [aR o, aR x8, aI x18, aI p4] h17) (fun h19 =>
                some (.inl none, h19)) xT) xT)
              else
                some (.inl none, h12))
            else
              some (.inl none, h12))
          else
            some (.inl none, h12))) xT))) xT) xT
        else
          some (.inl none, h5)) xT) xT) xT) rfl rfl rfl (fun R E => rfl)
-- ChipcardhouseModel$Issuer.takesBack(I)V
set_option maxRecDepth 100000 in
theorem lf_170_0 (o : Option (Nat × Nat)) (p0 : Int32) (h : Hp) : Ru 170 0 [(0, aR o), (1, aI p0)] [] h =
    cR (Ex 158 [aR o, aI p0] h) (fun x2 h1 =>
    (gfI h1 x2 15 8).bind (fun x3 =>
    if x3 = 0 then
      (pf h1 x2 15 9 (aI (1 : Int32))).bind (fun h4 =>
      cV (Ex 166 [aR o, aR x2] h4) (fun h5 =>
      some (.inl none, h5)) xT)
    else
      cV (Ex 166 [aR o, aR x2] h1) (fun h6 =>
      some (.inl none, h6)) xT)) xT :=
  lift_of (k := 15) (rows := code_170) (cuts := cut_170) (hs := hdl_170) (r := fun R E =>
    cR (E 158 [aR o, aI p0] h) (fun x2 h1 =>
    (gfI h1 x2 15 8).bind (fun x3 =>
    if x3 = 0 then
      (pf h1 x2 15 9 (aI (1 : Int32))).bind (fun h4 =>
      cV (E 166 [aR o, aR x2] h4) (fun h5 =>
      some (.inl none, h5)) xT)
    else
      cV (E 166 [aR o, aR x2] h1) (fun h6 =>
      some (.inl none, h6)) xT)) xT) rfl rfl rfl (fun R E => rfl)
-- ChipcardhouseModel$Issuer.records(IIIIIII)V
set_option maxRecDepth 100000 in
theorem lf_171_0 (o : Option (Nat × Nat)) (p0 : Int32) (p1 : Int32) (p2 : Int32) (p3 : Int32) (p4 : Int32) (p5 : Int32) (p6 : Int32) (h : Hp) : Ru 171 0 [(0, aR o), (1, aI p0), (2, aI p1), (3, aI p2), (4, aI p3), (5, aI p4), (6, aI p5), (7, aI p6)] [] h =
    cR (Ex 158 [aR o, aI p1] h) (fun x2 h1 =>
    (gfI h1 x2 15 8).bind (fun x3 =>
    if x3 = 0 then
      cI (Ex 172 [aR o, aI p2, aI p3] h1) (fun x5 h4 =>
      if x5 = 0 then
        Ru 171 31 [(0, aR o), (1, aI p0), (3, aI p2), (4, aI p3), (5, aI p4), (6, aI p5), (7, aI p6), (8, aR x2)] [aI (1 : Int32)] h4
      else
        Ru 171 31 [(0, aR o), (1, aI p0), (3, aI p2), (4, aI p3), (5, aI p4), (6, aI p5), (7, aI p6), (8, aR x2)] [aI (0 : Int32)] h4) xT
    else
      some (.inl none, h1))) xT :=
  lift_of (k := 15) (rows := code_171) (cuts := cut_171) (hs := hdl_171) (r := fun R E =>
    cR (E 158 [aR o, aI p1] h) (fun x2 h1 =>
    (gfI h1 x2 15 8).bind (fun x3 =>
    if x3 = 0 then
      cI (E 172 [aR o, aI p2, aI p3] h1) (fun x5 h4 =>
      if x5 = 0 then
        R 31 [(0, aR o), (1, aI p0), (3, aI p2), (4, aI p3), (5, aI p4), (6, aI p5), (7, aI p6), (8, aR x2)] [aI (1 : Int32)] h4
      else
        R 31 [(0, aR o), (1, aI p0), (3, aI p2), (4, aI p3), (5, aI p4), (6, aI p5), (7, aI p6), (8, aR x2)] [aI (0 : Int32)] h4) xT
    else
      some (.inl none, h1))) xT) rfl rfl rfl (fun R E => rfl)
set_option maxRecDepth 100000 in
theorem lf_171_31 (o : Option (Nat × Nat)) (v1 : Int32) (v3 : Int32) (v4 : Int32) (v5 : Int32) (v6 : Int32) (v7 : Int32) (v8 : Option (Nat × Nat)) (s0 : Int32) (h : Hp) : Ru 171 31 [(0, aR o), (1, aI v1), (3, aI v3), (4, aI v4), (5, aI v5), (6, aI v6), (7, aI v7), (8, aR v8)] [aI s0] h =
    if v7 = (1 : Int32) then
      if s0 = 0 then
        Ru 171 72 [(0, aR o), (1, aI v1), (3, aI v3), (4, aI v4), (5, aI v5), (8, aR v8)] [] h
      else
        cI (Ex 159 [aR o, aI v3] h) (fun x2 h1 =>
        if x2 = 0 then
          Ru 171 72 [(0, aR o), (1, aI v1), (3, aI v3), (4, aI v4), (5, aI v5), (8, aR v8)] [] h1
        else
          cI (Ex 160 [aR o, aI v3, aI v4, aI v5, aI v1, aI (1 : Int32), aI v6] h1) (fun x4 h3 =>
          if x4 = 0 then
            Ru 171 72 [(0, aR o), (1, aI v1), (3, aI v3), (4, aI v4), (5, aI v5), (8, aR v8)] [] h3
          else
            Ru 171 73 [(0, aR o), (1, aI v1), (3, aI v3), (4, aI v4), (5, aI v5), (8, aR v8)] [aI (1 : Int32)] h3) xT) xT
    else
      if v7 = (2 : Int32) then
        if s0 = 0 then
          Ru 171 126 [(0, aR o), (1, aI v1), (3, aI v3), (4, aI v4), (5, aI v5), (8, aR v8)] [] h
        else
          (gfI h v8 15 0).bind (fun x5 =>
          if x5 = (1 : Int32) then
            (gfI h v8 15 9).bind (fun x6 =>
            if x6 = 0 then
              (gfR h v8 15 4).bind (fun x7 =>
              cI (Ex 187 [aR x7, aI v3, aI v4, aI v5] h) (fun x9 h8 =>
              if x9 = 0 then
                Ru 171 126 [(0, aR o), (1, aI v1), (3, aI v3), (4, aI v4), (5, aI v5), (8, aR v8)] [] h8
              else
                Ru 171 127 [(0, aR o), (1, aI v1), (3, aI v3), (4, aI v4), (5, aI v5), (8, aR v8)] [aI (1 : Int32)] h8) xT)
            else
              Ru 171 126 [(0, aR o), (1, aI v1), (3, aI v3), (4, aI v4), (5, aI v5), (8, aR v8)] [] h)
          else
            Ru 171 126 [(0, aR o), (1, aI v1), (3, aI v3), (4, aI v4), (5, aI v5), (8, aR v8)] [] h)
      else
        if s0 = 0 then
          Ru 171 173 [(0, aR o), (1, aI v1), (3, aI v3), (4, aI v4), (5, aI v5), (8, aR v8)] [] h
        else
          (gfI h v8 15 7).bind (fun x10 =>
          if x10 = 0 then
            Ru 171 173 [(0, aR o), (1, aI v1), (3, aI v3), (4, aI v4), (5, aI v5), (8, aR v8)] [] h
          else
            (gfI h v8 15 9).bind (fun x11 =>
            if x11 = 0 then
              (gfR h v8 15 5).bind (fun x12 =>
              cI (Ex 187 [aR x12, aI v3, aI v4, aI v5] h) (fun x14 h13 =>
              if x14 = 0 then
                Ru 171 173 [(0, aR o), (1, aI v1), (3, aI v3), (4, aI v4), (5, aI v5), (8, aR v8)] [] h13
              else
                Ru 171 174 [(0, aR o), (1, aI v1), (3, aI v3), (4, aI v4), (5, aI v5), (8, aR v8)] [aI (1 : Int32)] h13) xT)
            else
              Ru 171 173 [(0, aR o), (1, aI v1), (3, aI v3), (4, aI v4), (5, aI v5), (8, aR v8)] [] h)) :=
  lift_of (k := 26) (rows := code_171) (cuts := cut_171) (hs := hdl_171) (r := fun R E =>
    if v7 = (1 : Int32) then
      if s0 = 0 then
        R 72 [(0, aR o), (1, aI v1), (3, aI v3), (4, aI v4), (5, aI v5), (8, aR v8)] [] h
      else
        cI (E 159 [aR o, aI v3] h) (fun x2 h1 =>
        if x2 = 0 then
          R 72 [(0, aR o), (1, aI v1), (3, aI v3), (4, aI v4), (5, aI v5), (8, aR v8)] [] h1
        else
          cI (E 160 [aR o, aI v3, aI v4, aI v5, aI v1, aI (1 : Int32), aI v6] h1) (fun x4 h3 =>
          if x4 = 0 then
            R 72 [(0, aR o), (1, aI v1), (3, aI v3), (4, aI v4), (5, aI v5), (8, aR v8)] [] h3
          else
            R 73 [(0, aR o), (1, aI v1), (3, aI v3), (4, aI v4), (5, aI v5), (8, aR v8)] [aI (1 : Int32)] h3) xT) xT
    else
      if v7 = (2 : Int32) then
        if s0 = 0 then
          R 126 [(0, aR o), (1, aI v1), (3, aI v3), (4, aI v4), (5, aI v5), (8, aR v8)] [] h
        else
          (gfI h v8 15 0).bind (fun x5 =>
          if x5 = (1 : Int32) then
            (gfI h v8 15 9).bind (fun x6 =>
            if x6 = 0 then
              (gfR h v8 15 4).bind (fun x7 =>
              cI (E 187 [aR x7, aI v3, aI v4, aI v5] h) (fun x9 h8 =>
              if x9 = 0 then
                R 126 [(0, aR o), (1, aI v1), (3, aI v3), (4, aI v4), (5, aI v5), (8, aR v8)] [] h8
              else
                R 127 [(0, aR o), (1, aI v1), (3, aI v3), (4, aI v4), (5, aI v5), (8, aR v8)] [aI (1 : Int32)] h8) xT)
            else
              R 126 [(0, aR o), (1, aI v1), (3, aI v3), (4, aI v4), (5, aI v5), (8, aR v8)] [] h)
          else
            R 126 [(0, aR o), (1, aI v1), (3, aI v3), (4, aI v4), (5, aI v5), (8, aR v8)] [] h)
      else
        if s0 = 0 then
          R 173 [(0, aR o), (1, aI v1), (3, aI v3), (4, aI v4), (5, aI v5), (8, aR v8)] [] h
        else
          (gfI h v8 15 7).bind (fun x10 =>
          if x10 = 0 then
            R 173 [(0, aR o), (1, aI v1), (3, aI v3), (4, aI v4), (5, aI v5), (8, aR v8)] [] h
          else
            (gfI h v8 15 9).bind (fun x11 =>
            if x11 = 0 then
              (gfR h v8 15 5).bind (fun x12 =>
              cI (E 187 [aR x12, aI v3, aI v4, aI v5] h) (fun x14 h13 =>
              if x14 = 0 then
                R 173 [(0, aR o), (1, aI v1), (3, aI v3), (4, aI v4), (5, aI v5), (8, aR v8)] [] h13
              else
                R 174 [(0, aR o), (1, aI v1), (3, aI v3), (4, aI v4), (5, aI v5), (8, aR v8)] [aI (1 : Int32)] h13) xT)
            else
              R 173 [(0, aR o), (1, aI v1), (3, aI v3), (4, aI v4), (5, aI v5), (8, aR v8)] [] h))) rfl rfl rfl (fun R E => rfl)
set_option maxRecDepth 100000 in
theorem lf_171_174 (o : Option (Nat × Nat)) (v1 : Int32) (v3 : Int32) (v4 : Int32) (v5 : Int32) (v8 : Option (Nat × Nat)) (s0 : Int32) (h : Hp) : Ru 171 174 [(0, aR o), (1, aI v1), (3, aI v3), (4, aI v4), (5, aI v5), (8, aR v8)] [aI s0] h =
    Ru 171 176 [(0, aR o), (1, aI v1), (3, aI v3), (4, aI v4), (5, aI v5), (8, aR v8), (9, aI s0)] [] h :=
  lift_of (k := 2) (rows := code_171) (cuts := cut_171) (hs := hdl_171) (r := fun R E =>
    R 176 [(0, aR o), (1, aI v1), (3, aI v3), (4, aI v4), (5, aI v5), (8, aR v8), (9, aI s0)] [] h) rfl rfl rfl (fun R E => rfl)
set_option maxRecDepth 100000 in
theorem lf_171_176 (o : Option (Nat × Nat)) (v1 : Int32) (v3 : Int32) (v4 : Int32) (v5 : Int32) (v8 : Option (Nat × Nat)) (v9 : Int32) (h : Hp) : Ru 171 176 [(0, aR o), (1, aI v1), (3, aI v3), (4, aI v4), (5, aI v5), (8, aR v8), (9, aI v9)] [] h =
    if v9 = 0 then
      (gfI h v8 15 10).bind (fun x1 =>
      if x1 = 0 then
        (pf h v8 15 10 (aI (1 : Int32))).bind (fun h2 =>
        (gfI h2 o 14 13).bind (fun x3 =>
        (pf h2 o 14 13 (aI (x3 + (1 : Int32)))).bind (fun h4 =>
        some (.inl none, h4))))
      else
        some (.inl none, h))
    else
      cV (Ex 173 [aR o, aR v8, aI v1, aI v3, aI v4, aI v5] h) (fun h5 =>
      some (.inl none, h5)) xT :=
  lift_of (k := 16) (rows := code_171) (cuts := cut_171) (hs := hdl_171) (r := fun R E =>
    if v9 = 0 then
      (gfI h v8 15 10).bind (fun x1 =>
      if x1 = 0 then
        (pf h v8 15 10 (aI (1 : Int32))).bind (fun h2 =>
        (gfI h2 o 14 13).bind (fun x3 =>
        (pf h2 o 14 13 (aI (x3 + (1 : Int32)))).bind (fun h4 =>
        some (.inl none, h4))))
      else
        some (.inl none, h))
    else
      cV (E 173 [aR o, aR v8, aI v1, aI v3, aI v4, aI v5] h) (fun h5 =>
      some (.inl none, h5)) xT) rfl rfl rfl (fun R E => rfl)
set_option maxRecDepth 100000 in
theorem lf_171_173 (o : Option (Nat × Nat)) (v1 : Int32) (v3 : Int32) (v4 : Int32) (v5 : Int32) (v8 : Option (Nat × Nat)) (h : Hp) : Ru 171 173 [(0, aR o), (1, aI v1), (3, aI v3), (4, aI v4), (5, aI v5), (8, aR v8)] [] h =
    Ru 171 174 [(0, aR o), (1, aI v1), (3, aI v3), (4, aI v4), (5, aI v5), (8, aR v8)] [aI (0 : Int32)] h :=
  lift_of (k := 2) (rows := code_171) (cuts := cut_171) (hs := hdl_171) (r := fun R E =>
    R 174 [(0, aR o), (1, aI v1), (3, aI v3), (4, aI v4), (5, aI v5), (8, aR v8)] [aI (0 : Int32)] h) rfl rfl rfl (fun R E => rfl)
set_option maxRecDepth 100000 in
theorem lf_171_127 (o : Option (Nat × Nat)) (v1 : Int32) (v3 : Int32) (v4 : Int32) (v5 : Int32) (v8 : Option (Nat × Nat)) (s0 : Int32) (h : Hp) : Ru 171 127 [(0, aR o), (1, aI v1), (3, aI v3), (4, aI v4), (5, aI v5), (8, aR v8)] [aI s0] h =
    Ru 171 176 [(0, aR o), (1, aI v1), (3, aI v3), (4, aI v4), (5, aI v5), (8, aR v8), (9, aI s0)] [] h :=
  lift_of (k := 3) (rows := code_171) (cuts := cut_171) (hs := hdl_171) (r := fun R E =>
    R 176 [(0, aR o), (1, aI v1), (3, aI v3), (4, aI v4), (5, aI v5), (8, aR v8), (9, aI s0)] [] h) rfl rfl rfl (fun R E => rfl)
set_option maxRecDepth 100000 in
theorem lf_171_126 (o : Option (Nat × Nat)) (v1 : Int32) (v3 : Int32) (v4 : Int32) (v5 : Int32) (v8 : Option (Nat × Nat)) (h : Hp) : Ru 171 126 [(0, aR o), (1, aI v1), (3, aI v3), (4, aI v4), (5, aI v5), (8, aR v8)] [] h =
    Ru 171 127 [(0, aR o), (1, aI v1), (3, aI v3), (4, aI v4), (5, aI v5), (8, aR v8)] [aI (0 : Int32)] h :=
  lift_of (k := 2) (rows := code_171) (cuts := cut_171) (hs := hdl_171) (r := fun R E =>
    R 127 [(0, aR o), (1, aI v1), (3, aI v3), (4, aI v4), (5, aI v5), (8, aR v8)] [aI (0 : Int32)] h) rfl rfl rfl (fun R E => rfl)
set_option maxRecDepth 100000 in
theorem lf_171_73 (o : Option (Nat × Nat)) (v1 : Int32) (v3 : Int32) (v4 : Int32) (v5 : Int32) (v8 : Option (Nat × Nat)) (s0 : Int32) (h : Hp) : Ru 171 73 [(0, aR o), (1, aI v1), (3, aI v3), (4, aI v4), (5, aI v5), (8, aR v8)] [aI s0] h =
    Ru 171 176 [(0, aR o), (1, aI v1), (3, aI v3), (4, aI v4), (5, aI v5), (8, aR v8), (9, aI s0)] [] h :=
  lift_of (k := 3) (rows := code_171) (cuts := cut_171) (hs := hdl_171) (r := fun R E =>
    R 176 [(0, aR o), (1, aI v1), (3, aI v3), (4, aI v4), (5, aI v5), (8, aR v8), (9, aI s0)] [] h) rfl rfl rfl (fun R E => rfl)
set_option maxRecDepth 100000 in
theorem lf_171_72 (o : Option (Nat × Nat)) (v1 : Int32) (v3 : Int32) (v4 : Int32) (v5 : Int32) (v8 : Option (Nat × Nat)) (h : Hp) : Ru 171 72 [(0, aR o), (1, aI v1), (3, aI v3), (4, aI v4), (5, aI v5), (8, aR v8)] [] h =
    Ru 171 73 [(0, aR o), (1, aI v1), (3, aI v3), (4, aI v4), (5, aI v5), (8, aR v8)] [aI (0 : Int32)] h :=
  lift_of (k := 2) (rows := code_171) (cuts := cut_171) (hs := hdl_171) (r := fun R E =>
    R 73 [(0, aR o), (1, aI v1), (3, aI v3), (4, aI v4), (5, aI v5), (8, aR v8)] [aI (0 : Int32)] h) rfl rfl rfl (fun R E => rfl)
-- ChipcardhouseModel$Issuer.isPostedByOther(II)Z
set_option maxRecDepth 100000 in
theorem lf_172_0 (o : Option (Nat × Nat)) (p0 : Int32) (p1 : Int32) (h : Hp) : Ru 172 0 [(0, aR o), (1, aI p0), (2, aI p1)] [] h =
    Ru 172 2 [(0, aR o), (1, aI p0), (2, aI p1), (3, aI (0 : Int32))] [] h :=
  lift_of (k := 3) (rows := code_172) (cuts := cut_172) (hs := hdl_172) (r := fun R E =>
    R 2 [(0, aR o), (1, aI p0), (2, aI p1), (3, aI (0 : Int32))] [] h) rfl rfl rfl (fun R E => rfl)
set_option maxRecDepth 100000 in
theorem lf_172_2 (o : Option (Nat × Nat)) (v1 : Int32) (v2 : Int32) (v3 : Int32) (h : Hp) : Ru 172 2 [(0, aR o), (1, aI v1), (2, aI v2), (3, aI v3)] [] h =
    if (1000 : Int32) ≤ v3 then
      some (.inl (some (aI (0 : Int32))), h)
    else
      (gfR h o 14 2).bind (fun x1 =>
      (gaR h x1 v3).bind (fun x2 =>
      if x2 = none then
        Ru 172 2 [(0, aR o), (1, aI v1), (2, aI v2), (3, aI (v3 + (1 : Int32)))] [] h
      else
        (gfI h x2 15 8).bind (fun x3 =>
        if x3 = 0 then
          Ru 172 2 [(0, aR o), (1, aI v1), (2, aI v2), (3, aI (v3 + (1 : Int32)))] [] h
        else
          (gfR h x2 15 6).bind (fun x4 =>
          (gaI h x4 1000 (0 : Int32)).bind (fun x5 =>
          if x5 = v1 then
            (gfR h x2 15 6).bind (fun x6 =>
            (gaI h x6 1000 (1 : Int32)).bind (fun x7 =>
            if x7 = v2 then
              some (.inl (some (aI (1 : Int32))), h)
            else
              Ru 172 2 [(0, aR o), (1, aI v1), (2, aI v2), (3, aI (v3 + (1 : Int32)))] [] h))
          else
            Ru 172 2 [(0, aR o), (1, aI v1), (2, aI v2), (3, aI (v3 + (1 : Int32)))] [] h))))) :=
  lift_of (k := 28) (rows := code_172) (cuts := cut_172) (hs := hdl_172) (r := fun R E =>
    if (1000 : Int32) ≤ v3 then
      some (.inl (some (aI (0 : Int32))), h)
    else
      (gfR h o 14 2).bind (fun x1 =>
      (gaR h x1 v3).bind (fun x2 =>
      if x2 = none then
        R 2 [(0, aR o), (1, aI v1), (2, aI v2), (3, aI (v3 + (1 : Int32)))] [] h
      else
        (gfI h x2 15 8).bind (fun x3 =>
        if x3 = 0 then
          R 2 [(0, aR o), (1, aI v1), (2, aI v2), (3, aI (v3 + (1 : Int32)))] [] h
        else
          (gfR h x2 15 6).bind (fun x4 =>
          (gaI h x4 1000 (0 : Int32)).bind (fun x5 =>
          if x5 = v1 then
            (gfR h x2 15 6).bind (fun x6 =>
            (gaI h x6 1000 (1 : Int32)).bind (fun x7 =>
            if x7 = v2 then
              some (.inl (some (aI (1 : Int32))), h)
            else
              R 2 [(0, aR o), (1, aI v1), (2, aI v2), (3, aI (v3 + (1 : Int32)))] [] h))
          else
            R 2 [(0, aR o), (1, aI v1), (2, aI v2), (3, aI (v3 + (1 : Int32)))] [] h)))))) rfl rfl rfl (fun R E => rfl)
-- ChipcardhouseModel$Issuer.post(LChipcardhouseModel$Known;IIII)V
set_option maxRecDepth 100000 in
theorem lf_173_0 (o : Option (Nat × Nat)) (p0 : Option (Nat × Nat)) (p1 : Int32) (p2 : Int32) (p3 : Int32) (p4 : Int32) (h : Hp) : Ru 173 0 [(0, aR o), (1, aR p0), (2, aI p1), (3, aI p2), (4, aI p3), (5, aI p4)] [] h =
    cV (Ex 166 [aR o, aR p0] h) (fun h1 =>
    (gfR h1 o 14 1).bind (fun x2 =>
    (gfR h1 o 14 0).bind (fun x3 =>
    cI (Ex 233 [aR x3, aI p2] h1) (fun x5 h4 =>
    cV (Ex 149 [aR x2, aI x5, aI p1, aI p4] h4) (fun h6 =>
    (gfR h6 p0 15 6).bind (fun x7 =>
    cV (Ex 186 [aR x7, aI p2, aI p3, aI p4] h6) (fun h8 =>
    (pf h8 p0 15 8 (aI (1 : Int32))).bind (fun h9 =>
    (pf h9 p0 15 14 (aI p1)).bind (fun h10 =>
    (pf h10 p0 15 16 (aI p4)).bind (fun h11 =>
    (gfI h11 o 14 11).bind (fun x12 =>
    (pf h11 p0 15 15 (aI x12)).bind (fun h13 =>
    (gfI h13 o 14 12).bind (fun x14 =>
    (pf h13 o 14 12 (aI (x14 + (1 : Int32)))).bind (fun h15 =>
    some (.inl none, h15))))))))) xT)) xT) xT))) xT :=
  lift_of (k := 39) (rows := code_173) (cuts := cut_173) (hs := hdl_173) (r := fun R E =>
    cV (E 166 [aR o, aR p0] h) (fun h1 =>
    (gfR h1 o 14 1).bind (fun x2 =>
    (gfR h1 o 14 0).bind (fun x3 =>
    cI (E 233 [aR x3, aI p2] h1) (fun x5 h4 =>
    cV (E 149 [aR x2, aI x5, aI p1, aI p4] h4) (fun h6 =>
    (gfR h6 p0 15 6).bind (fun x7 =>
    cV (E 186 [aR x7, aI p2, aI p3, aI p4] h6) (fun h8 =>
    (pf h8 p0 15 8 (aI (1 : Int32))).bind (fun h9 =>
    (pf h9 p0 15 14 (aI p1)).bind (fun h10 =>
    (pf h10 p0 15 16 (aI p4)).bind (fun h11 =>
    (gfI h11 o 14 11).bind (fun x12 =>
    (pf h11 p0 15 15 (aI x12)).bind (fun h13 =>
    (gfI h13 o 14 12).bind (fun x14 =>
    (pf h13 o 14 12 (aI (x14 + (1 : Int32)))).bind (fun h15 =>
    some (.inl none, h15))))))))) xT)) xT) xT))) xT) rfl rfl rfl (fun R E => rfl)
-- ChipcardhouseModel$Issuer.backMoney(IIII)V
set_option maxRecDepth 100000 in
theorem lf_174_0 (o : Option (Nat × Nat)) (p0 : Int32) (p1 : Int32) (p2 : Int32) (p3 : Int32) (h : Hp) : Ru 174 0 [(0, aR o), (1, aI p0), (2, aI p1), (3, aI p2), (4, aI p3)] [] h =
    (gfR h o 14 9).bind (fun x1 =>
    (gaR h x1 p0).bind (fun x2 =>
    (gaI h x2 1002 p1).bind (fun x3 =>
    if x3 = 0 then
      (gfR h o 14 9).bind (fun x4 =>
      (gaR h x4 p0).bind (fun x5 =>
      (pa h x5 1002 p1 (aI (1 : Int32))).bind (fun h6 =>
      cR (Ex 158 [aR o, aI p2] h6) (fun x8 h7 =>
      (gfI h7 x8 15 8).bind (fun x9 =>
      if x9 = 0 then
        some (.inl none, h7)
      else
        (gfI h7 x8 15 14).bind (fun x10 =>
        if x10 = p0 then
          (gfI h7 x8 15 16).bind (fun x11 =>
          if x11 < p3 then
            some (.inl none, h7)
          else
            (gfI h7 x8 15 16).bind (fun x12 =>
            (pf h7 x8 15 16 (aI (x12 - p3))).bind (fun h13 =>
            (gfR h13 o 14 1).bind (fun x14 =>
            (gfR h13 o 14 0).bind (fun x15 =>
            (gfR h13 x8 15 6).bind (fun x16 =>
            (gaI h13 x16 1000 (0 : Int32)).bind (fun x17 =>
            cI (Ex 233 [aR x15, aI x17] h13) (fun x19 h18 =>
            cV (Ex 150 [aR x14, aI x19, aI p0, aI p3] h18) (fun h20 =>
            some (.inl none, h20)) xT) xT)))))))
        else
          some (.inl none, h7)))) xT)))
    else
      some (.inl none, h)))) :=
  lift_of (k := 49) (rows := code_174) (cuts := cut_174) (hs := hdl_174) (r := fun R E =>
    (gfR h o 14 9).bind (fun x1 =>
    (gaR h x1 p0).bind (fun x2 =>
    (gaI h x2 1002 p1).bind (fun x3 =>
    if x3 = 0 then
      (gfR h o 14 9).bind (fun x4 =>
      (gaR h x4 p0).bind (fun x5 =>
      (pa h x5 1002 p1 (aI (1 : Int32))).bind (fun h6 =>
      cR (E 158 [aR o, aI p2] h6) (fun x8 h7 =>
      (gfI h7 x8 15 8).bind (fun x9 =>
      if x9 = 0 then
        some (.inl none, h7)
      else
        (gfI h7 x8 15 14).bind (fun x10 =>
        if x10 = p0 then
          (gfI h7 x8 15 16).bind (fun x11 =>
          if x11 < p3 then
            some (.inl none, h7)
          else
            (gfI h7 x8 15 16).bind (fun x12 =>
            (pf h7 x8 15 16 (aI (x12 - p3))).bind (fun h13 =>
            (gfR h13 o 14 1).bind (fun x14 =>
            (gfR h13 o 14 0).bind (fun x15 =>
            (gfR h13 x8 15 6).bind (fun x16 =>
            (gaI h13 x16 1000 (0 : Int32)).bind (fun x17 =>
            cI (E 233 [aR x15, aI x17] h13) (fun x19 h18 =>
            cV (E 150 [aR x14, aI x19, aI p0, aI p3] h18) (fun h20 =>
            some (.inl none, h20)) xT) xT)))))))
        else
          some (.inl none, h7)))) xT)))
    else
      some (.inl none, h))))) rfl rfl rfl (fun R E => rfl)
-- ChipcardhouseModel$Issuer.tells(II)I
set_option maxRecDepth 100000 in
theorem lf_175_0 (o : Option (Nat × Nat)) (p0 : Int32) (p1 : Int32) (h : Hp) : Ru 175 0 [(0, aR o), (1, aI p0), (2, aI p1)] [] h =
    cI (Ex 159 [aR o, aI p0] h) (fun x2 h1 =>
    if x2 = 0 then
      (pf h1 o 14 10 (aI (1 : Int32))).bind (fun h3 =>
      (gfI h3 o 14 10).bind (fun x4 =>
      if x4 = 0 then
        (gfR h3 o 14 7).bind (fun x5 =>
        (gaI h3 x5 1000 p0).bind (fun x6 =>
        (pa h3 x5 1000 p0 (aI (x6 ||| ((1 : Int32) <<< (p1 &&& 31))))).bind (fun h7 =>
        Ru 175 57 [(0, aR o), (1, aI p0), (3, aI (0 : Int32)), (4, aI (1 : Int32))] [] h7)))
      else
        some (.inl (some (aI (0 : Int32))), h3)))
    else
      if p1 < (1 : Int32) then
        (pf h1 o 14 10 (aI (2 : Int32))).bind (fun h8 =>
        (gfI h8 o 14 10).bind (fun x9 =>
        if x9 = 0 then
          (gfR h8 o 14 7).bind (fun x10 =>
          (gaI h8 x10 1000 p0).bind (fun x11 =>
          (pa h8 x10 1000 p0 (aI (x11 ||| ((1 : Int32) <<< (p1 &&& 31))))).bind (fun h12 =>
          Ru 175 57 [(0, aR o), (1, aI p0), (3, aI (0 : Int32)), (4, aI (1 : Int32))] [] h12)))
        else
          some (.inl (some (aI (0 : Int32))), h8)))
      else
        if p1 ≤ (3 : Int32) then
          (pf h1 o 14 10 (aI (0 : Int32))).bind (fun h13 =>
          (gfI h13 o 14 10).bind (fun x14 =>
          if x14 = 0 then
            (gfR h13 o 14 7).bind (fun x15 =>
            (gaI h13 x15 1000 p0).bind (fun x16 =>
            (pa h13 x15 1000 p0 (aI (x16 ||| ((1 : Int32) <<< (p1 &&& 31))))).bind (fun h17 =>
            Ru 175 57 [(0, aR o), (1, aI p0), (3, aI (0 : Int32)), (4, aI (1 : Int32))] [] h17)))
          else
            some (.inl (some (aI (0 : Int32))), h13)))
        else
          (pf h1 o 14 10 (aI (2 : Int32))).bind (fun h18 =>
          (gfI h18 o 14 10).bind (fun x19 =>
          if x19 = 0 then
            (gfR h18 o 14 7).bind (fun x20 =>
            (gaI h18 x20 1000 p0).bind (fun x21 =>
            (pa h18 x20 1000 p0 (aI (x21 ||| ((1 : Int32) <<< (p1 &&& 31))))).bind (fun h22 =>
            Ru 175 57 [(0, aR o), (1, aI p0), (3, aI (0 : Int32)), (4, aI (1 : Int32))] [] h22)))
          else
            some (.inl (some (aI (0 : Int32))), h18)))) xT :=
  lift_of (k := 32) (rows := code_175) (cuts := cut_175) (hs := hdl_175) (r := fun R E =>
    cI (E 159 [aR o, aI p0] h) (fun x2 h1 =>
    if x2 = 0 then
      (pf h1 o 14 10 (aI (1 : Int32))).bind (fun h3 =>
      (gfI h3 o 14 10).bind (fun x4 =>
      if x4 = 0 then
        (gfR h3 o 14 7).bind (fun x5 =>
        (gaI h3 x5 1000 p0).bind (fun x6 =>
        (pa h3 x5 1000 p0 (aI (x6 ||| ((1 : Int32) <<< (p1 &&& 31))))).bind (fun h7 =>
        R 57 [(0, aR o), (1, aI p0), (3, aI (0 : Int32)), (4, aI (1 : Int32))] [] h7)))
      else
        some (.inl (some (aI (0 : Int32))), h3)))
    else
      if p1 < (1 : Int32) then
        (pf h1 o 14 10 (aI (2 : Int32))).bind (fun h8 =>
        (gfI h8 o 14 10).bind (fun x9 =>
        if x9 = 0 then
          (gfR h8 o 14 7).bind (fun x10 =>
          (gaI h8 x10 1000 p0).bind (fun x11 =>
          (pa h8 x10 1000 p0 (aI (x11 ||| ((1 : Int32) <<< (p1 &&& 31))))).bind (fun h12 =>
          R 57 [(0, aR o), (1, aI p0), (3, aI (0 : Int32)), (4, aI (1 : Int32))] [] h12)))
        else
          some (.inl (some (aI (0 : Int32))), h8)))
      else
        if p1 ≤ (3 : Int32) then
          (pf h1 o 14 10 (aI (0 : Int32))).bind (fun h13 =>
          (gfI h13 o 14 10).bind (fun x14 =>
          if x14 = 0 then
            (gfR h13 o 14 7).bind (fun x15 =>
            (gaI h13 x15 1000 p0).bind (fun x16 =>
            (pa h13 x15 1000 p0 (aI (x16 ||| ((1 : Int32) <<< (p1 &&& 31))))).bind (fun h17 =>
            R 57 [(0, aR o), (1, aI p0), (3, aI (0 : Int32)), (4, aI (1 : Int32))] [] h17)))
          else
            some (.inl (some (aI (0 : Int32))), h13)))
        else
          (pf h1 o 14 10 (aI (2 : Int32))).bind (fun h18 =>
          (gfI h18 o 14 10).bind (fun x19 =>
          if x19 = 0 then
            (gfR h18 o 14 7).bind (fun x20 =>
            (gaI h18 x20 1000 p0).bind (fun x21 =>
            (pa h18 x20 1000 p0 (aI (x21 ||| ((1 : Int32) <<< (p1 &&& 31))))).bind (fun h22 =>
            R 57 [(0, aR o), (1, aI p0), (3, aI (0 : Int32)), (4, aI (1 : Int32))] [] h22)))
          else
            some (.inl (some (aI (0 : Int32))), h18)))) xT) rfl rfl rfl (fun R E => rfl)
set_option maxRecDepth 100000 in
theorem lf_175_57 (o : Option (Nat × Nat)) (v1 : Int32) (v3 : Int32) (v4 : Int32) (h : Hp) : Ru 175 57 [(0, aR o), (1, aI v1), (3, aI v3), (4, aI v4)] [] h =
    if (3 : Int32) < v4 then
      some (.inl (some (aI v3)), h)
    else
      (gfR h o 14 7).bind (fun x1 =>
      (gaI h x1 1000 v1).bind (fun x2 =>
      if ((x2 >>> (v4 &&& 31)) &&& (1 : Int32)) = (1 : Int32) then
        Ru 175 57 [(0, aR o), (1, aI v1), (3, aI (v3 + (1 : Int32))), (4, aI (v4 + (1 : Int32)))] [] h
      else
        Ru 175 57 [(0, aR o), (1, aI v1), (3, aI v3), (4, aI (v4 + (1 : Int32)))] [] h)) :=
  lift_of (k := 17) (rows := code_175) (cuts := cut_175) (hs := hdl_175) (r := fun R E =>
    if (3 : Int32) < v4 then
      some (.inl (some (aI v3)), h)
    else
      (gfR h o 14 7).bind (fun x1 =>
      (gaI h x1 1000 v1).bind (fun x2 =>
      if ((x2 >>> (v4 &&& 31)) &&& (1 : Int32)) = (1 : Int32) then
        R 57 [(0, aR o), (1, aI v1), (3, aI (v3 + (1 : Int32))), (4, aI (v4 + (1 : Int32)))] [] h
      else
        R 57 [(0, aR o), (1, aI v1), (3, aI v3), (4, aI (v4 + (1 : Int32)))] [] h))) rfl rfl rfl (fun R E => rfl)
-- ChipcardhouseModel$Issuer.stolen(I)Z
set_option maxRecDepth 100000 in
theorem lf_176_0 (o : Option (Nat × Nat)) (p0 : Int32) (h : Hp) : Ru 176 0 [(0, aR o), (1, aI p0)] [] h =
    cI (Ex 159 [aR o, aI p0] h) (fun x2 h1 =>
    if x2 = 0 then
      (pf h1 o 14 10 (aI (1 : Int32))).bind (fun h3 =>
      (gfI h3 o 14 10).bind (fun x4 =>
      if x4 = 0 then
        (gfR h3 o 14 8).bind (fun x5 =>
        (gaI h3 x5 1002 p0).bind (fun x6 =>
        (gfR h3 o 14 8).bind (fun x7 =>
        (pa h3 x7 1002 p0 (aI (1 : Int32))).bind (fun h8 =>
        gz x6 (some (.inl (some (aI x6)), h8))))))
      else
        some (.inl (some (aI (0 : Int32))), h3)))
    else
      (pf h1 o 14 10 (aI (0 : Int32))).bind (fun h9 =>
      (gfI h9 o 14 10).bind (fun x10 =>
      if x10 = 0 then
        (gfR h9 o 14 8).bind (fun x11 =>
        (gaI h9 x11 1002 p0).bind (fun x12 =>
        (gfR h9 o 14 8).bind (fun x13 =>
        (pa h9 x13 1002 p0 (aI (1 : Int32))).bind (fun h14 =>
        gz x12 (some (.inl (some (aI x12)), h14))))))
      else
        some (.inl (some (aI (0 : Int32))), h9)))) xT :=
  lift_of (k := 24) (rows := code_176) (cuts := cut_176) (hs := hdl_176) (r := fun R E =>
    cI (E 159 [aR o, aI p0] h) (fun x2 h1 =>
    if x2 = 0 then
      (pf h1 o 14 10 (aI (1 : Int32))).bind (fun h3 =>
      (gfI h3 o 14 10).bind (fun x4 =>
      if x4 = 0 then
        (gfR h3 o 14 8).bind (fun x5 =>
        (gaI h3 x5 1002 p0).bind (fun x6 =>
        (gfR h3 o 14 8).bind (fun x7 =>
        (pa h3 x7 1002 p0 (aI (1 : Int32))).bind (fun h8 =>
        gz x6 (some (.inl (some (aI x6)), h8))))))
      else
        some (.inl (some (aI (0 : Int32))), h3)))
    else
      (pf h1 o 14 10 (aI (0 : Int32))).bind (fun h9 =>
      (gfI h9 o 14 10).bind (fun x10 =>
      if x10 = 0 then
        (gfR h9 o 14 8).bind (fun x11 =>
        (gaI h9 x11 1002 p0).bind (fun x12 =>
        (gfR h9 o 14 8).bind (fun x13 =>
        (pa h9 x13 1002 p0 (aI (1 : Int32))).bind (fun h14 =>
        gz x12 (some (.inl (some (aI x12)), h14))))))
      else
        some (.inl (some (aI (0 : Int32))), h9)))) xT) rfl rfl rfl (fun R E => rfl)
-- ChipcardhouseModel$Issuer.knows(II)I
set_option maxRecDepth 100000 in
theorem lf_177_0 (o : Option (Nat × Nat)) (p0 : Int32) (p1 : Int32) (h : Hp) : Ru 177 0 [(0, aR o), (1, aI p0), (2, aI p1)] [] h =
    if p0 < 0 then
      Ru 177 12 [(0, aR o), (1, aI p0), (2, aI p1)] [aR o] h
    else
      if p0 < (1000 : Int32) then
        if p1 < 0 then
          Ru 177 26 [(0, aR o), (1, aI p0), (2, aI p1)] [aR o] h
        else
          if p1 ≤ (7 : Int32) then
            (pf h o 14 10 (aI (0 : Int32))).bind (fun h1 =>
            (gfI h1 o 14 10).bind (fun x2 =>
            if x2 = 0 then
              (gfR h1 o 14 2).bind (fun x3 =>
              (gaR h1 x3 p0).bind (fun x4 =>
              if x4 = none then
                if p1 = (7 : Int32) then
                  some (.inl (some (aI (-1 : Int32))), h1)
                else
                  some (.inl (some (aI (0 : Int32))), h1)
              else
                if p1.toInt = 0 then
                  (gfI h1 x4 15 0).bind (fun x5 =>
                  some (.inl (some (aI x5)), h1))
                else if p1.toInt = 1 then
                  (gfI h1 x4 15 12).bind (fun x6 =>
                  some (.inl (some (aI x6)), h1))
                else if p1.toInt = 2 then
                  (gfI h1 x4 15 8).bind (fun x7 =>
                  if x7 = 0 then
                    some (.inl (some (aI (0 : Int32))), h1)
                  else
                    some (.inl (some (aI (1 : Int32))), h1))
                else if p1.toInt = 3 then
                  (gfI h1 x4 15 9).bind (fun x8 =>
                  if x8 = 0 then
                    some (.inl (some (aI (0 : Int32))), h1)
                  else
                    some (.inl (some (aI (1 : Int32))), h1))
                else if p1.toInt = 4 then
                  (gfI h1 x4 15 10).bind (fun x9 =>
                  if x9 = 0 then
                    some (.inl (some (aI (0 : Int32))), h1)
                  else
                    some (.inl (some (aI (1 : Int32))), h1))
                else if p1.toInt = 5 then
                  (gfI h1 x4 15 7).bind (fun x10 =>
                  if x10 = 0 then
                    some (.inl (some (aI (0 : Int32))), h1)
                  else
                    some (.inl (some (aI (1 : Int32))), h1))
                else if p1.toInt = 6 then
                  (gfI h1 x4 15 16).bind (fun x11 =>
                  some (.inl (some (aI x11)), h1))
                else (gfI h1 x4 15 15).bind (fun x12 =>
                  some (.inl (some (aI x12)), h1))))
            else
              some (.inl (some (aI (0 : Int32))), h1)))
          else
            Ru 177 26 [(0, aR o), (1, aI p0), (2, aI p1)] [aR o] h
      else
        Ru 177 12 [(0, aR o), (1, aI p0), (2, aI p1)] [aR o] h :=
  lift_of (k := 32) (rows := code_177) (cuts := cut_177) (hs := hdl_177) (r := fun R E =>
    if p0 < 0 then
      R 12 [(0, aR o), (1, aI p0), (2, aI p1)] [aR o] h
    else
      if p0 < (1000 : Int32) then
        if p1 < 0 then
          R 26 [(0, aR o), (1, aI p0), (2, aI p1)] [aR o] h
        else
          if p1 ≤ (7 : Int32) then
            (pf h o 14 10 (aI (0 : Int32))).bind (fun h1 =>
            (gfI h1 o 14 10).bind (fun x2 =>
            if x2 = 0 then
              (gfR h1 o 14 2).bind (fun x3 =>
              (gaR h1 x3 p0).bind (fun x4 =>
              if x4 = none then
                if p1 = (7 : Int32) then
                  some (.inl (some (aI (-1 : Int32))), h1)
                else
                  some (.inl (some (aI (0 : Int32))), h1)
              else
                if p1.toInt = 0 then
                  (gfI h1 x4 15 0).bind (fun x5 =>
                  some (.inl (some (aI x5)), h1))
                else if p1.toInt = 1 then
                  (gfI h1 x4 15 12).bind (fun x6 =>
                  some (.inl (some (aI x6)), h1))
                else if p1.toInt = 2 then
                  (gfI h1 x4 15 8).bind (fun x7 =>
                  if x7 = 0 then
                    some (.inl (some (aI (0 : Int32))), h1)
                  else
                    some (.inl (some (aI (1 : Int32))), h1))
                else if p1.toInt = 3 then
                  (gfI h1 x4 15 9).bind (fun x8 =>
                  if x8 = 0 then
                    some (.inl (some (aI (0 : Int32))), h1)
                  else
                    some (.inl (some (aI (1 : Int32))), h1))
                else if p1.toInt = 4 then
                  (gfI h1 x4 15 10).bind (fun x9 =>
                  if x9 = 0 then
                    some (.inl (some (aI (0 : Int32))), h1)
                  else
                    some (.inl (some (aI (1 : Int32))), h1))
                else if p1.toInt = 5 then
                  (gfI h1 x4 15 7).bind (fun x10 =>
                  if x10 = 0 then
                    some (.inl (some (aI (0 : Int32))), h1)
                  else
                    some (.inl (some (aI (1 : Int32))), h1))
                else if p1.toInt = 6 then
                  (gfI h1 x4 15 16).bind (fun x11 =>
                  some (.inl (some (aI x11)), h1))
                else (gfI h1 x4 15 15).bind (fun x12 =>
                  some (.inl (some (aI x12)), h1))))
            else
              some (.inl (some (aI (0 : Int32))), h1)))
          else
            R 26 [(0, aR o), (1, aI p0), (2, aI p1)] [aR o] h
      else
        R 12 [(0, aR o), (1, aI p0), (2, aI p1)] [aR o] h) rfl rfl rfl (fun R E => rfl)
set_option maxRecDepth 100000 in
theorem lf_177_26 (o : Option (Nat × Nat)) (v1 : Int32) (v2 : Int32) (s0 : Option (Nat × Nat)) (h : Hp) : Ru 177 26 [(0, aR o), (1, aI v1), (2, aI v2)] [aR s0] h =
    (pf h s0 14 10 (aI (2 : Int32))).bind (fun h1 =>
    (gfI h1 o 14 10).bind (fun x2 =>
    if x2 = 0 then
      (gfR h1 o 14 2).bind (fun x3 =>
      (gaR h1 x3 v1).bind (fun x4 =>
      if x4 = none then
        if v2 = (7 : Int32) then
          some (.inl (some (aI (-1 : Int32))), h1)
        else
          some (.inl (some (aI (0 : Int32))), h1)
      else
        if v2.toInt = 0 then
          (gfI h1 x4 15 0).bind (fun x5 =>
          some (.inl (some (aI x5)), h1))
        else if v2.toInt = 1 then
          (gfI h1 x4 15 12).bind (fun x6 =>
          some (.inl (some (aI x6)), h1))
        else if v2.toInt = 2 then
          (gfI h1 x4 15 8).bind (fun x7 =>
          if x7 = 0 then
            some (.inl (some (aI (0 : Int32))), h1)
          else
            some (.inl (some (aI (1 : Int32))), h1))
        else if v2.toInt = 3 then
          (gfI h1 x4 15 9).bind (fun x8 =>
          if x8 = 0 then
            some (.inl (some (aI (0 : Int32))), h1)
          else
            some (.inl (some (aI (1 : Int32))), h1))
        else if v2.toInt = 4 then
          (gfI h1 x4 15 10).bind (fun x9 =>
          if x9 = 0 then
            some (.inl (some (aI (0 : Int32))), h1)
          else
            some (.inl (some (aI (1 : Int32))), h1))
        else if v2.toInt = 5 then
          (gfI h1 x4 15 7).bind (fun x10 =>
          if x10 = 0 then
            some (.inl (some (aI (0 : Int32))), h1)
          else
            some (.inl (some (aI (1 : Int32))), h1))
        else if v2.toInt = 6 then
          (gfI h1 x4 15 16).bind (fun x11 =>
          some (.inl (some (aI x11)), h1))
        else (gfI h1 x4 15 15).bind (fun x12 =>
          some (.inl (some (aI x12)), h1))))
    else
      some (.inl (some (aI (0 : Int32))), h1))) :=
  lift_of (k := 22) (rows := code_177) (cuts := cut_177) (hs := hdl_177) (r := fun R E =>
    (pf h s0 14 10 (aI (2 : Int32))).bind (fun h1 =>
    (gfI h1 o 14 10).bind (fun x2 =>
    if x2 = 0 then
      (gfR h1 o 14 2).bind (fun x3 =>
      (gaR h1 x3 v1).bind (fun x4 =>
      if x4 = none then
        if v2 = (7 : Int32) then
          some (.inl (some (aI (-1 : Int32))), h1)
        else
          some (.inl (some (aI (0 : Int32))), h1)
      else
        if v2.toInt = 0 then
          (gfI h1 x4 15 0).bind (fun x5 =>
          some (.inl (some (aI x5)), h1))
        else if v2.toInt = 1 then
          (gfI h1 x4 15 12).bind (fun x6 =>
          some (.inl (some (aI x6)), h1))
        else if v2.toInt = 2 then
          (gfI h1 x4 15 8).bind (fun x7 =>
          if x7 = 0 then
            some (.inl (some (aI (0 : Int32))), h1)
          else
            some (.inl (some (aI (1 : Int32))), h1))
        else if v2.toInt = 3 then
          (gfI h1 x4 15 9).bind (fun x8 =>
          if x8 = 0 then
            some (.inl (some (aI (0 : Int32))), h1)
          else
            some (.inl (some (aI (1 : Int32))), h1))
        else if v2.toInt = 4 then
          (gfI h1 x4 15 10).bind (fun x9 =>
          if x9 = 0 then
            some (.inl (some (aI (0 : Int32))), h1)
          else
            some (.inl (some (aI (1 : Int32))), h1))
        else if v2.toInt = 5 then
          (gfI h1 x4 15 7).bind (fun x10 =>
          if x10 = 0 then
            some (.inl (some (aI (0 : Int32))), h1)
          else
            some (.inl (some (aI (1 : Int32))), h1))
        else if v2.toInt = 6 then
          (gfI h1 x4 15 16).bind (fun x11 =>
          some (.inl (some (aI x11)), h1))
        else (gfI h1 x4 15 15).bind (fun x12 =>
          some (.inl (some (aI x12)), h1))))
    else
      some (.inl (some (aI (0 : Int32))), h1)))) rfl rfl rfl (fun R E => rfl)
set_option maxRecDepth 100000 in
theorem lf_177_12 (o : Option (Nat × Nat)) (v1 : Int32) (v2 : Int32) (s0 : Option (Nat × Nat)) (h : Hp) : Ru 177 12 [(0, aR o), (1, aI v1), (2, aI v2)] [aR s0] h =
    (pf h s0 14 10 (aI (1 : Int32))).bind (fun h1 =>
    (gfI h1 o 14 10).bind (fun x2 =>
    if x2 = 0 then
      (gfR h1 o 14 2).bind (fun x3 =>
      (gaR h1 x3 v1).bind (fun x4 =>
      if x4 = none then
        if v2 = (7 : Int32) then
          some (.inl (some (aI (-1 : Int32))), h1)
        else
          some (.inl (some (aI (0 : Int32))), h1)
      else
        if v2.toInt = 0 then
          (gfI h1 x4 15 0).bind (fun x5 =>
          some (.inl (some (aI x5)), h1))
        else if v2.toInt = 1 then
          (gfI h1 x4 15 12).bind (fun x6 =>
          some (.inl (some (aI x6)), h1))
        else if v2.toInt = 2 then
          (gfI h1 x4 15 8).bind (fun x7 =>
          if x7 = 0 then
            some (.inl (some (aI (0 : Int32))), h1)
          else
            some (.inl (some (aI (1 : Int32))), h1))
        else if v2.toInt = 3 then
          (gfI h1 x4 15 9).bind (fun x8 =>
          if x8 = 0 then
            some (.inl (some (aI (0 : Int32))), h1)
          else
            some (.inl (some (aI (1 : Int32))), h1))
        else if v2.toInt = 4 then
          (gfI h1 x4 15 10).bind (fun x9 =>
          if x9 = 0 then
            some (.inl (some (aI (0 : Int32))), h1)
          else
            some (.inl (some (aI (1 : Int32))), h1))
        else if v2.toInt = 5 then
          (gfI h1 x4 15 7).bind (fun x10 =>
          if x10 = 0 then
            some (.inl (some (aI (0 : Int32))), h1)
          else
            some (.inl (some (aI (1 : Int32))), h1))
        else if v2.toInt = 6 then
          (gfI h1 x4 15 16).bind (fun x11 =>
          some (.inl (some (aI x11)), h1))
        else (gfI h1 x4 15 15).bind (fun x12 =>
          some (.inl (some (aI x12)), h1))))
    else
      some (.inl (some (aI (0 : Int32))), h1))) :=
  lift_of (k := 22) (rows := code_177) (cuts := cut_177) (hs := hdl_177) (r := fun R E =>
    (pf h s0 14 10 (aI (1 : Int32))).bind (fun h1 =>
    (gfI h1 o 14 10).bind (fun x2 =>
    if x2 = 0 then
      (gfR h1 o 14 2).bind (fun x3 =>
      (gaR h1 x3 v1).bind (fun x4 =>
      if x4 = none then
        if v2 = (7 : Int32) then
          some (.inl (some (aI (-1 : Int32))), h1)
        else
          some (.inl (some (aI (0 : Int32))), h1)
      else
        if v2.toInt = 0 then
          (gfI h1 x4 15 0).bind (fun x5 =>
          some (.inl (some (aI x5)), h1))
        else if v2.toInt = 1 then
          (gfI h1 x4 15 12).bind (fun x6 =>
          some (.inl (some (aI x6)), h1))
        else if v2.toInt = 2 then
          (gfI h1 x4 15 8).bind (fun x7 =>
          if x7 = 0 then
            some (.inl (some (aI (0 : Int32))), h1)
          else
            some (.inl (some (aI (1 : Int32))), h1))
        else if v2.toInt = 3 then
          (gfI h1 x4 15 9).bind (fun x8 =>
          if x8 = 0 then
            some (.inl (some (aI (0 : Int32))), h1)
          else
            some (.inl (some (aI (1 : Int32))), h1))
        else if v2.toInt = 4 then
          (gfI h1 x4 15 10).bind (fun x9 =>
          if x9 = 0 then
            some (.inl (some (aI (0 : Int32))), h1)
          else
            some (.inl (some (aI (1 : Int32))), h1))
        else if v2.toInt = 5 then
          (gfI h1 x4 15 7).bind (fun x10 =>
          if x10 = 0 then
            some (.inl (some (aI (0 : Int32))), h1)
          else
            some (.inl (some (aI (1 : Int32))), h1))
        else if v2.toInt = 6 then
          (gfI h1 x4 15 16).bind (fun x11 =>
          some (.inl (some (aI x11)), h1))
        else (gfI h1 x4 15 15).bind (fun x12 =>
          some (.inl (some (aI x12)), h1))))
    else
      some (.inl (some (aI (0 : Int32))), h1)))) rfl rfl rfl (fun R E => rfl)
-- ChipcardhouseModel$Issuer.dispute(I)I
set_option maxRecDepth 100000 in
theorem lf_178_0 (o : Option (Nat × Nat)) (p0 : Int32) (h : Hp) : Ru 178 0 [(0, aR o), (1, aI p0)] [] h =
    if p0 < 0 then
      (pf h o 14 10 (aI (1 : Int32))).bind (fun h1 =>
      (gfI h1 o 14 10).bind (fun x2 =>
      if x2 = 0 then
        (gfR h1 o 14 2).bind (fun x3 =>
        (gaR h1 x3 p0).bind (fun x4 =>
        if x4 = none then
          Ru 178 86 [(0, aR o), (2, aR x4)] [] h1
        else
          (gfI h1 x4 15 8).bind (fun x5 =>
          if x5 = 0 then
            Ru 178 86 [(0, aR o), (2, aR x4)] [] h1
          else
            (gfI h1 x4 15 11).bind (fun x6 =>
            if x6 = 0 then
              (gfR h1 o 14 0).bind (fun x7 =>
              cI (Ex 238 [aR x7, aI p0] h1) (fun x9 h8 =>
              if x9 = 0 then
                Ru 178 86 [(0, aR o), (2, aR x4)] [] h8
              else
                (gfI h8 o 14 11).bind (fun x10 =>
                (gfI h8 x4 15 15).bind (fun x11 =>
                if (1 : Int32) < (x10 - x11) then
                  Ru 178 86 [(0, aR o), (2, aR x4)] [] h8
                else
                  if (1 : Int32) = 0 then
                    (pf h8 o 14 10 (aI (2 : Int32))).bind (fun h12 =>
                    some (.inl (some (aI (0 : Int32))), h12))
                  else
                    (gfI h8 x4 15 16).bind (fun x13 =>
                    (pf h8 x4 15 11 (aI (1 : Int32))).bind (fun h14 =>
                    (pf h14 x4 15 16 (aI (0 : Int32))).bind (fun h15 =>
                    (gfR h15 o 14 1).bind (fun x16 =>
                    (gfR h15 o 14 0).bind (fun x17 =>
                    (gfR h15 x4 15 6).bind (fun x18 =>
                    (gaI h15 x18 1000 (0 : Int32)).bind (fun x19 =>
                    cI (Ex 233 [aR x17, aI x19] h15) (fun x21 h20 =>
                    (gfI h20 x4 15 14).bind (fun x22 =>
                    cV (Ex 150 [aR x16, aI x21, aI x22, aI x13] h20) (fun h23 =>
                    some (.inl (some (aI x13)), h23)) xT)) xT)))))))))) xT)
            else
              Ru 178 86 [(0, aR o), (2, aR x4)] [] h1))))
      else
        some (.inl (some (aI (0 : Int32))), h1)))
    else
      (gfR h o 14 0).bind (fun x24 =>
      (gfI h x24 19 8).bind (fun x25 =>
      if p0 < x25 then
        (pf h o 14 10 (aI (0 : Int32))).bind (fun h26 =>
        (gfI h26 o 14 10).bind (fun x27 =>
        if x27 = 0 then
          (gfR h26 o 14 2).bind (fun x28 =>
          (gaR h26 x28 p0).bind (fun x29 =>
          if x29 = none then
            Ru 178 86 [(0, aR o), (2, aR x29)] [] h26
          else
            (gfI h26 x29 15 8).bind (fun x30 =>
            if x30 = 0 then
              Ru 178 86 [(0, aR o), (2, aR x29)] [] h26
            else
              (gfI h26 x29 15 11).bind (fun x31 =>
              if x31 = 0 then
                (gfR h26 o 14 0).bind (fun x32 =>
                cI (Ex 238 [aR x32, aI p0] h26) (fun x34 h33 =>
                if x34 = 0 then
                  Ru 178 86 [(0, aR o), (2, aR x29)] [] h33
                else
                  (gfI h33 o 14 11).bind (fun x35 =>
                  (gfI h33 x29 15 15).bind (fun x36 =>
                  if (1 : Int32) < (x35 - x36) then
                    Ru 178 86 [(0, aR o), (2, aR x29)] [] h33
                  else
                    if (1 : Int32) = 0 then
                      (pf h33 o 14 10 (aI (2 : Int32))).bind (fun h37 =>
                      some (.inl (some (aI (0 : Int32))), h37))
                    else
                      (gfI h33 x29 15 16).bind (fun x38 =>
                      (pf h33 x29 15 11 (aI (1 : Int32))).bind (fun h39 =>
                      (pf h39 x29 15 16 (aI (0 : Int32))).bind (fun h40 =>
                      (gfR h40 o 14 1).bind (fun x41 =>
                      (gfR h40 o 14 0).bind (fun x42 =>
                      (gfR h40 x29 15 6).bind (fun x43 =>
                      (gaI h40 x43 1000 (0 : Int32)).bind (fun x44 =>
                      cI (Ex 233 [aR x42, aI x44] h40) (fun x46 h45 =>
                      (gfI h45 x29 15 14).bind (fun x47 =>
                      cV (Ex 150 [aR x41, aI x46, aI x47, aI x38] h45) (fun h48 =>
                      some (.inl (some (aI x38)), h48)) xT)) xT)))))))))) xT)
              else
                Ru 178 86 [(0, aR o), (2, aR x29)] [] h26))))
        else
          some (.inl (some (aI (0 : Int32))), h26)))
      else
        (pf h o 14 10 (aI (1 : Int32))).bind (fun h49 =>
        (gfI h49 o 14 10).bind (fun x50 =>
        if x50 = 0 then
          (gfR h49 o 14 2).bind (fun x51 =>
          (gaR h49 x51 p0).bind (fun x52 =>
          if x52 = none then
            Ru 178 86 [(0, aR o), (2, aR x52)] [] h49
          else
            (gfI h49 x52 15 8).bind (fun x53 =>
            if x53 = 0 then
              Ru 178 86 [(0, aR o), (2, aR x52)] [] h49
            else
              (gfI h49 x52 15 11).bind (fun x54 =>
              if x54 = 0 then
                (gfR h49 o 14 0).bind (fun x55 =>
                cI (Ex 238 [aR x55, aI p0] h49) (fun x57 h56 =>
                if x57 = 0 then
                  Ru 178 86 [(0, aR o), (2, aR x52)] [] h56
                else
                  (gfI h56 o 14 11).bind (fun x58 =>
                  (gfI h56 x52 15 15).bind (fun x59 =>
                  if (1 : Int32) < (x58 - x59) then
                    Ru 178 86 [(0, aR o), (2, aR x52)] [] h56
                  else
                    if (1 : Int32) = 0 then
                      (pf h56 o 14 10 (aI (2 : Int32))).bind (fun h60 =>
                      some (.inl (some (aI (0 : Int32))), h60))
                    else
                      (gfI h56 x52 15 16).bind (fun x61 =>
                      (pf h56 x52 15 11 (aI (1 : Int32))).bind (fun h62 =>
                      (pf h62 x52 15 16 (aI (0 : Int32))).bind (fun h63 =>
                      (gfR h63 o 14 1).bind (fun x64 =>
                      (gfR h63 o 14 0).bind (fun x65 =>
                      (gfR h63 x52 15 6).bind (fun x66 =>
                      (gaI h63 x66 1000 (0 : Int32)).bind (fun x67 =>
                      cI (Ex 233 [aR x65, aI x67] h63) (fun x69 h68 =>
                      (gfI h68 x52 15 14).bind (fun x70 =>
                      cV (Ex 150 [aR x64, aI x69, aI x70, aI x61] h68) (fun h71 =>
                      some (.inl (some (aI x61)), h71)) xT)) xT)))))))))) xT)
              else
                Ru 178 86 [(0, aR o), (2, aR x52)] [] h49))))
        else
          some (.inl (some (aI (0 : Int32))), h49))))) :=
  lift_of (k := 69) (rows := code_178) (cuts := cut_178) (hs := hdl_178) (r := fun R E =>
    if p0 < 0 then
      (pf h o 14 10 (aI (1 : Int32))).bind (fun h1 =>
      (gfI h1 o 14 10).bind (fun x2 =>
      if x2 = 0 then
        (gfR h1 o 14 2).bind (fun x3 =>
        (gaR h1 x3 p0).bind (fun x4 =>
        if x4 = none then
          R 86 [(0, aR o), (2, aR x4)] [] h1
        else
          (gfI h1 x4 15 8).bind (fun x5 =>
          if x5 = 0 then
            R 86 [(0, aR o), (2, aR x4)] [] h1
          else
            (gfI h1 x4 15 11).bind (fun x6 =>
            if x6 = 0 then
              (gfR h1 o 14 0).bind (fun x7 =>
              cI (E 238 [aR x7, aI p0] h1) (fun x9 h8 =>
              if x9 = 0 then
                R 86 [(0, aR o), (2, aR x4)] [] h8
              else
                (gfI h8 o 14 11).bind (fun x10 =>
                (gfI h8 x4 15 15).bind (fun x11 =>
                if (1 : Int32) < (x10 - x11) then
                  R 86 [(0, aR o), (2, aR x4)] [] h8
                else
                  if (1 : Int32) = 0 then
                    (pf h8 o 14 10 (aI (2 : Int32))).bind (fun h12 =>
                    some (.inl (some (aI (0 : Int32))), h12))
                  else
                    (gfI h8 x4 15 16).bind (fun x13 =>
                    (pf h8 x4 15 11 (aI (1 : Int32))).bind (fun h14 =>
                    (pf h14 x4 15 16 (aI (0 : Int32))).bind (fun h15 =>
                    (gfR h15 o 14 1).bind (fun x16 =>
                    (gfR h15 o 14 0).bind (fun x17 =>
                    (gfR h15 x4 15 6).bind (fun x18 =>
                    (gaI h15 x18 1000 (0 : Int32)).bind (fun x19 =>
                    cI (E 233 [aR x17, aI x19] h15) (fun x21 h20 =>
                    (gfI h20 x4 15 14).bind (fun x22 =>
                    cV (E 150 [aR x16, aI x21, aI x22, aI x13] h20) (fun h23 =>
                    some (.inl (some (aI x13)), h23)) xT)) xT)))))))))) xT)
            else
              R 86 [(0, aR o), (2, aR x4)] [] h1))))
      else
        some (.inl (some (aI (0 : Int32))), h1)))
    else
      (gfR h o 14 0).bind (fun x24 =>
      (gfI h x24 19 8).bind (fun x25 =>
      if p0 < x25 then
        (pf h o 14 10 (aI (0 : Int32))).bind (fun h26 =>
        (gfI h26 o 14 10).bind (fun x27 =>
        if x27 = 0 then
          (gfR h26 o 14 2).bind (fun x28 =>
          (gaR h26 x28 p0).bind (fun x29 =>
          if x29 = none then
            R 86 [(0, aR o), (2, aR x29)] [] h26
          else
            (gfI h26 x29 15 8).bind (fun x30 =>
            if x30 = 0 then
              R 86 [(0, aR o), (2, aR x29)] [] h26
            else
              (gfI h26 x29 15 11).bind (fun x31 =>
              if x31 = 0 then
                (gfR h26 o 14 0).bind (fun x32 =>
                cI (E 238 [aR x32, aI p0] h26) (fun x34 h33 =>
                if x34 = 0 then
                  R 86 [(0, aR o), (2, aR x29)] [] h33
                else
                  (gfI h33 o 14 11).bind (fun x35 =>
                  (gfI h33 x29 15 15).bind (fun x36 =>
                  if (1 : Int32) < (x35 - x36) then
                    R 86 [(0, aR o), (2, aR x29)] [] h33
                  else
                    if (1 : Int32) = 0 then
                      (pf h33 o 14 10 (aI (2 : Int32))).bind (fun h37 =>
                      some (.inl (some (aI (0 : Int32))), h37))
                    else
                      (gfI h33 x29 15 16).bind (fun x38 =>
                      (pf h33 x29 15 11 (aI (1 : Int32))).bind (fun h39 =>
                      (pf h39 x29 15 16 (aI (0 : Int32))).bind (fun h40 =>
                      (gfR h40 o 14 1).bind (fun x41 =>
                      (gfR h40 o 14 0).bind (fun x42 =>
                      (gfR h40 x29 15 6).bind (fun x43 =>
                      (gaI h40 x43 1000 (0 : Int32)).bind (fun x44 =>
                      cI (E 233 [aR x42, aI x44] h40) (fun x46 h45 =>
                      (gfI h45 x29 15 14).bind (fun x47 =>
                      cV (E 150 [aR x41, aI x46, aI x47, aI x38] h45) (fun h48 =>
                      some (.inl (some (aI x38)), h48)) xT)) xT)))))))))) xT)
              else
                R 86 [(0, aR o), (2, aR x29)] [] h26))))
        else
          some (.inl (some (aI (0 : Int32))), h26)))
      else
        (pf h o 14 10 (aI (1 : Int32))).bind (fun h49 =>
        (gfI h49 o 14 10).bind (fun x50 =>
        if x50 = 0 then
          (gfR h49 o 14 2).bind (fun x51 =>
          (gaR h49 x51 p0).bind (fun x52 =>
          if x52 = none then
            R 86 [(0, aR o), (2, aR x52)] [] h49
          else
            (gfI h49 x52 15 8).bind (fun x53 =>
            if x53 = 0 then
              R 86 [(0, aR o), (2, aR x52)] [] h49
            else
              (gfI h49 x52 15 11).bind (fun x54 =>
              if x54 = 0 then
                (gfR h49 o 14 0).bind (fun x55 =>
                cI (E 238 [aR x55, aI p0] h49) (fun x57 h56 =>
                if x57 = 0 then
                  R 86 [(0, aR o), (2, aR x52)] [] h56
                else
                  (gfI h56 o 14 11).bind (fun x58 =>
                  (gfI h56 x52 15 15).bind (fun x59 =>
                  if (1 : Int32) < (x58 - x59) then
                    R 86 [(0, aR o), (2, aR x52)] [] h56
                  else
                    if (1 : Int32) = 0 then
                      (pf h56 o 14 10 (aI (2 : Int32))).bind (fun h60 =>
                      some (.inl (some (aI (0 : Int32))), h60))
                    else
                      (gfI h56 x52 15 16).bind (fun x61 =>
                      (pf h56 x52 15 11 (aI (1 : Int32))).bind (fun h62 =>
                      (pf h62 x52 15 16 (aI (0 : Int32))).bind (fun h63 =>
                      (gfR h63 o 14 1).bind (fun x64 =>
                      (gfR h63 o 14 0).bind (fun x65 =>
                      (gfR h63 x52 15 6).bind (fun x66 =>
                      (gaI h63 x66 1000 (0 : Int32)).bind (fun x67 =>
                      cI (E 233 [aR x65, aI x67] h63) (fun x69 h68 =>
                      (gfI h68 x52 15 14).bind (fun x70 =>
                      cV (E 150 [aR x64, aI x69, aI x70, aI x61] h68) (fun h71 =>
                      some (.inl (some (aI x61)), h71)) xT)) xT)))))))))) xT)
              else
                R 86 [(0, aR o), (2, aR x52)] [] h49))))
        else
          some (.inl (some (aI (0 : Int32))), h49)))))) rfl rfl rfl (fun R E => rfl)
set_option maxRecDepth 100000 in
theorem lf_178_86 (o : Option (Nat × Nat)) (v2 : Option (Nat × Nat)) (h : Hp) : Ru 178 86 [(0, aR o), (2, aR v2)] [] h =
    if (0 : Int32) = 0 then
      (pf h o 14 10 (aI (2 : Int32))).bind (fun h1 =>
      some (.inl (some (aI (0 : Int32))), h1))
    else
      (gfI h v2 15 16).bind (fun x2 =>
      (pf h v2 15 11 (aI (1 : Int32))).bind (fun h3 =>
      (pf h3 v2 15 16 (aI (0 : Int32))).bind (fun h4 =>
      (gfR h4 o 14 1).bind (fun x5 =>
      (gfR h4 o 14 0).bind (fun x6 =>
      (gfR h4 v2 15 6).bind (fun x7 =>
      (gaI h4 x7 1000 (0 : Int32)).bind (fun x8 =>
      cI (Ex 233 [aR x6, aI x8] h4) (fun x10 h9 =>
      (gfI h9 v2 15 14).bind (fun x11 =>
      cV (Ex 150 [aR x5, aI x10, aI x11, aI x2] h9) (fun h12 =>
      some (.inl (some (aI x2)), h12)) xT)) xT))))))) :=
  lift_of (k := 29) (rows := code_178) (cuts := cut_178) (hs := hdl_178) (r := fun R E =>
    if (0 : Int32) = 0 then
      (pf h o 14 10 (aI (2 : Int32))).bind (fun h1 =>
      some (.inl (some (aI (0 : Int32))), h1))
    else
      (gfI h v2 15 16).bind (fun x2 =>
      (pf h v2 15 11 (aI (1 : Int32))).bind (fun h3 =>
      (pf h3 v2 15 16 (aI (0 : Int32))).bind (fun h4 =>
      (gfR h4 o 14 1).bind (fun x5 =>
      (gfR h4 o 14 0).bind (fun x6 =>
      (gfR h4 v2 15 6).bind (fun x7 =>
      (gaI h4 x7 1000 (0 : Int32)).bind (fun x8 =>
      cI (E 233 [aR x6, aI x8] h4) (fun x10 h9 =>
      (gfI h9 v2 15 14).bind (fun x11 =>
      cV (E 150 [aR x5, aI x10, aI x11, aI x2] h9) (fun h12 =>
      some (.inl (some (aI x2)), h12)) xT)) xT)))))))) rfl rfl rfl (fun R E => rfl)
-- ChipcardhouseModel$Issuer.isPosted(I)Z
set_option maxRecDepth 100000 in
theorem lf_179_0 (o : Option (Nat × Nat)) (p0 : Int32) (h : Hp) : Ru 179 0 [(0, aR o), (1, aI p0)] [] h =
    (gfR h o 14 2).bind (fun x1 =>
    (gaR h x1 p0).bind (fun x2 =>
    if x2 = none then
      some (.inl (some (aI (0 : Int32))), h)
    else
      (gfR h o 14 2).bind (fun x3 =>
      (gaR h x3 p0).bind (fun x4 =>
      (gfI h x4 15 8).bind (fun x5 =>
      if x5 = 0 then
        some (.inl (some (aI (0 : Int32))), h)
      else
        some (.inl (some (aI (1 : Int32))), h)))))) :=
  lift_of (k := 15) (rows := code_179) (cuts := cut_179) (hs := hdl_179) (r := fun R E =>
    (gfR h o 14 2).bind (fun x1 =>
    (gaR h x1 p0).bind (fun x2 =>
    if x2 = none then
      some (.inl (some (aI (0 : Int32))), h)
    else
      (gfR h o 14 2).bind (fun x3 =>
      (gaR h x3 p0).bind (fun x4 =>
      (gfI h x4 15 8).bind (fun x5 =>
      if x5 = 0 then
        some (.inl (some (aI (0 : Int32))), h)
      else
        some (.inl (some (aI (1 : Int32))), h))))))) rfl rfl rfl (fun R E => rfl)
-- ChipcardhouseModel$Issuer.isStamped()Z
set_option maxRecDepth 100000 in
theorem lf_180_0 (o : Option (Nat × Nat)) (h : Hp) : Ru 180 0 [(0, aR o)] [] h =
    Ru 180 2 [(0, aR o), (1, aI (0 : Int32))] [] h :=
  lift_of (k := 3) (rows := code_180) (cuts := cut_180) (hs := hdl_180) (r := fun R E =>
    R 2 [(0, aR o), (1, aI (0 : Int32))] [] h) rfl rfl rfl (fun R E => rfl)
set_option maxRecDepth 100000 in
theorem lf_180_2 (o : Option (Nat × Nat)) (v1 : Int32) (h : Hp) : Ru 180 2 [(0, aR o), (1, aI v1)] [] h =
    if (1000 : Int32) ≤ v1 then
      some (.inl (some (aI (1 : Int32))), h)
    else
      (gfR h o 14 2).bind (fun x1 =>
      (gaR h x1 v1).bind (fun x2 =>
      if x2 = none then
        Ru 180 2 [(0, aR o), (1, aI (v1 + (1 : Int32)))] [] h
      else
        (gfI h x2 15 8).bind (fun x3 =>
        if x3 = 0 then
          Ru 180 2 [(0, aR o), (1, aI (v1 + (1 : Int32)))] [] h
        else
          cI (Ex 181 [aR o, aR x2] h) (fun x5 h4 =>
          if x5 = 0 then
            some (.inl (some (aI (0 : Int32))), h4)
          else
            Ru 180 2 [(0, aR o), (1, aI (v1 + (1 : Int32)))] [] h4) xT))) :=
  lift_of (k := 20) (rows := code_180) (cuts := cut_180) (hs := hdl_180) (r := fun R E =>
    if (1000 : Int32) ≤ v1 then
      some (.inl (some (aI (1 : Int32))), h)
    else
      (gfR h o 14 2).bind (fun x1 =>
      (gaR h x1 v1).bind (fun x2 =>
      if x2 = none then
        R 2 [(0, aR o), (1, aI (v1 + (1 : Int32)))] [] h
      else
        (gfI h x2 15 8).bind (fun x3 =>
        if x3 = 0 then
          R 2 [(0, aR o), (1, aI (v1 + (1 : Int32)))] [] h
        else
          cI (E 181 [aR o, aR x2] h) (fun x5 h4 =>
          if x5 = 0 then
            some (.inl (some (aI (0 : Int32))), h4)
          else
            R 2 [(0, aR o), (1, aI (v1 + (1 : Int32)))] [] h4) xT)))) rfl rfl rfl (fun R E => rfl)
-- ChipcardhouseModel$Issuer.isMade(LChipcardhouseModel$Known;)Z
set_option maxRecDepth 100000 in
theorem lf_181_0 (o : Option (Nat × Nat)) (p0 : Option (Nat × Nat)) (h : Hp) : Ru 181 0 [(0, aR o), (1, aR p0)] [] h =
    Ru 181 2 [(0, aR o), (1, aR p0), (2, aI (0 : Int32))] [] h :=
  lift_of (k := 3) (rows := code_181) (cuts := cut_181) (hs := hdl_181) (r := fun R E =>
    R 2 [(0, aR o), (1, aR p0), (2, aI (0 : Int32))] [] h) rfl rfl rfl (fun R E => rfl)
set_option maxRecDepth 100000 in
theorem lf_181_2 (o : Option (Nat × Nat)) (v1 : Option (Nat × Nat)) (v2 : Int32) (h : Hp) : Ru 181 2 [(0, aR o), (1, aR v1), (2, aI v2)] [] h =
    (gfR h o 14 0).bind (fun x1 =>
    (gfI h x1 19 8).bind (fun x2 =>
    if x2 ≤ v2 then
      some (.inl (some (aI (0 : Int32))), h)
    else
      (gfR h o 14 0).bind (fun x3 =>
      cI (Ex 247 [aR x3, aI v2, aI (1 : Int32)] h) (fun x5 h4 =>
      (gfR h4 v1 15 6).bind (fun x6 =>
      (gaI h4 x6 1000 (0 : Int32)).bind (fun x7 =>
      if x5 = x7 then
        (gfR h4 o 14 0).bind (fun x8 =>
        cI (Ex 247 [aR x8, aI v2, aI (4 : Int32)] h4) (fun x10 h9 =>
        (gfR h9 v1 15 6).bind (fun x11 =>
        (gaI h9 x11 1000 (1 : Int32)).bind (fun x12 =>
        if x10 = x12 then
          (gfR h9 o 14 0).bind (fun x13 =>
          cI (Ex 247 [aR x13, aI v2, aI (3 : Int32)] h9) (fun x15 h14 =>
          (gfR h14 v1 15 6).bind (fun x16 =>
          (gaI h14 x16 1000 (2 : Int32)).bind (fun x17 =>
          if x15 = x17 then
            (gfR h14 o 14 0).bind (fun x18 =>
            cI (Ex 247 [aR x18, aI v2, aI (2 : Int32)] h14) (fun x20 h19 =>
            (gfI h19 v1 15 14).bind (fun x21 =>
            if x20 = x21 then
              some (.inl (some (aI (1 : Int32))), h19)
            else
              Ru 181 2 [(0, aR o), (1, aR v1), (2, aI (v2 + (1 : Int32)))] [] h19)) xT)
          else
            Ru 181 2 [(0, aR o), (1, aR v1), (2, aI (v2 + (1 : Int32)))] [] h14))) xT)
        else
          Ru 181 2 [(0, aR o), (1, aR v1), (2, aI (v2 + (1 : Int32)))] [] h9))) xT)
      else
        Ru 181 2 [(0, aR o), (1, aR v1), (2, aI (v2 + (1 : Int32)))] [] h4))) xT))) :=
  lift_of (k := 46) (rows := code_181) (cuts := cut_181) (hs := hdl_181) (r := fun R E =>
    (gfR h o 14 0).bind (fun x1 =>
    (gfI h x1 19 8).bind (fun x2 =>
    if x2 ≤ v2 then
      some (.inl (some (aI (0 : Int32))), h)
    else
      (gfR h o 14 0).bind (fun x3 =>
      cI (E 247 [aR x3, aI v2, aI (1 : Int32)] h) (fun x5 h4 =>
      (gfR h4 v1 15 6).bind (fun x6 =>
      (gaI h4 x6 1000 (0 : Int32)).bind (fun x7 =>
      if x5 = x7 then
        (gfR h4 o 14 0).bind (fun x8 =>
        cI (E 247 [aR x8, aI v2, aI (4 : Int32)] h4) (fun x10 h9 =>
        (gfR h9 v1 15 6).bind (fun x11 =>
        (gaI h9 x11 1000 (1 : Int32)).bind (fun x12 =>
        if x10 = x12 then
          (gfR h9 o 14 0).bind (fun x13 =>
          cI (E 247 [aR x13, aI v2, aI (3 : Int32)] h9) (fun x15 h14 =>
          (gfR h14 v1 15 6).bind (fun x16 =>
          (gaI h14 x16 1000 (2 : Int32)).bind (fun x17 =>
          if x15 = x17 then
            (gfR h14 o 14 0).bind (fun x18 =>
            cI (E 247 [aR x18, aI v2, aI (2 : Int32)] h14) (fun x20 h19 =>
            (gfI h19 v1 15 14).bind (fun x21 =>
            if x20 = x21 then
              some (.inl (some (aI (1 : Int32))), h19)
            else
              R 2 [(0, aR o), (1, aR v1), (2, aI (v2 + (1 : Int32)))] [] h19)) xT)
          else
            R 2 [(0, aR o), (1, aR v1), (2, aI (v2 + (1 : Int32)))] [] h14))) xT)
        else
          R 2 [(0, aR o), (1, aR v1), (2, aI (v2 + (1 : Int32)))] [] h9))) xT)
      else
        R 2 [(0, aR o), (1, aR v1), (2, aI (v2 + (1 : Int32)))] [] h4))) xT)))) rfl rfl rfl (fun R E => rfl)
-- ChipcardhouseModel$Issuer.isOnce()Z
set_option maxRecDepth 100000 in
theorem lf_182_0 (o : Option (Nat × Nat)) (h : Hp) : Ru 182 0 [(0, aR o)] [] h =
    Ru 182 2 [(0, aR o), (1, aI (0 : Int32))] [] h :=
  lift_of (k := 3) (rows := code_182) (cuts := cut_182) (hs := hdl_182) (r := fun R E =>
    R 2 [(0, aR o), (1, aI (0 : Int32))] [] h) rfl rfl rfl (fun R E => rfl)
set_option maxRecDepth 100000 in
theorem lf_182_2 (o : Option (Nat × Nat)) (v1 : Int32) (h : Hp) : Ru 182 2 [(0, aR o), (1, aI v1)] [] h =
    if (1000 : Int32) ≤ v1 then
      some (.inl (some (aI (1 : Int32))), h)
    else
      Ru 182 13 [(0, aR o), (1, aI v1), (2, aI (v1 + (1 : Int32)))] [] h :=
  lift_of (k := 8) (rows := code_182) (cuts := cut_182) (hs := hdl_182) (r := fun R E =>
    if (1000 : Int32) ≤ v1 then
      some (.inl (some (aI (1 : Int32))), h)
    else
      R 13 [(0, aR o), (1, aI v1), (2, aI (v1 + (1 : Int32)))] [] h) rfl rfl rfl (fun R E => rfl)
set_option maxRecDepth 100000 in
theorem lf_182_13 (o : Option (Nat × Nat)) (v1 : Int32) (v2 : Int32) (h : Hp) : Ru 182 13 [(0, aR o), (1, aI v1), (2, aI v2)] [] h =
    if (1000 : Int32) ≤ v2 then
      Ru 182 2 [(0, aR o), (1, aI (v1 + (1 : Int32)))] [] h
    else
      cI (Ex 179 [aR o, aI v1] h) (fun x2 h1 =>
      if x2 = 0 then
        Ru 182 2 [(0, aR o), (1, aI (v1 + (1 : Int32)))] [] h1
      else
        cI (Ex 179 [aR o, aI v2] h1) (fun x4 h3 =>
        if x4 = 0 then
          Ru 182 13 [(0, aR o), (1, aI v1), (2, aI (v2 + (1 : Int32)))] [] h3
        else
          (gfR h3 o 14 2).bind (fun x5 =>
          (gaR h3 x5 v1).bind (fun x6 =>
          (gfR h3 x6 15 6).bind (fun x7 =>
          (gaI h3 x7 1000 (0 : Int32)).bind (fun x8 =>
          (gfR h3 o 14 2).bind (fun x9 =>
          (gaR h3 x9 v2).bind (fun x10 =>
          (gfR h3 x10 15 6).bind (fun x11 =>
          (gaI h3 x11 1000 (0 : Int32)).bind (fun x12 =>
          if x8 = x12 then
            (gfR h3 o 14 2).bind (fun x13 =>
            (gaR h3 x13 v1).bind (fun x14 =>
            (gfR h3 x14 15 6).bind (fun x15 =>
            (gaI h3 x15 1000 (1 : Int32)).bind (fun x16 =>
            (gfR h3 o 14 2).bind (fun x17 =>
            (gaR h3 x17 v2).bind (fun x18 =>
            (gfR h3 x18 15 6).bind (fun x19 =>
            (gaI h3 x19 1000 (1 : Int32)).bind (fun x20 =>
            if x16 = x20 then
              some (.inl (some (aI (0 : Int32))), h3)
            else
              Ru 182 13 [(0, aR o), (1, aI v1), (2, aI (v2 + (1 : Int32)))] [] h3))))))))
          else
            Ru 182 13 [(0, aR o), (1, aI v1), (2, aI (v2 + (1 : Int32)))] [] h3))))))))) xT) xT :=
  lift_of (k := 44) (rows := code_182) (cuts := cut_182) (hs := hdl_182) (r := fun R E =>
    if (1000 : Int32) ≤ v2 then
      R 2 [(0, aR o), (1, aI (v1 + (1 : Int32)))] [] h
    else
      cI (E 179 [aR o, aI v1] h) (fun x2 h1 =>
      if x2 = 0 then
        R 2 [(0, aR o), (1, aI (v1 + (1 : Int32)))] [] h1
      else
        cI (E 179 [aR o, aI v2] h1) (fun x4 h3 =>
        if x4 = 0 then
          R 13 [(0, aR o), (1, aI v1), (2, aI (v2 + (1 : Int32)))] [] h3
        else
          (gfR h3 o 14 2).bind (fun x5 =>
          (gaR h3 x5 v1).bind (fun x6 =>
          (gfR h3 x6 15 6).bind (fun x7 =>
          (gaI h3 x7 1000 (0 : Int32)).bind (fun x8 =>
          (gfR h3 o 14 2).bind (fun x9 =>
          (gaR h3 x9 v2).bind (fun x10 =>
          (gfR h3 x10 15 6).bind (fun x11 =>
          (gaI h3 x11 1000 (0 : Int32)).bind (fun x12 =>
          if x8 = x12 then
            (gfR h3 o 14 2).bind (fun x13 =>
            (gaR h3 x13 v1).bind (fun x14 =>
            (gfR h3 x14 15 6).bind (fun x15 =>
            (gaI h3 x15 1000 (1 : Int32)).bind (fun x16 =>
            (gfR h3 o 14 2).bind (fun x17 =>
            (gaR h3 x17 v2).bind (fun x18 =>
            (gfR h3 x18 15 6).bind (fun x19 =>
            (gaI h3 x19 1000 (1 : Int32)).bind (fun x20 =>
            if x16 = x20 then
              some (.inl (some (aI (0 : Int32))), h3)
            else
              R 13 [(0, aR o), (1, aI v1), (2, aI (v2 + (1 : Int32)))] [] h3))))))))
          else
            R 13 [(0, aR o), (1, aI v1), (2, aI (v2 + (1 : Int32)))] [] h3))))))))) xT) xT) rfl rfl rfl (fun R E => rfl)
-- ChipcardhouseModel$Issuer.isHeldRight()Z
set_option maxRecDepth 100000 in
theorem lf_183_0 (o : Option (Nat × Nat)) (h : Hp) : Ru 183 0 [(0, aR o)] [] h =
    Ru 183 2 [(0, aR o), (1, aI (0 : Int32))] [] h :=
  lift_of (k := 3) (rows := code_183) (cuts := cut_183) (hs := hdl_183) (r := fun R E =>
    R 2 [(0, aR o), (1, aI (0 : Int32))] [] h) rfl rfl rfl (fun R E => rfl)
set_option maxRecDepth 100000 in
theorem lf_183_2 (o : Option (Nat × Nat)) (v1 : Int32) (h : Hp) : Ru 183 2 [(0, aR o), (1, aI v1)] [] h =
    (gfR h o 14 1).bind (fun x1 =>
    (gfI h x1 12 5).bind (fun x2 =>
    if x2 ≤ v1 then
      some (.inl (some (aI (1 : Int32))), h)
    else
      Ru 183 18 [(0, aR o), (1, aI v1), (2, aL (0 : Int64)), (4, aI (0 : Int32))] [] h)) :=
  lift_of (k := 10) (rows := code_183) (cuts := cut_183) (hs := hdl_183) (r := fun R E =>
    (gfR h o 14 1).bind (fun x1 =>
    (gfI h x1 12 5).bind (fun x2 =>
    if x2 ≤ v1 then
      some (.inl (some (aI (1 : Int32))), h)
    else
      R 18 [(0, aR o), (1, aI v1), (2, aL (0 : Int64)), (4, aI (0 : Int32))] [] h))) rfl rfl rfl (fun R E => rfl)
set_option maxRecDepth 100000 in
theorem lf_183_18 (o : Option (Nat × Nat)) (v1 : Int32) (v2 : Int64) (v4 : Int32) (h : Hp) : Ru 183 18 [(0, aR o), (1, aI v1), (2, aL v2), (4, aI v4)] [] h =
    if (1000 : Int32) ≤ v4 then
      (gfR h o 14 1).bind (fun x1 =>
      cL (Ex 145 [aR x1, aI v1] h) (fun x3 h2 =>
      if (lg_cmp v2 x3) = 0 then
        Ru 183 2 [(0, aR o), (1, aI (v1 + (1 : Int32)))] [] h2
      else
        some (.inl (some (aI (0 : Int32))), h2)) xT)
    else
      (gfR h o 14 2).bind (fun x4 =>
      (gaR h x4 v4).bind (fun x5 =>
      if x5 = none then
        Ru 183 18 [(0, aR o), (1, aI v1), (2, aL v2), (4, aI (v4 + (1 : Int32)))] [] h
      else
        (gfR h o 14 2).bind (fun x6 =>
        (gaR h x6 v4).bind (fun x7 =>
        (gfI h x7 15 12).bind (fun x8 =>
        if x8 ≤ 0 then
          Ru 183 18 [(0, aR o), (1, aI v1), (2, aL v2), (4, aI (v4 + (1 : Int32)))] [] h
        else
          (gfR h o 14 2).bind (fun x9 =>
          (gaR h x9 v4).bind (fun x10 =>
          (gfI h x10 15 13).bind (fun x11 =>
          if x11 = v1 then
            (gfR h o 14 2).bind (fun x12 =>
            (gaR h x12 v4).bind (fun x13 =>
            (gfI h x13 15 12).bind (fun x14 =>
            Ru 183 18 [(0, aR o), (1, aI v1), (2, aL (v2 + x14.toInt64)), (4, aI (v4 + (1 : Int32)))] [] h)))
          else
            Ru 183 18 [(0, aR o), (1, aI v1), (2, aL v2), (4, aI (v4 + (1 : Int32)))] [] h)))))))) :=
  lift_of (k := 33) (rows := code_183) (cuts := cut_183) (hs := hdl_183) (r := fun R E =>
    if (1000 : Int32) ≤ v4 then
      (gfR h o 14 1).bind (fun x1 =>
      cL (E 145 [aR x1, aI v1] h) (fun x3 h2 =>
      if (lg_cmp v2 x3) = 0 then
        R 2 [(0, aR o), (1, aI (v1 + (1 : Int32)))] [] h2
      else
        some (.inl (some (aI (0 : Int32))), h2)) xT)
    else
      (gfR h o 14 2).bind (fun x4 =>
      (gaR h x4 v4).bind (fun x5 =>
      if x5 = none then
        R 18 [(0, aR o), (1, aI v1), (2, aL v2), (4, aI (v4 + (1 : Int32)))] [] h
      else
        (gfR h o 14 2).bind (fun x6 =>
        (gaR h x6 v4).bind (fun x7 =>
        (gfI h x7 15 12).bind (fun x8 =>
        if x8 ≤ 0 then
          R 18 [(0, aR o), (1, aI v1), (2, aL v2), (4, aI (v4 + (1 : Int32)))] [] h
        else
          (gfR h o 14 2).bind (fun x9 =>
          (gaR h x9 v4).bind (fun x10 =>
          (gfI h x10 15 13).bind (fun x11 =>
          if x11 = v1 then
            (gfR h o 14 2).bind (fun x12 =>
            (gaR h x12 v4).bind (fun x13 =>
            (gfI h x13 15 12).bind (fun x14 =>
            R 18 [(0, aR o), (1, aI v1), (2, aL (v2 + x14.toInt64)), (4, aI (v4 + (1 : Int32)))] [] h)))
          else
            R 18 [(0, aR o), (1, aI v1), (2, aL v2), (4, aI (v4 + (1 : Int32)))] [] h))))))))) rfl rfl rfl (fun R E => rfl)
-- ChipcardhouseModel$Issuer.isFreeOfHolds()Z
set_option maxRecDepth 100000 in
theorem lf_184_0 (o : Option (Nat × Nat)) (h : Hp) : Ru 184 0 [(0, aR o)] [] h =
    Ru 184 2 [(0, aR o), (1, aI (0 : Int32))] [] h :=
  lift_of (k := 3) (rows := code_184) (cuts := cut_184) (hs := hdl_184) (r := fun R E =>
    R 2 [(0, aR o), (1, aI (0 : Int32))] [] h) rfl rfl rfl (fun R E => rfl)
set_option maxRecDepth 100000 in
theorem lf_184_2 (o : Option (Nat × Nat)) (v1 : Int32) (h : Hp) : Ru 184 2 [(0, aR o), (1, aI v1)] [] h =
    if (1000 : Int32) ≤ v1 then
      some (.inl (some (aI (1 : Int32))), h)
    else
      (gfR h o 14 2).bind (fun x1 =>
      (gaR h x1 v1).bind (fun x2 =>
      if x2 = none then
        Ru 184 2 [(0, aR o), (1, aI (v1 + (1 : Int32)))] [] h
      else
        (gfI h x2 15 12).bind (fun x3 =>
        if x3 ≤ 0 then
          Ru 184 2 [(0, aR o), (1, aI (v1 + (1 : Int32)))] [] h
        else
          (gfI h x2 15 8).bind (fun x4 =>
          if x4 = 0 then
            (gfI h x2 15 9).bind (fun x5 =>
            if x5 = 0 then
              Ru 184 2 [(0, aR o), (1, aI (v1 + (1 : Int32)))] [] h
            else
              some (.inl (some (aI (0 : Int32))), h))
          else
            some (.inl (some (aI (0 : Int32))), h))))) :=
  lift_of (k := 22) (rows := code_184) (cuts := cut_184) (hs := hdl_184) (r := fun R E =>
    if (1000 : Int32) ≤ v1 then
      some (.inl (some (aI (1 : Int32))), h)
    else
      (gfR h o 14 2).bind (fun x1 =>
      (gaR h x1 v1).bind (fun x2 =>
      if x2 = none then
        R 2 [(0, aR o), (1, aI (v1 + (1 : Int32)))] [] h
      else
        (gfI h x2 15 12).bind (fun x3 =>
        if x3 ≤ 0 then
          R 2 [(0, aR o), (1, aI (v1 + (1 : Int32)))] [] h
        else
          (gfI h x2 15 8).bind (fun x4 =>
          if x4 = 0 then
            (gfI h x2 15 9).bind (fun x5 =>
            if x5 = 0 then
              R 2 [(0, aR o), (1, aI (v1 + (1 : Int32)))] [] h
            else
              some (.inl (some (aI (0 : Int32))), h))
          else
            some (.inl (some (aI (0 : Int32))), h)))))) rfl rfl rfl (fun R E => rfl)
-- ChipcardhouseModel$Known.<init>()V
set_option maxRecDepth 100000 in
theorem lf_185_0 (o : Option (Nat × Nat)) (h : Hp) : Ru 185 0 [(0, aR o)] [] h =
    cV (Ex 420 [aR o] h) (fun h1 =>
    (nwa h1 62 1000 (3 : Int32)).bind (fun q2 =>
    (pa q2.2 q2.1 1000 (0 : Int32) (aI (-1 : Int32))).bind (fun h3 =>
    (pa h3 q2.1 1000 (1 : Int32) (aI (0 : Int32))).bind (fun h4 =>
    (pa h4 q2.1 1000 (2 : Int32) (aI (0 : Int32))).bind (fun h5 =>
    (pf h5 o 15 4 (aR q2.1)).bind (fun h6 =>
    (nwa h6 63 1000 (3 : Int32)).bind (fun q7 =>
    (pa q7.2 q7.1 1000 (0 : Int32) (aI (-1 : Int32))).bind (fun h8 =>
    (pa h8 q7.1 1000 (1 : Int32) (aI (0 : Int32))).bind (fun h9 =>
    (pa h9 q7.1 1000 (2 : Int32) (aI (0 : Int32))).bind (fun h10 =>
    (pf h10 o 15 5 (aR q7.1)).bind (fun h11 =>
    (nwa h11 64 1000 (3 : Int32)).bind (fun q12 =>
    (pa q12.2 q12.1 1000 (0 : Int32) (aI (-1 : Int32))).bind (fun h13 =>
    (pa h13 q12.1 1000 (1 : Int32) (aI (0 : Int32))).bind (fun h14 =>
    (pa h14 q12.1 1000 (2 : Int32) (aI (0 : Int32))).bind (fun h15 =>
    (pf h15 o 15 6 (aR q12.1)).bind (fun h16 =>
    (pf h16 o 15 15 (aI (-1 : Int32))).bind (fun h17 =>
    some (.inl none, h17)))))))))))))))))) xT :=
  lift_of (k := 55) (rows := code_185) (cuts := cut_185) (hs := hdl_185) (r := fun R E =>
    cV (E 420 [aR o] h) (fun h1 =>
    (nwa h1 62 1000 (3 : Int32)).bind (fun q2 =>
    (pa q2.2 q2.1 1000 (0 : Int32) (aI (-1 : Int32))).bind (fun h3 =>
    (pa h3 q2.1 1000 (1 : Int32) (aI (0 : Int32))).bind (fun h4 =>
    (pa h4 q2.1 1000 (2 : Int32) (aI (0 : Int32))).bind (fun h5 =>
    (pf h5 o 15 4 (aR q2.1)).bind (fun h6 =>
    (nwa h6 63 1000 (3 : Int32)).bind (fun q7 =>
    (pa q7.2 q7.1 1000 (0 : Int32) (aI (-1 : Int32))).bind (fun h8 =>
    (pa h8 q7.1 1000 (1 : Int32) (aI (0 : Int32))).bind (fun h9 =>
    (pa h9 q7.1 1000 (2 : Int32) (aI (0 : Int32))).bind (fun h10 =>
    (pf h10 o 15 5 (aR q7.1)).bind (fun h11 =>
    (nwa h11 64 1000 (3 : Int32)).bind (fun q12 =>
    (pa q12.2 q12.1 1000 (0 : Int32) (aI (-1 : Int32))).bind (fun h13 =>
    (pa h13 q12.1 1000 (1 : Int32) (aI (0 : Int32))).bind (fun h14 =>
    (pa h14 q12.1 1000 (2 : Int32) (aI (0 : Int32))).bind (fun h15 =>
    (pf h15 o 15 6 (aR q12.1)).bind (fun h16 =>
    (pf h16 o 15 15 (aI (-1 : Int32))).bind (fun h17 =>
    some (.inl none, h17)))))))))))))))))) xT) rfl rfl rfl (fun R E => rfl)
-- ChipcardhouseModel$Known.lay([IIII)V
set_option maxRecDepth 100000 in
theorem lf_186_0 (p0 : Option (Nat × Nat)) (p1 : Int32) (p2 : Int32) (p3 : Int32) (h : Hp) : Ru 186 0 [(0, aR p0), (1, aI p1), (2, aI p2), (3, aI p3)] [] h =
    (pa h p0 1000 (0 : Int32) (aI p1)).bind (fun h1 =>
    (pa h1 p0 1000 (1 : Int32) (aI p2)).bind (fun h2 =>
    (pa h2 p0 1000 (2 : Int32) (aI p3)).bind (fun h3 =>
    some (.inl none, h3)))) :=
  lift_of (k := 14) (rows := code_186) (cuts := cut_186) (hs := hdl_186) (r := fun R E =>
    (pa h p0 1000 (0 : Int32) (aI p1)).bind (fun h1 =>
    (pa h1 p0 1000 (1 : Int32) (aI p2)).bind (fun h2 =>
    (pa h2 p0 1000 (2 : Int32) (aI p3)).bind (fun h3 =>
    some (.inl none, h3))))) rfl rfl rfl (fun R E => rfl)
-- ChipcardhouseModel$Known.isLike([IIII)Z
set_option maxRecDepth 100000 in
theorem lf_187_0 (p0 : Option (Nat × Nat)) (p1 : Int32) (p2 : Int32) (p3 : Int32) (h : Hp) : Ru 187 0 [(0, aR p0), (1, aI p1), (2, aI p2), (3, aI p3)] [] h =
    (gaI h p0 1000 (0 : Int32)).bind (fun x1 =>
    if x1 = p1 then
      (gaI h p0 1000 (1 : Int32)).bind (fun x2 =>
      if x2 = p2 then
        (gaI h p0 1000 (2 : Int32)).bind (fun x3 =>
        if x3 = p3 then
          some (.inl (some (aI (1 : Int32))), h)
        else
          some (.inl (some (aI (0 : Int32))), h))
      else
        some (.inl (some (aI (0 : Int32))), h))
    else
      some (.inl (some (aI (0 : Int32))), h)) :=
  lift_of (k := 19) (rows := code_187) (cuts := cut_187) (hs := hdl_187) (r := fun R E =>
    (gaI h p0 1000 (0 : Int32)).bind (fun x1 =>
    if x1 = p1 then
      (gaI h p0 1000 (1 : Int32)).bind (fun x2 =>
      if x2 = p2 then
        (gaI h p0 1000 (2 : Int32)).bind (fun x3 =>
        if x3 = p3 then
          some (.inl (some (aI (1 : Int32))), h)
        else
          some (.inl (some (aI (0 : Int32))), h))
      else
        some (.inl (some (aI (0 : Int32))), h))
    else
      some (.inl (some (aI (0 : Int32))), h))) rfl rfl rfl (fun R E => rfl)
-- ChipcardhouseModel$Lines.<init>(LChipcardhouseModel$Tills;LChipcardhouseModel$Issuer;)V
set_option maxRecDepth 100000 in
theorem lf_188_0 (o : Option (Nat × Nat)) (p0 : Option (Nat × Nat)) (p1 : Option (Nat × Nat)) (h : Hp) : Ru 188 0 [(0, aR o), (1, aR p0), (2, aR p1)] [] h =
    cV (Ex 420 [aR o] h) (fun h1 =>
    (pf h1 o 16 2 (aI (1 : Int32))).bind (fun h2 =>
    (pf h2 o 16 3 (aI (1000 : Int32))).bind (fun h3 =>
    (pf h3 o 16 5 (aI (1 : Int32))).bind (fun h4 =>
    (nwa h4 65 1024 (8 : Int32)).bind (fun q5 =>
    (pf q5.2 o 16 10 (aR q5.1)).bind (fun h6 =>
    (nwa h6 66 1028 (2000 : Int32)).bind (fun q7 =>
    (pf q7.2 o 16 11 (aR q7.1)).bind (fun h8 =>
    (nwa h8 67 1000 (2000 : Int32)).bind (fun q9 =>
    (pf q9.2 o 16 12 (aR q9.1)).bind (fun h10 =>
    (nwa h10 68 1000 (4 : Int32)).bind (fun q11 =>
    (pf q11.2 o 16 13 (aR q11.1)).bind (fun h12 =>
    (nwa h12 69 1000 (4 : Int32)).bind (fun q13 =>
    (pf q13.2 o 16 14 (aR q13.1)).bind (fun h14 =>
    (nwa h14 70 1002 (200 : Int32)).bind (fun q15 =>
    (pf q15.2 o 16 15 (aR q15.1)).bind (fun h16 =>
    (nwa h16 71 1028 (200 : Int32)).bind (fun q17 =>
    (pf q17.2 o 16 16 (aR q17.1)).bind (fun h18 =>
    (nwa h18 72 1000 (200 : Int32)).bind (fun q19 =>
    (pf q19.2 o 16 17 (aR q19.1)).bind (fun h20 =>
    (nwa h20 73 1000 (8 : Int32)).bind (fun q21 =>
    (pf q21.2 o 16 18 (aR q21.1)).bind (fun h22 =>
    (pf h22 o 16 7 (aR p0)).bind (fun h23 =>
    (pf h23 o 16 8 (aR p1)).bind (fun h24 =>
    some (.inl none, h24))))))))))))))))))))))))) xT :=
  lift_of (k := 55) (rows := code_188) (cuts := cut_188) (hs := hdl_188) (r := fun R E =>
    cV (E 420 [aR o] h) (fun h1 =>
    (pf h1 o 16 2 (aI (1 : Int32))).bind (fun h2 =>
    (pf h2 o 16 3 (aI (1000 : Int32))).bind (fun h3 =>
    (pf h3 o 16 5 (aI (1 : Int32))).bind (fun h4 =>
    (nwa h4 65 1024 (8 : Int32)).bind (fun q5 =>
    (pf q5.2 o 16 10 (aR q5.1)).bind (fun h6 =>
    (nwa h6 66 1028 (2000 : Int32)).bind (fun q7 =>
    (pf q7.2 o 16 11 (aR q7.1)).bind (fun h8 =>
    (nwa h8 67 1000 (2000 : Int32)).bind (fun q9 =>
    (pf q9.2 o 16 12 (aR q9.1)).bind (fun h10 =>
    (nwa h10 68 1000 (4 : Int32)).bind (fun q11 =>
    (pf q11.2 o 16 13 (aR q11.1)).bind (fun h12 =>
    (nwa h12 69 1000 (4 : Int32)).bind (fun q13 =>
    (pf q13.2 o 16 14 (aR q13.1)).bind (fun h14 =>
    (nwa h14 70 1002 (200 : Int32)).bind (fun q15 =>
    (pf q15.2 o 16 15 (aR q15.1)).bind (fun h16 =>
    (nwa h16 71 1028 (200 : Int32)).bind (fun q17 =>
    (pf q17.2 o 16 16 (aR q17.1)).bind (fun h18 =>
    (nwa h18 72 1000 (200 : Int32)).bind (fun q19 =>
    (pf q19.2 o 16 17 (aR q19.1)).bind (fun h20 =>
    (nwa h20 73 1000 (8 : Int32)).bind (fun q21 =>
    (pf q21.2 o 16 18 (aR q21.1)).bind (fun h22 =>
    (pf h22 o 16 7 (aR p0)).bind (fun h23 =>
    (pf h23 o 16 8 (aR p1)).bind (fun h24 =>
    some (.inl none, h24))))))))))))))))))))))))) xT) rfl rfl rfl (fun R E => rfl)
-- ChipcardhouseModel$Lines.can(ZI)Z
set_option maxRecDepth 100000 in
theorem lf_189_0 (o : Option (Nat × Nat)) (p0 : Int32) (p1 : Int32) (h : Hp) : Ru 189 0 [(0, aR o), (1, aI p0), (2, aI p1)] [] h =
    if p0 = 0 then
      (pf h o 16 0 (aI p1)).bind (fun h1 =>
      gz p0 (some (.inl (some (aI p0)), h1)))
    else
      (pf h o 16 0 (aI (0 : Int32))).bind (fun h2 =>
      gz p0 (some (.inl (some (aI p0)), h2))) :=
  lift_of (k := 9) (rows := code_189) (cuts := cut_189) (hs := hdl_189) (r := fun R E =>
    if p0 = 0 then
      (pf h o 16 0 (aI p1)).bind (fun h1 =>
      gz p0 (some (.inl (some (aI p0)), h1)))
    else
      (pf h o 16 0 (aI (0 : Int32))).bind (fun h2 =>
      gz p0 (some (.inl (some (aI p0)), h2)))) rfl rfl rfl (fun R E => rfl)
-- ChipcardhouseModel$Lines.shop()V
set_option maxRecDepth 100000 in
theorem lf_190_0 (o : Option (Nat × Nat)) (h : Hp) : Ru 190 0 [(0, aR o)] [] h =
    (gfR h o 16 10).bind (fun x1 =>
    (gfI h o 16 9).bind (fun x2 =>
    cV (Ex 153 [aR (nob h 74 13 [4, 0, 4, 4]).1] (nob h 74 13 [4, 0, 4, 4]).2) (fun h3 =>
    (paR h3 x1 ((2 : Int32) * x2) (nob h 74 13 [4, 0, 4, 4]).1).bind (fun h4 =>
    (gfR h4 o 16 10).bind (fun x5 =>
    (gfI h4 o 16 9).bind (fun x6 =>
    cV (Ex 153 [aR (nob h4 75 13 [4, 0, 4, 4]).1] (nob h4 75 13 [4, 0, 4, 4]).2) (fun h7 =>
    (paR h7 x5 (((2 : Int32) * x6) + (1 : Int32)) (nob h4 75 13 [4, 0, 4, 4]).1).bind (fun h8 =>
    (gfI h8 o 16 9).bind (fun x9 =>
    (pf h8 o 16 9 (aI (x9 + (1 : Int32)))).bind (fun h10 =>
    some (.inl none, h10))))) xT)))) xT)) :=
  lift_of (k := 30) (rows := code_190) (cuts := cut_190) (hs := hdl_190) (r := fun R E =>
    (gfR h o 16 10).bind (fun x1 =>
    (gfI h o 16 9).bind (fun x2 =>
    cV (E 153 [aR (nob h 74 13 [4, 0, 4, 4]).1] (nob h 74 13 [4, 0, 4, 4]).2) (fun h3 =>
    (paR h3 x1 ((2 : Int32) * x2) (nob h 74 13 [4, 0, 4, 4]).1).bind (fun h4 =>
    (gfR h4 o 16 10).bind (fun x5 =>
    (gfI h4 o 16 9).bind (fun x6 =>
    cV (E 153 [aR (nob h4 75 13 [4, 0, 4, 4]).1] (nob h4 75 13 [4, 0, 4, 4]).2) (fun h7 =>
    (paR h7 x5 (((2 : Int32) * x6) + (1 : Int32)) (nob h4 75 13 [4, 0, 4, 4]).1).bind (fun h8 =>
    (gfI h8 o 16 9).bind (fun x9 =>
    (pf h8 o 16 9 (aI (x9 + (1 : Int32)))).bind (fun h10 =>
    some (.inl none, h10))))) xT)))) xT))) rfl rfl rfl (fun R E => rfl)
-- ChipcardhouseModel$Lines.isShop(I)Z
set_option maxRecDepth 100000 in
theorem lf_191_0 (o : Option (Nat × Nat)) (p0 : Int32) (h : Hp) : Ru 191 0 [(0, aR o), (1, aI p0)] [] h =
    if p0 < 0 then
      some (.inl (some (aI (0 : Int32))), h)
    else
      (gfI h o 16 9).bind (fun x1 =>
      if x1 ≤ p0 then
        some (.inl (some (aI (0 : Int32))), h)
      else
        some (.inl (some (aI (1 : Int32))), h)) :=
  lift_of (k := 10) (rows := code_191) (cuts := cut_191) (hs := hdl_191) (r := fun R E =>
    if p0 < 0 then
      some (.inl (some (aI (0 : Int32))), h)
    else
      (gfI h o 16 9).bind (fun x1 =>
      if x1 ≤ p0 then
        some (.inl (some (aI (0 : Int32))), h)
      else
        some (.inl (some (aI (1 : Int32))), h))) rfl rfl rfl (fun R E => rfl)
-- ChipcardhouseModel$Lines.isPayment(I)Z
set_option maxRecDepth 100000 in
theorem lf_192_0 (o : Option (Nat × Nat)) (p0 : Int32) (h : Hp) : Ru 192 0 [(0, aR o), (1, aI p0)] [] h =
    if p0 < 0 then
      some (.inl (some (aI (0 : Int32))), h)
    else
      (gfR h o 16 7).bind (fun x1 =>
      (gfI h x1 19 8).bind (fun x2 =>
      if x2 ≤ p0 then
        some (.inl (some (aI (0 : Int32))), h)
      else
        some (.inl (some (aI (1 : Int32))), h))) :=
  lift_of (k := 11) (rows := code_192) (cuts := cut_192) (hs := hdl_192) (r := fun R E =>
    if p0 < 0 then
      some (.inl (some (aI (0 : Int32))), h)
    else
      (gfR h o 16 7).bind (fun x1 =>
      (gfI h x1 19 8).bind (fun x2 =>
      if x2 ≤ p0 then
        some (.inl (some (aI (0 : Int32))), h)
      else
        some (.inl (some (aI (1 : Int32))), h)))) rfl rfl rfl (fun R E => rfl)
-- ChipcardhouseModel$Lines.up(ILChipcardhouseModel$Mail;)V
set_option maxRecDepth 100000 in
theorem lf_193_0 (o : Option (Nat × Nat)) (p0 : Int32) (p1 : Option (Nat × Nat)) (h : Hp) : Ru 193 0 [(0, aR o), (1, aI p0), (2, aR p1)] [] h =
    (gfR h o 16 10).bind (fun x1 =>
    (gaR h x1 ((2 : Int32) * p0)).bind (fun x2 =>
    (gfI h o 16 1).bind (fun x3 =>
    (gfI h o 16 2).bind (fun x4 =>
    cV (Ex 155 [aR x2, aI x3, aI x4, aR p1] h) (fun h5 =>
    some (.inl none, h5)) xT)))) :=
  lift_of (k := 14) (rows := code_193) (cuts := cut_193) (hs := hdl_193) (r := fun R E =>
    (gfR h o 16 10).bind (fun x1 =>
    (gaR h x1 ((2 : Int32) * p0)).bind (fun x2 =>
    (gfI h o 16 1).bind (fun x3 =>
    (gfI h o 16 2).bind (fun x4 =>
    cV (E 155 [aR x2, aI x3, aI x4, aR p1] h) (fun h5 =>
    some (.inl none, h5)) xT))))) rfl rfl rfl (fun R E => rfl)
-- ChipcardhouseModel$Lines.down(ILChipcardhouseModel$Mail;)V
set_option maxRecDepth 100000 in
theorem lf_194_0 (o : Option (Nat × Nat)) (p0 : Int32) (p1 : Option (Nat × Nat)) (h : Hp) : Ru 194 0 [(0, aR o), (1, aI p0), (2, aR p1)] [] h =
    (gfR h o 16 10).bind (fun x1 =>
    (gaR h x1 (((2 : Int32) * p0) + (1 : Int32))).bind (fun x2 =>
    (gfI h o 16 1).bind (fun x3 =>
    (gfI h o 16 2).bind (fun x4 =>
    cV (Ex 155 [aR x2, aI x3, aI x4, aR p1] h) (fun h5 =>
    some (.inl none, h5)) xT)))) :=
  lift_of (k := 16) (rows := code_194) (cuts := cut_194) (hs := hdl_194) (r := fun R E =>
    (gfR h o 16 10).bind (fun x1 =>
    (gaR h x1 (((2 : Int32) * p0) + (1 : Int32))).bind (fun x2 =>
    (gfI h o 16 1).bind (fun x3 =>
    (gfI h o 16 2).bind (fun x4 =>
    cV (E 155 [aR x2, aI x3, aI x4, aR p1] h) (fun h5 =>
    some (.inl none, h5)) xT))))) rfl rfl rfl (fun R E => rfl)
-- ChipcardhouseModel$Lines.keeps(ILChipcardhouseModel$Mail;)V
set_option maxRecDepth 100000 in
theorem lf_195_0 (o : Option (Nat × Nat)) (p0 : Int32) (p1 : Option (Nat × Nat)) (h : Hp) : Ru 195 0 [(0, aR o), (1, aI p0), (2, aR p1)] [] h =
    (gfR h o 16 13).bind (fun x1 =>
    (gaI h x1 1000 p0).bind (fun x2 =>
    (gfR h o 16 11).bind (fun x3 =>
    (paR h x3 (((500 : Int32) * p0) + x2) p1).bind (fun h4 =>
    (gfR h4 o 16 12).bind (fun x5 =>
    (gfI h4 o 16 1).bind (fun x6 =>
    (pa h4 x5 1000 (((500 : Int32) * p0) + x2) (aI x6)).bind (fun h7 =>
    (gfR h7 o 16 13).bind (fun x8 =>
    (gaI h7 x8 1000 p0).bind (fun x9 =>
    (pa h7 x8 1000 p0 (aI (x9 + (1 : Int32)))).bind (fun h10 =>
    cV (Ex 193 [aR o, aI p0, aR p1] h10) (fun h11 =>
    some (.inl none, h11)) xT)))))))))) :=
  lift_of (k := 34) (rows := code_195) (cuts := cut_195) (hs := hdl_195) (r := fun R E =>
    (gfR h o 16 13).bind (fun x1 =>
    (gaI h x1 1000 p0).bind (fun x2 =>
    (gfR h o 16 11).bind (fun x3 =>
    (paR h x3 (((500 : Int32) * p0) + x2) p1).bind (fun h4 =>
    (gfR h4 o 16 12).bind (fun x5 =>
    (gfI h4 o 16 1).bind (fun x6 =>
    (pa h4 x5 1000 (((500 : Int32) * p0) + x2) (aI x6)).bind (fun h7 =>
    (gfR h7 o 16 13).bind (fun x8 =>
    (gaI h7 x8 1000 p0).bind (fun x9 =>
    (pa h7 x8 1000 p0 (aI (x9 + (1 : Int32)))).bind (fun h10 =>
    cV (E 193 [aR o, aI p0, aR p1] h10) (fun h11 =>
    some (.inl none, h11)) xT))))))))))) rfl rfl rfl (fun R E => rfl)
-- ChipcardhouseModel$Lines.asks(IIIIII)V
set_option maxRecDepth 100000 in
theorem lf_196_0 (o : Option (Nat × Nat)) (p0 : Int32) (p1 : Int32) (p2 : Int32) (p3 : Int32) (p4 : Int32) (p5 : Int32) (h : Hp) : Ru 196 0 [(0, aR o), (1, aI p0), (2, aI p1), (3, aI p2), (4, aI p3), (5, aI p4), (6, aI p5)] [] h =
    cR (Ex 198 [aI (0 : Int32), aI p1, aI p2, aI p3, aI p4, aI p5] h) (fun x2 h1 =>
    cV (Ex 193 [aR o, aI p0, aR x2] h1) (fun h3 =>
    some (.inl none, h3)) xT) xT :=
  lift_of (k := 12) (rows := code_196) (cuts := cut_196) (hs := hdl_196) (r := fun R E =>
    cR (E 198 [aI (0 : Int32), aI p1, aI p2, aI p3, aI p4, aI p5] h) (fun x2 h1 =>
    cV (E 193 [aR o, aI p0, aR x2] h1) (fun h3 =>
    some (.inl none, h3)) xT) xT) rfl rfl rfl (fun R E => rfl)
-- ChipcardhouseModel$Lines.takesBack(II)V
set_option maxRecDepth 100000 in
theorem lf_197_0 (o : Option (Nat × Nat)) (p0 : Int32) (p1 : Int32) (h : Hp) : Ru 197 0 [(0, aR o), (1, aI p0), (2, aI p1)] [] h =
    cV (Ex 214 [aR (nob h 76 17 [0, 0, 0, 0, 0, 0, 0, 0, 0, 0, 0, 0, 0, 0]).1, aI (1 : Int32), aI p1] (nob h 76 17 [0, 0, 0, 0, 0, 0, 0, 0, 0, 0, 0, 0, 0, 0]).2) (fun h1 =>
    cV (Ex 195 [aR o, aI p0, aR (nob h 76 17 [0, 0, 0, 0, 0, 0, 0, 0, 0, 0, 0, 0, 0, 0]).1] h1) (fun h2 =>
    some (.inl none, h2)) xT) xT :=
  lift_of (k := 10) (rows := code_197) (cuts := cut_197) (hs := hdl_197) (r := fun R E =>
    cV (E 214 [aR (nob h 76 17 [0, 0, 0, 0, 0, 0, 0, 0, 0, 0, 0, 0, 0, 0]).1, aI (1 : Int32), aI p1] (nob h 76 17 [0, 0, 0, 0, 0, 0, 0, 0, 0, 0, 0, 0, 0, 0]).2) (fun h1 =>
    cV (E 195 [aR o, aI p0, aR (nob h 76 17 [0, 0, 0, 0, 0, 0, 0, 0, 0, 0, 0, 0, 0, 0]).1] h1) (fun h2 =>
    some (.inl none, h2)) xT) xT) rfl rfl rfl (fun R E => rfl)
-- ChipcardhouseModel$Lines.told(IIIIII)LChipcardhouseModel$Mail;
set_option maxRecDepth 100000 in
theorem lf_198_0 (p0 : Int32) (p1 : Int32) (p2 : Int32) (p3 : Int32) (p4 : Int32) (p5 : Int32) (h : Hp) : Ru 198 0 [(0, aI p0), (1, aI p1), (2, aI p2), (3, aI p3), (4, aI p4), (5, aI p5)] [] h =
    cV (Ex 214 [aR (nob h 77 17 [0, 0, 0, 0, 0, 0, 0, 0, 0, 0, 0, 0, 0, 0]).1, aI p0, aI p1] (nob h 77 17 [0, 0, 0, 0, 0, 0, 0, 0, 0, 0, 0, 0, 0, 0]).2) (fun h1 =>
    (pf h1 (nob h 77 17 [0, 0, 0, 0, 0, 0, 0, 0, 0, 0, 0, 0, 0, 0]).1 17 2 (aI p2)).bind (fun h2 =>
    (pf h2 (nob h 77 17 [0, 0, 0, 0, 0, 0, 0, 0, 0, 0, 0, 0, 0, 0]).1 17 3 (aI p3)).bind (fun h3 =>
    (pf h3 (nob h 77 17 [0, 0, 0, 0, 0, 0, 0, 0, 0, 0, 0, 0, 0, 0]).1 17 4 (aI p4)).bind (fun h4 =>
    (pf h4 (nob h 77 17 [0, 0, 0, 0, 0, 0, 0, 0, 0, 0, 0, 0, 0, 0]).1 17 5 (aI p5)).bind (fun h5 =>
    some (.inl (some (aR (nob h 77 17 [0, 0, 0, 0, 0, 0, 0, 0, 0, 0, 0, 0, 0, 0]).1)), h5)))))) xT :=
  lift_of (k := 21) (rows := code_198) (cuts := cut_198) (hs := hdl_198) (r := fun R E =>
    cV (E 214 [aR (nob h 77 17 [0, 0, 0, 0, 0, 0, 0, 0, 0, 0, 0, 0, 0, 0]).1, aI p0, aI p1] (nob h 77 17 [0, 0, 0, 0, 0, 0, 0, 0, 0, 0, 0, 0, 0, 0]).2) (fun h1 =>
    (pf h1 (nob h 77 17 [0, 0, 0, 0, 0, 0, 0, 0, 0, 0, 0, 0, 0, 0]).1 17 2 (aI p2)).bind (fun h2 =>
    (pf h2 (nob h 77 17 [0, 0, 0, 0, 0, 0, 0, 0, 0, 0, 0, 0, 0, 0]).1 17 3 (aI p3)).bind (fun h3 =>
    (pf h3 (nob h 77 17 [0, 0, 0, 0, 0, 0, 0, 0, 0, 0, 0, 0, 0, 0]).1 17 4 (aI p4)).bind (fun h4 =>
    (pf h4 (nob h 77 17 [0, 0, 0, 0, 0, 0, 0, 0, 0, 0, 0, 0, 0, 0]).1 17 5 (aI p5)).bind (fun h5 =>
    some (.inl (some (aR (nob h 77 17 [0, 0, 0, 0, 0, 0, 0, 0, 0, 0, 0, 0, 0, 0]).1)), h5)))))) xT) rfl rfl rfl (fun R E => rfl)
-- ChipcardhouseModel$Lines.record(III)LChipcardhouseModel$Mail;
set_option maxRecDepth 100000 in
theorem lf_199_0 (o : Option (Nat × Nat)) (p0 : Int32) (p1 : Int32) (p2 : Int32) (h : Hp) : Ru 199 0 [(0, aR o), (1, aI p0), (2, aI p1), (3, aI p2)] [] h =
    (gfR h o 16 7).bind (fun x1 =>
    cI (Ex 247 [aR x1, aI p0, aI (1 : Int32)] h) (fun x3 h2 =>
    (gfR h2 o 16 7).bind (fun x4 =>
    cI (Ex 247 [aR x4, aI p0, aI (4 : Int32)] h2) (fun x6 h5 =>
    (gfR h5 o 16 7).bind (fun x7 =>
    cI (Ex 247 [aR x7, aI p0, aI (3 : Int32)] h5) (fun x9 h8 =>
    (gfR h8 o 16 7).bind (fun x10 =>
    cI (Ex 247 [aR x10, aI p0, aI (5 : Int32)] h8) (fun x12 h11 =>
    cR (Ex 198 [aI (2 : Int32), aI p1, aI x3, aI x6, aI x9, aI x12] h11) (fun x14 h13 =>
    (pf h13 x14 17 6 (aI p2)).bind (fun h15 =>
    some (.inl (some (aR x14)), h15))) xT) xT)) xT)) xT)) xT) :=
  lift_of (k := 30) (rows := code_199) (cuts := cut_199) (hs := hdl_199) (r := fun R E =>
    (gfR h o 16 7).bind (fun x1 =>
    cI (E 247 [aR x1, aI p0, aI (1 : Int32)] h) (fun x3 h2 =>
    (gfR h2 o 16 7).bind (fun x4 =>
    cI (E 247 [aR x4, aI p0, aI (4 : Int32)] h2) (fun x6 h5 =>
    (gfR h5 o 16 7).bind (fun x7 =>
    cI (E 247 [aR x7, aI p0, aI (3 : Int32)] h5) (fun x9 h8 =>
    (gfR h8 o 16 7).bind (fun x10 =>
    cI (E 247 [aR x10, aI p0, aI (5 : Int32)] h8) (fun x12 h11 =>
    cR (E 198 [aI (2 : Int32), aI p1, aI x3, aI x6, aI x9, aI x12] h11) (fun x14 h13 =>
    (pf h13 x14 17 6 (aI p2)).bind (fun h15 =>
    some (.inl (some (aR x14)), h15))) xT) xT)) xT)) xT)) xT)) rfl rfl rfl (fun R E => rfl)
-- ChipcardhouseModel$Lines.sends(I)I
set_option maxRecDepth 100000 in
theorem lf_200_0 (o : Option (Nat × Nat)) (p0 : Int32) (h : Hp) : Ru 200 0 [(0, aR o), (1, aI p0)] [] h =
    cI (Ex 191 [aR o, aI p0] h) (fun x2 h1 =>
    cI (Ex 189 [aR o, aI x2, aI (1 : Int32)] h1) (fun x4 h3 =>
    if x4 = 0 then
      some (.inl (some (aI (0 : Int32))), h3)
    else
      Ru 200 19 [(0, aR o), (1, aI p0), (2, aI (0 : Int32)), (3, aI (0 : Int32))] [] h3) xT) xT :=
  lift_of (k := 12) (rows := code_200) (cuts := cut_200) (hs := hdl_200) (r := fun R E =>
    cI (E 191 [aR o, aI p0] h) (fun x2 h1 =>
    cI (E 189 [aR o, aI x2, aI (1 : Int32)] h1) (fun x4 h3 =>
    if x4 = 0 then
      some (.inl (some (aI (0 : Int32))), h3)
    else
      R 19 [(0, aR o), (1, aI p0), (2, aI (0 : Int32)), (3, aI (0 : Int32))] [] h3) xT) xT) rfl rfl rfl (fun R E => rfl)
set_option maxRecDepth 100000 in
theorem lf_200_19 (o : Option (Nat × Nat)) (v1 : Int32) (v2 : Int32) (v3 : Int32) (h : Hp) : Ru 200 19 [(0, aR o), (1, aI v1), (2, aI v2), (3, aI v3)] [] h =
    (gfR h o 16 7).bind (fun x1 =>
    (gfI h x1 19 8).bind (fun x2 =>
    if x2 ≤ v3 then
      some (.inl (some (aI v2)), h)
    else
      (gfR h o 16 7).bind (fun x3 =>
      cI (Ex 247 [aR x3, aI v3, aI (0 : Int32)] h) (fun x5 h4 =>
      (gfR h4 o 16 7).bind (fun x6 =>
      cI (Ex 247 [aR x6, aI v3, aI (2 : Int32)] h4) (fun x8 h7 =>
      if x8 = v1 then
        (gfR h7 o 16 15).bind (fun x9 =>
        (gaI h7 x9 1002 v3).bind (fun x10 =>
        if x10 = 0 then
          if x5 = 0 then
            (gfR h7 o 16 15).bind (fun x11 =>
            (pa h7 x11 1002 v3 (aI (1 : Int32))).bind (fun h12 =>
            if x5 = 0 then
              cR (Ex 199 [aR o, aI v3, aI v3, aI (1 : Int32)] h12) (fun x14 h13 =>
              cV (Ex 195 [aR o, aI v1, aR x14] h13) (fun h15 =>
              Ru 200 19 [(0, aR o), (1, aI v1), (2, aI (v2 + (1 : Int32))), (3, aI (v3 + (1 : Int32)))] [] h15) xT) xT
            else
              (gfR h12 o 16 7).bind (fun x16 =>
              cI (Ex 247 [aR x16, aI v3, aI (8 : Int32)] h12) (fun x18 h17 =>
              cR (Ex 199 [aR o, aI v3, aI v3, aI ((1 : Int32) + x18)] h17) (fun x20 h19 =>
              cV (Ex 195 [aR o, aI v1, aR x20] h19) (fun h21 =>
              Ru 200 19 [(0, aR o), (1, aI v1), (2, aI (v2 + (1 : Int32))), (3, aI (v3 + (1 : Int32)))] [] h21) xT) xT) xT)))
          else
            if x5 = (2 : Int32) then
              (gfR h7 o 16 15).bind (fun x22 =>
              (pa h7 x22 1002 v3 (aI (1 : Int32))).bind (fun h23 =>
              if x5 = 0 then
                cR (Ex 199 [aR o, aI v3, aI v3, aI (1 : Int32)] h23) (fun x25 h24 =>
                cV (Ex 195 [aR o, aI v1, aR x25] h24) (fun h26 =>
                Ru 200 19 [(0, aR o), (1, aI v1), (2, aI (v2 + (1 : Int32))), (3, aI (v3 + (1 : Int32)))] [] h26) xT) xT
              else
                (gfR h23 o 16 7).bind (fun x27 =>
                cI (Ex 247 [aR x27, aI v3, aI (8 : Int32)] h23) (fun x29 h28 =>
                cR (Ex 199 [aR o, aI v3, aI v3, aI ((1 : Int32) + x29)] h28) (fun x31 h30 =>
                cV (Ex 195 [aR o, aI v1, aR x31] h30) (fun h32 =>
                Ru 200 19 [(0, aR o), (1, aI v1), (2, aI (v2 + (1 : Int32))), (3, aI (v3 + (1 : Int32)))] [] h32) xT) xT) xT)))
            else
              Ru 200 19 [(0, aR o), (1, aI v1), (2, aI v2), (3, aI (v3 + (1 : Int32)))] [] h7
        else
          Ru 200 19 [(0, aR o), (1, aI v1), (2, aI v2), (3, aI (v3 + (1 : Int32)))] [] h7))
      else
        Ru 200 19 [(0, aR o), (1, aI v1), (2, aI v2), (3, aI (v3 + (1 : Int32)))] [] h7) xT)) xT))) :=
  lift_of (k := 53) (rows := code_200) (cuts := cut_200) (hs := hdl_200) (r := fun R E =>
    (gfR h o 16 7).bind (fun x1 =>
    (gfI h x1 19 8).bind (fun x2 =>
    if x2 ≤ v3 then
      some (.inl (some (aI v2)), h)
    else
      (gfR h o 16 7).bind (fun x3 =>
      cI (E 247 [aR x3, aI v3, aI (0 : Int32)] h) (fun x5 h4 =>
      (gfR h4 o 16 7).bind (fun x6 =>
      cI (E 247 [aR x6, aI v3, aI (2 : Int32)] h4) (fun x8 h7 =>
      if x8 = v1 then
        (gfR h7 o 16 15).bind (fun x9 =>
        (gaI h7 x9 1002 v3).bind (fun x10 =>
        if x10 = 0 then
          if x5 = 0 then
            (gfR h7 o 16 15).bind (fun x11 =>
            (pa h7 x11 1002 v3 (aI (1 : Int32))).bind (fun h12 =>
            if x5 = 0 then
              cR (E 199 [aR o, aI v3, aI v3, aI (1 : Int32)] h12) (fun x14 h13 =>
              cV (E 195 [aR o, aI v1, aR x14] h13) (fun h15 =>
              R 19 [(0, aR o), (1, aI v1), (2, aI (v2 + (1 : Int32))), (3, aI (v3 + (1 : Int32)))] [] h15) xT) xT
            else
              (gfR h12 o 16 7).bind (fun x16 =>
              cI (E 247 [aR x16, aI v3, aI (8 : Int32)] h12) (fun x18 h17 =>
              cR (E 199 [aR o, aI v3, aI v3, aI ((1 : Int32) + x18)] h17) (fun x20 h19 =>
              cV (E 195 [aR o, aI v1, aR x20] h19) (fun h21 =>
              R 19 [(0, aR o), (1, aI v1), (2, aI (v2 + (1 : Int32))), (3, aI (v3 + (1 : Int32)))] [] h21) xT) xT) xT)))
          else
            if x5 = (2 : Int32) then
              (gfR h7 o 16 15).bind (fun x22 =>
              (pa h7 x22 1002 v3 (aI (1 : Int32))).bind (fun h23 =>
              if x5 = 0 then
                cR (E 199 [aR o, aI v3, aI v3, aI (1 : Int32)] h23) (fun x25 h24 =>
                cV (E 195 [aR o, aI v1, aR x25] h24) (fun h26 =>
                R 19 [(0, aR o), (1, aI v1), (2, aI (v2 + (1 : Int32))), (3, aI (v3 + (1 : Int32)))] [] h26) xT) xT
              else
                (gfR h23 o 16 7).bind (fun x27 =>
                cI (E 247 [aR x27, aI v3, aI (8 : Int32)] h23) (fun x29 h28 =>
                cR (E 199 [aR o, aI v3, aI v3, aI ((1 : Int32) + x29)] h28) (fun x31 h30 =>
                cV (E 195 [aR o, aI v1, aR x31] h30) (fun h32 =>
                R 19 [(0, aR o), (1, aI v1), (2, aI (v2 + (1 : Int32))), (3, aI (v3 + (1 : Int32)))] [] h32) xT) xT) xT)))
            else
              R 19 [(0, aR o), (1, aI v1), (2, aI v2), (3, aI (v3 + (1 : Int32)))] [] h7
        else
          R 19 [(0, aR o), (1, aI v1), (2, aI v2), (3, aI (v3 + (1 : Int32)))] [] h7))
      else
        R 19 [(0, aR o), (1, aI v1), (2, aI v2), (3, aI (v3 + (1 : Int32)))] [] h7) xT)) xT)))) rfl rfl rfl (fun R E => rfl)
-- ChipcardhouseModel$Lines.backMoney(III)I
set_option maxRecDepth 100000 in
theorem lf_201_0 (o : Option (Nat × Nat)) (p0 : Int32) (p1 : Int32) (p2 : Int32) (h : Hp) : Ru 201 0 [(0, aR o), (1, aI p0), (2, aI p1), (3, aI p2)] [] h =
    cI (Ex 191 [aR o, aI p0] h) (fun x2 h1 =>
    if x2 = 0 then
      cI (Ex 189 [aR o, aI (0 : Int32), aI (1 : Int32)] h1) (fun x4 h3 =>
      if x4 = 0 then
        some (.inl (some (aI (0 : Int32))), h3)
      else
        (gfR h3 o 16 7).bind (fun x5 =>
        cI (Ex 247 [aR x5, aI p1, aI (2 : Int32)] h3) (fun x7 h6 =>
        if x7 = p0 then
          if p2 < (1 : Int32) then
            Ru 201 61 [(0, aR o), (1, aI p0), (2, aI p1), (3, aI p2)] [aI (0 : Int32), aR o] h6
          else
            if (100000 : Int32) < p2 then
              Ru 201 61 [(0, aR o), (1, aI p0), (2, aI p1), (3, aI p2)] [aI (0 : Int32), aR o] h6
            else
              Ru 201 61 [(0, aR o), (1, aI p0), (2, aI p1), (3, aI p2)] [aI (1 : Int32), aR o] h6
        else
          Ru 201 61 [(0, aR o), (1, aI p0), (2, aI p1), (3, aI p2)] [aI (0 : Int32), aR o] h6) xT)) xT
    else
      cI (Ex 192 [aR o, aI p1] h1) (fun x9 h8 =>
      if x9 = 0 then
        cI (Ex 189 [aR o, aI (0 : Int32), aI (1 : Int32)] h8) (fun x11 h10 =>
        if x11 = 0 then
          some (.inl (some (aI (0 : Int32))), h10)
        else
          (gfR h10 o 16 7).bind (fun x12 =>
          cI (Ex 247 [aR x12, aI p1, aI (2 : Int32)] h10) (fun x14 h13 =>
          if x14 = p0 then
            if p2 < (1 : Int32) then
              Ru 201 61 [(0, aR o), (1, aI p0), (2, aI p1), (3, aI p2)] [aI (0 : Int32), aR o] h13
            else
              if (100000 : Int32) < p2 then
                Ru 201 61 [(0, aR o), (1, aI p0), (2, aI p1), (3, aI p2)] [aI (0 : Int32), aR o] h13
              else
                Ru 201 61 [(0, aR o), (1, aI p0), (2, aI p1), (3, aI p2)] [aI (1 : Int32), aR o] h13
          else
            Ru 201 61 [(0, aR o), (1, aI p0), (2, aI p1), (3, aI p2)] [aI (0 : Int32), aR o] h13) xT)) xT
      else
        cI (Ex 189 [aR o, aI (1 : Int32), aI (1 : Int32)] h8) (fun x16 h15 =>
        if x16 = 0 then
          some (.inl (some (aI (0 : Int32))), h15)
        else
          (gfR h15 o 16 7).bind (fun x17 =>
          cI (Ex 247 [aR x17, aI p1, aI (2 : Int32)] h15) (fun x19 h18 =>
          if x19 = p0 then
            if p2 < (1 : Int32) then
              Ru 201 61 [(0, aR o), (1, aI p0), (2, aI p1), (3, aI p2)] [aI (0 : Int32), aR o] h18
            else
              if (100000 : Int32) < p2 then
                Ru 201 61 [(0, aR o), (1, aI p0), (2, aI p1), (3, aI p2)] [aI (0 : Int32), aR o] h18
              else
                Ru 201 61 [(0, aR o), (1, aI p0), (2, aI p1), (3, aI p2)] [aI (1 : Int32), aR o] h18
          else
            Ru 201 61 [(0, aR o), (1, aI p0), (2, aI p1), (3, aI p2)] [aI (0 : Int32), aR o] h18) xT)) xT) xT) xT :=
  lift_of (k := 31) (rows := code_201) (cuts := cut_201) (hs := hdl_201) (r := fun R E =>
    cI (E 191 [aR o, aI p0] h) (fun x2 h1 =>
    if x2 = 0 then
      cI (E 189 [aR o, aI (0 : Int32), aI (1 : Int32)] h1) (fun x4 h3 =>
      if x4 = 0 then
        some (.inl (some (aI (0 : Int32))), h3)
      else
        (gfR h3 o 16 7).bind (fun x5 =>
        cI (E 247 [aR x5, aI p1, aI (2 : Int32)] h3) (fun x7 h6 =>
        if x7 = p0 then
          if p2 < (1 : Int32) then
            R 61 [(0, aR o), (1, aI p0), (2, aI p1), (3, aI p2)] [aI (0 : Int32), aR o] h6
          else
            if (100000 : Int32) < p2 then
              R 61 [(0, aR o), (1, aI p0), (2, aI p1), (3, aI p2)] [aI (0 : Int32), aR o] h6
            else
              R 61 [(0, aR o), (1, aI p0), (2, aI p1), (3, aI p2)] [aI (1 : Int32), aR o] h6
        else
          R 61 [(0, aR o), (1, aI p0), (2, aI p1), (3, aI p2)] [aI (0 : Int32), aR o] h6) xT)) xT
    else
      cI (E 192 [aR o, aI p1] h1) (fun x9 h8 =>
      if x9 = 0 then
        cI (E 189 [aR o, aI (0 : Int32), aI (1 : Int32)] h8) (fun x11 h10 =>
        if x11 = 0 then
          some (.inl (some (aI (0 : Int32))), h10)
        else
          (gfR h10 o 16 7).bind (fun x12 =>
          cI (E 247 [aR x12, aI p1, aI (2 : Int32)] h10) (fun x14 h13 =>
          if x14 = p0 then
            if p2 < (1 : Int32) then
              R 61 [(0, aR o), (1, aI p0), (2, aI p1), (3, aI p2)] [aI (0 : Int32), aR o] h13
            else
              if (100000 : Int32) < p2 then
                R 61 [(0, aR o), (1, aI p0), (2, aI p1), (3, aI p2)] [aI (0 : Int32), aR o] h13
              else
                R 61 [(0, aR o), (1, aI p0), (2, aI p1), (3, aI p2)] [aI (1 : Int32), aR o] h13
          else
            R 61 [(0, aR o), (1, aI p0), (2, aI p1), (3, aI p2)] [aI (0 : Int32), aR o] h13) xT)) xT
      else
        cI (E 189 [aR o, aI (1 : Int32), aI (1 : Int32)] h8) (fun x16 h15 =>
        if x16 = 0 then
          some (.inl (some (aI (0 : Int32))), h15)
        else
          (gfR h15 o 16 7).bind (fun x17 =>
          cI (E 247 [aR x17, aI p1, aI (2 : Int32)] h15) (fun x19 h18 =>
          if x19 = p0 then
            if p2 < (1 : Int32) then
              R 61 [(0, aR o), (1, aI p0), (2, aI p1), (3, aI p2)] [aI (0 : Int32), aR o] h18
            else
              if (100000 : Int32) < p2 then
                R 61 [(0, aR o), (1, aI p0), (2, aI p1), (3, aI p2)] [aI (0 : Int32), aR o] h18
              else
                R 61 [(0, aR o), (1, aI p0), (2, aI p1), (3, aI p2)] [aI (1 : Int32), aR o] h18
          else
            R 61 [(0, aR o), (1, aI p0), (2, aI p1), (3, aI p2)] [aI (0 : Int32), aR o] h18) xT)) xT) xT) xT) rfl rfl rfl (fun R E => rfl)
set_option maxRecDepth 100000 in
theorem lf_201_61 (o : Option (Nat × Nat)) (v1 : Int32) (v2 : Int32) (v3 : Int32) (s0 : Option (Nat × Nat)) (s1 : Int32) (h : Hp) : Ru 201 61 [(0, aR o), (1, aI v1), (2, aI v2), (3, aI v3)] [aI s1, aR s0] h =
    cI (Ex 189 [aR s0, aI s1, aI (2 : Int32)] h) (fun x2 h1 =>
    if x2 = 0 then
      some (.inl (some (aI (0 : Int32))), h1)
    else
      (gfR h1 o 16 14).bind (fun x3 =>
      (gaI h1 x3 1000 v1).bind (fun x4 =>
      if (100 : Int32) ≤ x4 then
        cI (Ex 189 [aR o, aI (0 : Int32), aI (3 : Int32)] h1) (fun x6 h5 =>
        if x6 = 0 then
          some (.inl (some (aI (0 : Int32))), h5)
        else
          cV (Ex 214 [aR (nob h5 78 17 [0, 0, 0, 0, 0, 0, 0, 0, 0, 0, 0, 0, 0, 0]).1, aI (3 : Int32), aI v2] (nob h5 78 17 [0, 0, 0, 0, 0, 0, 0, 0, 0, 0, 0, 0, 0, 0]).2) (fun h7 =>
          (pf h7 (nob h5 78 17 [0, 0, 0, 0, 0, 0, 0, 0, 0, 0, 0, 0, 0, 0]).1 17 4 (aI v3)).bind (fun h8 =>
          (gfR h8 o 16 14).bind (fun x9 =>
          (gaI h8 x9 1000 v1).bind (fun x10 =>
          (pf h8 (nob h5 78 17 [0, 0, 0, 0, 0, 0, 0, 0, 0, 0, 0, 0, 0, 0]).1 17 7 (aI x10)).bind (fun h11 =>
          (gfR h11 o 16 14).bind (fun x12 =>
          (gaI h11 x12 1000 v1).bind (fun x13 =>
          (pa h11 x12 1000 v1 (aI (x13 + (1 : Int32)))).bind (fun h14 =>
          cV (Ex 195 [aR o, aI v1, aR (nob h5 78 17 [0, 0, 0, 0, 0, 0, 0, 0, 0, 0, 0, 0, 0, 0]).1] h14) (fun h15 =>
          (gfI h15 (nob h5 78 17 [0, 0, 0, 0, 0, 0, 0, 0, 0, 0, 0, 0, 0, 0]).1 17 7).bind (fun x16 =>
          some (.inl (some (aI x16)), h15))) xT)))))))) xT) xT
      else
        cI (Ex 189 [aR o, aI (1 : Int32), aI (3 : Int32)] h1) (fun x18 h17 =>
        if x18 = 0 then
          some (.inl (some (aI (0 : Int32))), h17)
        else
          cV (Ex 214 [aR (nob h17 78 17 [0, 0, 0, 0, 0, 0, 0, 0, 0, 0, 0, 0, 0, 0]).1, aI (3 : Int32), aI v2] (nob h17 78 17 [0, 0, 0, 0, 0, 0, 0, 0, 0, 0, 0, 0, 0, 0]).2) (fun h19 =>
          (pf h19 (nob h17 78 17 [0, 0, 0, 0, 0, 0, 0, 0, 0, 0, 0, 0, 0, 0]).1 17 4 (aI v3)).bind (fun h20 =>
          (gfR h20 o 16 14).bind (fun x21 =>
          (gaI h20 x21 1000 v1).bind (fun x22 =>
          (pf h20 (nob h17 78 17 [0, 0, 0, 0, 0, 0, 0, 0, 0, 0, 0, 0, 0, 0]).1 17 7 (aI x22)).bind (fun h23 =>
          (gfR h23 o 16 14).bind (fun x24 =>
          (gaI h23 x24 1000 v1).bind (fun x25 =>
          (pa h23 x24 1000 v1 (aI (x25 + (1 : Int32)))).bind (fun h26 =>
          cV (Ex 195 [aR o, aI v1, aR (nob h17 78 17 [0, 0, 0, 0, 0, 0, 0, 0, 0, 0, 0, 0, 0, 0]).1] h26) (fun h27 =>
          (gfI h27 (nob h17 78 17 [0, 0, 0, 0, 0, 0, 0, 0, 0, 0, 0, 0, 0, 0]).1 17 7).bind (fun x28 =>
          some (.inl (some (aI x28)), h27))) xT)))))))) xT) xT))) xT :=
  lift_of (k := 46) (rows := code_201) (cuts := cut_201) (hs := hdl_201) (r := fun R E =>
    cI (E 189 [aR s0, aI s1, aI (2 : Int32)] h) (fun x2 h1 =>
    if x2 = 0 then
      some (.inl (some (aI (0 : Int32))), h1)
    else
      (gfR h1 o 16 14).bind (fun x3 =>
      (gaI h1 x3 1000 v1).bind (fun x4 =>
      if (100 : Int32) ≤ x4 then
        cI (E 189 [aR o, aI (0 : Int32), aI (3 : Int32)] h1) (fun x6 h5 =>
        if x6 = 0 then
          some (.inl (some (aI (0 : Int32))), h5)
        else
          cV (E 214 [aR (nob h5 78 17 [0, 0, 0, 0, 0, 0, 0, 0, 0, 0, 0, 0, 0, 0]).1, aI (3 : Int32), aI v2] (nob h5 78 17 [0, 0, 0, 0, 0, 0, 0, 0, 0, 0, 0, 0, 0, 0]).2) (fun h7 =>
          (pf h7 (nob h5 78 17 [0, 0, 0, 0, 0, 0, 0, 0, 0, 0, 0, 0, 0, 0]).1 17 4 (aI v3)).bind (fun h8 =>
          (gfR h8 o 16 14).bind (fun x9 =>
          (gaI h8 x9 1000 v1).bind (fun x10 =>
          (pf h8 (nob h5 78 17 [0, 0, 0, 0, 0, 0, 0, 0, 0, 0, 0, 0, 0, 0]).1 17 7 (aI x10)).bind (fun h11 =>
          (gfR h11 o 16 14).bind (fun x12 =>
          (gaI h11 x12 1000 v1).bind (fun x13 =>
          (pa h11 x12 1000 v1 (aI (x13 + (1 : Int32)))).bind (fun h14 =>
          cV (E 195 [aR o, aI v1, aR (nob h5 78 17 [0, 0, 0, 0, 0, 0, 0, 0, 0, 0, 0, 0, 0, 0]).1] h14) (fun h15 =>
          (gfI h15 (nob h5 78 17 [0, 0, 0, 0, 0, 0, 0, 0, 0, 0, 0, 0, 0, 0]).1 17 7).bind (fun x16 =>
          some (.inl (some (aI x16)), h15))) xT)))))))) xT) xT
      else
        cI (E 189 [aR o, aI (1 : Int32), aI (3 : Int32)] h1) (fun x18 h17 =>
        if x18 = 0 then
          some (.inl (some (aI (0 : Int32))), h17)
        else
          cV (E 214 [aR (nob h17 78 17 [0, 0, 0, 0, 0, 0, 0, 0, 0, 0, 0, 0, 0, 0]).1, aI (3 : Int32), aI v2] (nob h17 78 17 [0, 0, 0, 0, 0, 0, 0, 0, 0, 0, 0, 0, 0, 0]).2) (fun h19 =>
          (pf h19 (nob h17 78 17 [0, 0, 0, 0, 0, 0, 0, 0, 0, 0, 0, 0, 0, 0]).1 17 4 (aI v3)).bind (fun h20 =>
          (gfR h20 o 16 14).bind (fun x21 =>
          (gaI h20 x21 1000 v1).bind (fun x22 =>
          (pf h20 (nob h17 78 17 [0, 0, 0, 0, 0, 0, 0, 0, 0, 0, 0, 0, 0, 0]).1 17 7 (aI x22)).bind (fun h23 =>
          (gfR h23 o 16 14).bind (fun x24 =>
          (gaI h23 x24 1000 v1).bind (fun x25 =>
          (pa h23 x24 1000 v1 (aI (x25 + (1 : Int32)))).bind (fun h26 =>
          cV (E 195 [aR o, aI v1, aR (nob h17 78 17 [0, 0, 0, 0, 0, 0, 0, 0, 0, 0, 0, 0, 0, 0]).1] h26) (fun h27 =>
          (gfI h27 (nob h17 78 17 [0, 0, 0, 0, 0, 0, 0, 0, 0, 0, 0, 0, 0, 0]).1 17 7).bind (fun x28 =>
          some (.inl (some (aI x28)), h27))) xT)))))))) xT) xT))) xT) rfl rfl rfl (fun R E => rfl)
-- ChipcardhouseModel$Lines.forge(III)I
set_option maxRecDepth 100000 in
theorem lf_202_0 (o : Option (Nat × Nat)) (p0 : Int32) (p1 : Int32) (p2 : Int32) (h : Hp) : Ru 202 0 [(0, aR o), (1, aI p0), (2, aI p1), (3, aI p2)] [] h =
    cI (Ex 191 [aR o, aI p0] h) (fun x2 h1 =>
    if x2 = 0 then
      cI (Ex 189 [aR o, aI (0 : Int32), aI (1 : Int32)] h1) (fun x4 h3 =>
      if x4 = 0 then
        some (.inl (some (aI (0 : Int32))), h3)
      else
        if p2 < 0 then
          cI (Ex 189 [aR o, aI (0 : Int32), aI (2 : Int32)] h3) (fun x6 h5 =>
          if x6 = 0 then
            some (.inl (some (aI (0 : Int32))), h5)
          else
            cR (Ex 199 [aR o, aI p1, aI p2, aI (1 : Int32)] h5) (fun x8 h7 =>
            (pf h7 x8 17 13 (aI (1 : Int32))).bind (fun h9 =>
            (pf h9 o 16 6 (aI (1 : Int32))).bind (fun h10 =>
            cV (Ex 193 [aR o, aI p0, aR x8] h10) (fun h11 =>
            (gfI h11 x8 17 5).bind (fun x12 =>
            some (.inl (some (aI x12)), h11))) xT))) xT) xT
        else
          if (999 : Int32) < p2 then
            cI (Ex 189 [aR o, aI (0 : Int32), aI (2 : Int32)] h3) (fun x14 h13 =>
            if x14 = 0 then
              some (.inl (some (aI (0 : Int32))), h13)
            else
              cR (Ex 199 [aR o, aI p1, aI p2, aI (1 : Int32)] h13) (fun x16 h15 =>
              (pf h15 x16 17 13 (aI (1 : Int32))).bind (fun h17 =>
              (pf h17 o 16 6 (aI (1 : Int32))).bind (fun h18 =>
              cV (Ex 193 [aR o, aI p0, aR x16] h18) (fun h19 =>
              (gfI h19 x16 17 5).bind (fun x20 =>
              some (.inl (some (aI x20)), h19))) xT))) xT) xT
          else
            cI (Ex 189 [aR o, aI (1 : Int32), aI (2 : Int32)] h3) (fun x22 h21 =>
            if x22 = 0 then
              some (.inl (some (aI (0 : Int32))), h21)
            else
              cR (Ex 199 [aR o, aI p1, aI p2, aI (1 : Int32)] h21) (fun x24 h23 =>
              (pf h23 x24 17 13 (aI (1 : Int32))).bind (fun h25 =>
              (pf h25 o 16 6 (aI (1 : Int32))).bind (fun h26 =>
              cV (Ex 193 [aR o, aI p0, aR x24] h26) (fun h27 =>
              (gfI h27 x24 17 5).bind (fun x28 =>
              some (.inl (some (aI x28)), h27))) xT))) xT) xT) xT
    else
      cI (Ex 192 [aR o, aI p1] h1) (fun x30 h29 =>
      if x30 = 0 then
        cI (Ex 189 [aR o, aI (0 : Int32), aI (1 : Int32)] h29) (fun x32 h31 =>
        if x32 = 0 then
          some (.inl (some (aI (0 : Int32))), h31)
        else
          if p2 < 0 then
            cI (Ex 189 [aR o, aI (0 : Int32), aI (2 : Int32)] h31) (fun x34 h33 =>
            if x34 = 0 then
              some (.inl (some (aI (0 : Int32))), h33)
            else
              cR (Ex 199 [aR o, aI p1, aI p2, aI (1 : Int32)] h33) (fun x36 h35 =>
              (pf h35 x36 17 13 (aI (1 : Int32))).bind (fun h37 =>
              (pf h37 o 16 6 (aI (1 : Int32))).bind (fun h38 =>
              cV (Ex 193 [aR o, aI p0, aR x36] h38) (fun h39 =>
              (gfI h39 x36 17 5).bind (fun x40 =>
              some (.inl (some (aI x40)), h39))) xT))) xT) xT
          else
            if (999 : Int32) < p2 then
              cI (Ex 189 [aR o, aI (0 : Int32), aI (2 : Int32)] h31) (fun x42 h41 =>
              if x42 = 0 then
                some (.inl (some (aI (0 : Int32))), h41)
              else
                cR (Ex 199 [aR o, aI p1, aI p2, aI (1 : Int32)] h41) (fun x44 h43 =>
                (pf h43 x44 17 13 (aI (1 : Int32))).bind (fun h45 =>
                (pf h45 o 16 6 (aI (1 : Int32))).bind (fun h46 =>
                cV (Ex 193 [aR o, aI p0, aR x44] h46) (fun h47 =>
                (gfI h47 x44 17 5).bind (fun x48 =>
                some (.inl (some (aI x48)), h47))) xT))) xT) xT
            else
              cI (Ex 189 [aR o, aI (1 : Int32), aI (2 : Int32)] h31) (fun x50 h49 =>
              if x50 = 0 then
                some (.inl (some (aI (0 : Int32))), h49)
              else
                cR (Ex 199 [aR o, aI p1, aI p2, aI (1 : Int32)] h49) (fun x52 h51 =>
                (pf h51 x52 17 13 (aI (1 : Int32))).bind (fun h53 =>
                (pf h53 o 16 6 (aI (1 : Int32))).bind (fun h54 =>
                cV (Ex 193 [aR o, aI p0, aR x52] h54) (fun h55 =>
                (gfI h55 x52 17 5).bind (fun x56 =>
                some (.inl (some (aI x56)), h55))) xT))) xT) xT) xT
      else
        cI (Ex 189 [aR o, aI (1 : Int32), aI (1 : Int32)] h29) (fun x58 h57 =>
        if x58 = 0 then
          some (.inl (some (aI (0 : Int32))), h57)
        else
          if p2 < 0 then
            cI (Ex 189 [aR o, aI (0 : Int32), aI (2 : Int32)] h57) (fun x60 h59 =>
            if x60 = 0 then
              some (.inl (some (aI (0 : Int32))), h59)
            else
              cR (Ex 199 [aR o, aI p1, aI p2, aI (1 : Int32)] h59) (fun x62 h61 =>
              (pf h61 x62 17 13 (aI (1 : Int32))).bind (fun h63 =>
              (pf h63 o 16 6 (aI (1 : Int32))).bind (fun h64 =>
              cV (Ex 193 [aR o, aI p0, aR x62] h64) (fun h65 =>
              (gfI h65 x62 17 5).bind (fun x66 =>
              some (.inl (some (aI x66)), h65))) xT))) xT) xT
          else
            if (999 : Int32) < p2 then
              cI (Ex 189 [aR o, aI (0 : Int32), aI (2 : Int32)] h57) (fun x68 h67 =>
              if x68 = 0 then
                some (.inl (some (aI (0 : Int32))), h67)
              else
                cR (Ex 199 [aR o, aI p1, aI p2, aI (1 : Int32)] h67) (fun x70 h69 =>
                (pf h69 x70 17 13 (aI (1 : Int32))).bind (fun h71 =>
                (pf h71 o 16 6 (aI (1 : Int32))).bind (fun h72 =>
                cV (Ex 193 [aR o, aI p0, aR x70] h72) (fun h73 =>
                (gfI h73 x70 17 5).bind (fun x74 =>
                some (.inl (some (aI x74)), h73))) xT))) xT) xT
            else
              cI (Ex 189 [aR o, aI (1 : Int32), aI (2 : Int32)] h57) (fun x76 h75 =>
              if x76 = 0 then
                some (.inl (some (aI (0 : Int32))), h75)
              else
                cR (Ex 199 [aR o, aI p1, aI p2, aI (1 : Int32)] h75) (fun x78 h77 =>
                (pf h77 x78 17 13 (aI (1 : Int32))).bind (fun h79 =>
                (pf h79 o 16 6 (aI (1 : Int32))).bind (fun h80 =>
                cV (Ex 193 [aR o, aI p0, aR x78] h80) (fun h81 =>
                (gfI h81 x78 17 5).bind (fun x82 =>
                some (.inl (some (aI x82)), h81))) xT))) xT) xT) xT) xT) xT :=
  lift_of (k := 45) (rows := code_202) (cuts := cut_202) (hs := hdl_202) (r := fun R E =>
    cI (E 191 [aR o, aI p0] h) (fun x2 h1 =>
    if x2 = 0 then
      cI (E 189 [aR o, aI (0 : Int32), aI (1 : Int32)] h1) (fun x4 h3 =>
      if x4 = 0 then
        some (.inl (some (aI (0 : Int32))), h3)
      else
        if p2 < 0 then
          cI (E 189 [aR o, aI (0 : Int32), aI (2 : Int32)] h3) (fun x6 h5 =>
          if x6 = 0 then
            some (.inl (some (aI (0 : Int32))), h5)
          else
            cR (E 199 [aR o, aI p1, aI p2, aI (1 : Int32)] h5) (fun x8 h7 =>
            (pf h7 x8 17 13 (aI (1 : Int32))).bind (fun h9 =>
            (pf h9 o 16 6 (aI (1 : Int32))).bind (fun h10 =>
            cV (E 193 [aR o, aI p0, aR x8] h10) (fun h11 =>
            (gfI h11 x8 17 5).bind (fun x12 =>
            some (.inl (some (aI x12)), h11))) xT))) xT) xT
        else
          if (999 : Int32) < p2 then
            cI (E 189 [aR o, aI (0 : Int32), aI (2 : Int32)] h3) (fun x14 h13 =>
            if x14 = 0 then
              some (.inl (some (aI (0 : Int32))), h13)
            else
              cR (E 199 [aR o, aI p1, aI p2, aI (1 : Int32)] h13) (fun x16 h15 =>
              (pf h15 x16 17 13 (aI (1 : Int32))).bind (fun h17 =>
              (pf h17 o 16 6 (aI (1 : Int32))).bind (fun h18 =>
              cV (E 193 [aR o, aI p0, aR x16] h18) (fun h19 =>
              (gfI h19 x16 17 5).bind (fun x20 =>
              some (.inl (some (aI x20)), h19))) xT))) xT) xT
          else
            cI (E 189 [aR o, aI (1 : Int32), aI (2 : Int32)] h3) (fun x22 h21 =>
            if x22 = 0 then
              some (.inl (some (aI (0 : Int32))), h21)
            else
              cR (E 199 [aR o, aI p1, aI p2, aI (1 : Int32)] h21) (fun x24 h23 =>
              (pf h23 x24 17 13 (aI (1 : Int32))).bind (fun h25 =>
              (pf h25 o 16 6 (aI (1 : Int32))).bind (fun h26 =>
              cV (E 193 [aR o, aI p0, aR x24] h26) (fun h27 =>
              (gfI h27 x24 17 5).bind (fun x28 =>
              some (.inl (some (aI x28)), h27))) xT))) xT) xT) xT
    else
      cI (E 192 [aR o, aI p1] h1) (fun x30 h29 =>
      if x30 = 0 then
        cI (E 189 [aR o, aI (0 : Int32), aI (1 : Int32)] h29) (fun x32 h31 =>
        if x32 = 0 then
          some (.inl (some (aI (0 : Int32))), h31)
        else
          if p2 < 0 then
            cI (E 189 [aR o, aI (0 : Int32), aI (2 : Int32)] h31) (fun x34 h33 =>
            if x34 = 0 then
              some (.inl (some (aI (0 : Int32))), h33)
            else
              cR (E 199 [aR o, aI p1, aI p2, aI (1 : Int32)] h33) (fun x36 h35 =>
              (pf h35 x36 17 13 (aI (1 : Int32))).bind (fun h37 =>
              (pf h37 o 16 6 (aI (1 : Int32))).bind (fun h38 =>
              cV (E 193 [aR o, aI p0, aR x36] h38) (fun h39 =>
              (gfI h39 x36 17 5).bind (fun x40 =>
              some (.inl (some (aI x40)), h39))) xT))) xT) xT
          else
            if (999 : Int32) < p2 then
              cI (E 189 [aR o, aI (0 : Int32), aI (2 : Int32)] h31) (fun x42 h41 =>
              if x42 = 0 then
                some (.inl (some (aI (0 : Int32))), h41)
              else
                cR (E 199 [aR o, aI p1, aI p2, aI (1 : Int32)] h41) (fun x44 h43 =>
                (pf h43 x44 17 13 (aI (1 : Int32))).bind (fun h45 =>
                (pf h45 o 16 6 (aI (1 : Int32))).bind (fun h46 =>
                cV (E 193 [aR o, aI p0, aR x44] h46) (fun h47 =>
                (gfI h47 x44 17 5).bind (fun x48 =>
                some (.inl (some (aI x48)), h47))) xT))) xT) xT
            else
              cI (E 189 [aR o, aI (1 : Int32), aI (2 : Int32)] h31) (fun x50 h49 =>
              if x50 = 0 then
                some (.inl (some (aI (0 : Int32))), h49)
              else
                cR (E 199 [aR o, aI p1, aI p2, aI (1 : Int32)] h49) (fun x52 h51 =>
                (pf h51 x52 17 13 (aI (1 : Int32))).bind (fun h53 =>
                (pf h53 o 16 6 (aI (1 : Int32))).bind (fun h54 =>
                cV (E 193 [aR o, aI p0, aR x52] h54) (fun h55 =>
                (gfI h55 x52 17 5).bind (fun x56 =>
                some (.inl (some (aI x56)), h55))) xT))) xT) xT) xT
      else
        cI (E 189 [aR o, aI (1 : Int32), aI (1 : Int32)] h29) (fun x58 h57 =>
        if x58 = 0 then
          some (.inl (some (aI (0 : Int32))), h57)
        else
          if p2 < 0 then
            cI (E 189 [aR o, aI (0 : Int32), aI (2 : Int32)] h57) (fun x60 h59 =>
            if x60 = 0 then
              some (.inl (some (aI (0 : Int32))), h59)
            else
              cR (E 199 [aR o, aI p1, aI p2, aI (1 : Int32)] h59) (fun x62 h61 =>
              (pf h61 x62 17 13 (aI (1 : Int32))).bind (fun h63 =>
              (pf h63 o 16 6 (aI (1 : Int32))).bind (fun h64 =>
              cV (E 193 [aR o, aI p0, aR x62] h64) (fun h65 =>
              (gfI h65 x62 17 5).bind (fun x66 =>
              some (.inl (some (aI x66)), h65))) xT))) xT) xT
          else
            if (999 : Int32) < p2 then
              cI (E 189 [aR o, aI (0 : Int32), aI (2 : Int32)] h57) (fun x68 h67 =>
              if x68 = 0 then
                some (.inl (some (aI (0 : Int32))), h67)
              else
                cR (E 199 [aR o, aI p1, aI p2, aI (1 : Int32)] h67) (fun x70 h69 =>
                (pf h69 x70 17 13 (aI (1 : Int32))).bind (fun h71 =>
                (pf h71 o 16 6 (aI (1 : Int32))).bind (fun h72 =>
                cV (E 193 [aR o, aI p0, aR x70] h72) (fun h73 =>
                (gfI h73 x70 17 5).bind (fun x74 =>
                some (.inl (some (aI x74)), h73))) xT))) xT) xT
            else
              cI (E 189 [aR o, aI (1 : Int32), aI (2 : Int32)] h57) (fun x76 h75 =>
              if x76 = 0 then
                some (.inl (some (aI (0 : Int32))), h75)
              else
                cR (E 199 [aR o, aI p1, aI p2, aI (1 : Int32)] h75) (fun x78 h77 =>
                (pf h77 x78 17 13 (aI (1 : Int32))).bind (fun h79 =>
                (pf h79 o 16 6 (aI (1 : Int32))).bind (fun h80 =>
                cV (E 193 [aR o, aI p0, aR x78] h80) (fun h81 =>
                (gfI h81 x78 17 5).bind (fun x82 =>
                some (.inl (some (aI x82)), h81))) xT))) xT) xT) xT) xT) xT) rfl rfl rfl (fun R E => rfl)
-- ChipcardhouseModel$Lines.faults(IIII)I
set_option maxRecDepth 100000 in
theorem lf_203_0 (o : Option (Nat × Nat)) (p0 : Int32) (p1 : Int32) (p2 : Int32) (p3 : Int32) (h : Hp) : Ru 203 0 [(0, aR o), (1, aI p0), (2, aI p1), (3, aI p2), (4, aI p3)] [] h =
    cI (Ex 191 [aR o, aI p0] h) (fun x2 h1 =>
    cI (Ex 189 [aR o, aI x2, aI (1 : Int32)] h1) (fun x4 h3 =>
    if x4 = 0 then
      some (.inl (some (aI (0 : Int32))), h3)
    else
      if p1 < 0 then
        cI (Ex 189 [aR o, aI (0 : Int32), aI (2 : Int32)] h3) (fun x6 h5 =>
        if x6 = 0 then
          some (.inl (some (aI (0 : Int32))), h5)
        else
          (gfR h5 o 16 10).bind (fun x7 =>
          (gaR h5 x7 (((2 : Int32) * p0) + p1)).bind (fun x8 =>
          (gfR h5 x8 13 0).bind (fun x9 =>
          (gaI h5 x9 1000 p2).bind (fun x10 =>
          (pa h5 x9 1000 p2 (aI (x10 + p3))).bind (fun h11 =>
          (gaI h11 x9 1000 p2).bind (fun x12 =>
          some (.inl (some (aI x12)), h11)))))))) xT
      else
        if (1 : Int32) < p1 then
          cI (Ex 189 [aR o, aI (0 : Int32), aI (2 : Int32)] h3) (fun x14 h13 =>
          if x14 = 0 then
            some (.inl (some (aI (0 : Int32))), h13)
          else
            (gfR h13 o 16 10).bind (fun x15 =>
            (gaR h13 x15 (((2 : Int32) * p0) + p1)).bind (fun x16 =>
            (gfR h13 x16 13 0).bind (fun x17 =>
            (gaI h13 x17 1000 p2).bind (fun x18 =>
            (pa h13 x17 1000 p2 (aI (x18 + p3))).bind (fun h19 =>
            (gaI h19 x17 1000 p2).bind (fun x20 =>
            some (.inl (some (aI x20)), h19)))))))) xT
        else
          if p2 < 0 then
            cI (Ex 189 [aR o, aI (0 : Int32), aI (2 : Int32)] h3) (fun x22 h21 =>
            if x22 = 0 then
              some (.inl (some (aI (0 : Int32))), h21)
            else
              (gfR h21 o 16 10).bind (fun x23 =>
              (gaR h21 x23 (((2 : Int32) * p0) + p1)).bind (fun x24 =>
              (gfR h21 x24 13 0).bind (fun x25 =>
              (gaI h21 x25 1000 p2).bind (fun x26 =>
              (pa h21 x25 1000 p2 (aI (x26 + p3))).bind (fun h27 =>
              (gaI h27 x25 1000 p2).bind (fun x28 =>
              some (.inl (some (aI x28)), h27)))))))) xT
          else
            if (2 : Int32) < p2 then
              cI (Ex 189 [aR o, aI (0 : Int32), aI (2 : Int32)] h3) (fun x30 h29 =>
              if x30 = 0 then
                some (.inl (some (aI (0 : Int32))), h29)
              else
                (gfR h29 o 16 10).bind (fun x31 =>
                (gaR h29 x31 (((2 : Int32) * p0) + p1)).bind (fun x32 =>
                (gfR h29 x32 13 0).bind (fun x33 =>
                (gaI h29 x33 1000 p2).bind (fun x34 =>
                (pa h29 x33 1000 p2 (aI (x34 + p3))).bind (fun h35 =>
                (gaI h35 x33 1000 p2).bind (fun x36 =>
                some (.inl (some (aI x36)), h35)))))))) xT
            else
              if p3 < 0 then
                cI (Ex 189 [aR o, aI (0 : Int32), aI (2 : Int32)] h3) (fun x38 h37 =>
                if x38 = 0 then
                  some (.inl (some (aI (0 : Int32))), h37)
                else
                  (gfR h37 o 16 10).bind (fun x39 =>
                  (gaR h37 x39 (((2 : Int32) * p0) + p1)).bind (fun x40 =>
                  (gfR h37 x40 13 0).bind (fun x41 =>
                  (gaI h37 x41 1000 p2).bind (fun x42 =>
                  (pa h37 x41 1000 p2 (aI (x42 + p3))).bind (fun h43 =>
                  (gaI h43 x41 1000 p2).bind (fun x44 =>
                  some (.inl (some (aI x44)), h43)))))))) xT
              else
                if (100 : Int32) < p3 then
                  cI (Ex 189 [aR o, aI (0 : Int32), aI (2 : Int32)] h3) (fun x46 h45 =>
                  if x46 = 0 then
                    some (.inl (some (aI (0 : Int32))), h45)
                  else
                    (gfR h45 o 16 10).bind (fun x47 =>
                    (gaR h45 x47 (((2 : Int32) * p0) + p1)).bind (fun x48 =>
                    (gfR h45 x48 13 0).bind (fun x49 =>
                    (gaI h45 x49 1000 p2).bind (fun x50 =>
                    (pa h45 x49 1000 p2 (aI (x50 + p3))).bind (fun h51 =>
                    (gaI h51 x49 1000 p2).bind (fun x52 =>
                    some (.inl (some (aI x52)), h51)))))))) xT
                else
                  cI (Ex 189 [aR o, aI (1 : Int32), aI (2 : Int32)] h3) (fun x54 h53 =>
                  if x54 = 0 then
                    some (.inl (some (aI (0 : Int32))), h53)
                  else
                    (gfR h53 o 16 10).bind (fun x55 =>
                    (gaR h53 x55 (((2 : Int32) * p0) + p1)).bind (fun x56 =>
                    (gfR h53 x56 13 0).bind (fun x57 =>
                    (gaI h53 x57 1000 p2).bind (fun x58 =>
                    (pa h53 x57 1000 p2 (aI (x58 + p3))).bind (fun h59 =>
                    (gaI h59 x57 1000 p2).bind (fun x60 =>
                    some (.inl (some (aI x60)), h59)))))))) xT) xT) xT :=
  lift_of (k := 50) (rows := code_203) (cuts := cut_203) (hs := hdl_203) (r := fun R E =>
    cI (E 191 [aR o, aI p0] h) (fun x2 h1 =>
    cI (E 189 [aR o, aI x2, aI (1 : Int32)] h1) (fun x4 h3 =>
    if x4 = 0 then
      some (.inl (some (aI (0 : Int32))), h3)
    else
      if p1 < 0 then
        cI (E 189 [aR o, aI (0 : Int32), aI (2 : Int32)] h3) (fun x6 h5 =>
        if x6 = 0 then
          some (.inl (some (aI (0 : Int32))), h5)
        else
          (gfR h5 o 16 10).bind (fun x7 =>
          (gaR h5 x7 (((2 : Int32) * p0) + p1)).bind (fun x8 =>
          (gfR h5 x8 13 0).bind (fun x9 =>
          (gaI h5 x9 1000 p2).bind (fun x10 =>
          (pa h5 x9 1000 p2 (aI (x10 + p3))).bind (fun h11 =>
          (gaI h11 x9 1000 p2).bind (fun x12 =>
          some (.inl (some (aI x12)), h11)))))))) xT
      else
        if (1 : Int32) < p1 then
          cI (E 189 [aR o, aI (0 : Int32), aI (2 : Int32)] h3) (fun x14 h13 =>
          if x14 = 0 then
            some (.inl (some (aI (0 : Int32))), h13)
          else
            (gfR h13 o 16 10).bind (fun x15 =>
            (gaR h13 x15 (((2 : Int32) * p0) + p1)).bind (fun x16 =>
            (gfR h13 x16 13 0).bind (fun x17 =>
            (gaI h13 x17 1000 p2).bind (fun x18 =>
            (pa h13 x17 1000 p2 (aI (x18 + p3))).bind (fun h19 =>
            (gaI h19 x17 1000 p2).bind (fun x20 =>
            some (.inl (some (aI x20)), h19)))))))) xT
        else
          if p2 < 0 then
            cI (E 189 [aR o, aI (0 : Int32), aI (2 : Int32)] h3) (fun x22 h21 =>
            if x22 = 0 then
              some (.inl (some (aI (0 : Int32))), h21)
            else
              (gfR h21 o 16 10).bind (fun x23 =>
              (gaR h21 x23 (((2 : Int32) * p0) + p1)).bind (fun x24 =>
              (gfR h21 x24 13 0).bind (fun x25 =>
              (gaI h21 x25 1000 p2).bind (fun x26 =>
              (pa h21 x25 1000 p2 (aI (x26 + p3))).bind (fun h27 =>
              (gaI h27 x25 1000 p2).bind (fun x28 =>
              some (.inl (some (aI x28)), h27)))))))) xT
          else
            if (2 : Int32) < p2 then
              cI (E 189 [aR o, aI (0 : Int32), aI (2 : Int32)] h3) (fun x30 h29 =>
              if x30 = 0 then
                some (.inl (some (aI (0 : Int32))), h29)
              else
                (gfR h29 o 16 10).bind (fun x31 =>
                (gaR h29 x31 (((2 : Int32) * p0) + p1)).bind (fun x32 =>
                (gfR h29 x32 13 0).bind (fun x33 =>
                (gaI h29 x33 1000 p2).bind (fun x34 =>
                (pa h29 x33 1000 p2 (aI (x34 + p3))).bind (fun h35 =>
                (gaI h35 x33 1000 p2).bind (fun x36 =>
                some (.inl (some (aI x36)), h35)))))))) xT
            else
              if p3 < 0 then
                cI (E 189 [aR o, aI (0 : Int32), aI (2 : Int32)] h3) (fun x38 h37 =>
                if x38 = 0 then
                  some (.inl (some (aI (0 : Int32))), h37)
                else
                  (gfR h37 o 16 10).bind (fun x39 =>
                  (gaR h37 x39 (((2 : Int32) * p0) + p1)).bind (fun x40 =>
                  (gfR h37 x40 13 0).bind (fun x41 =>
                  (gaI h37 x41 1000 p2).bind (fun x42 =>
                  (pa h37 x41 1000 p2 (aI (x42 + p3))).bind (fun h43 =>
                  (gaI h43 x41 1000 p2).bind (fun x44 =>
                  some (.inl (some (aI x44)), h43)))))))) xT
              else
                if (100 : Int32) < p3 then
                  cI (E 189 [aR o, aI (0 : Int32), aI (2 : Int32)] h3) (fun x46 h45 =>
                  if x46 = 0 then
                    some (.inl (some (aI (0 : Int32))), h45)
                  else
                    (gfR h45 o 16 10).bind (fun x47 =>
                    (gaR h45 x47 (((2 : Int32) * p0) + p1)).bind (fun x48 =>
                    (gfR h45 x48 13 0).bind (fun x49 =>
                    (gaI h45 x49 1000 p2).bind (fun x50 =>
                    (pa h45 x49 1000 p2 (aI (x50 + p3))).bind (fun h51 =>
                    (gaI h51 x49 1000 p2).bind (fun x52 =>
                    some (.inl (some (aI x52)), h51)))))))) xT
                else
                  cI (E 189 [aR o, aI (1 : Int32), aI (2 : Int32)] h3) (fun x54 h53 =>
                  if x54 = 0 then
                    some (.inl (some (aI (0 : Int32))), h53)
                  else
                    (gfR h53 o 16 10).bind (fun x55 =>
                    (gaR h53 x55 (((2 : Int32) * p0) + p1)).bind (fun x56 =>
                    (gfR h53 x56 13 0).bind (fun x57 =>
                    (gaI h53 x57 1000 p2).bind (fun x58 =>
                    (pa h53 x57 1000 p2 (aI (x58 + p3))).bind (fun h59 =>
                    (gaI h59 x57 1000 p2).bind (fun x60 =>
                    some (.inl (some (aI x60)), h59)))))))) xT) xT) xT) rfl rfl rfl (fun R E => rfl)
-- ChipcardhouseModel$Lines.setOpen(Z)I
set_option maxRecDepth 100000 in
theorem lf_204_0 (o : Option (Nat × Nat)) (p0 : Int32) (h : Hp) : Ru 204 0 [(0, aR o), (1, aI p0)] [] h =
    (pf h o 16 0 (aI (0 : Int32))).bind (fun h1 =>
    if p0 = 0 then
      Ru 204 27 [(0, aR o), (1, aI p0), (2, aI (0 : Int32)), (3, aI (0 : Int32))] [] h1
    else
      (gfI h1 o 16 5).bind (fun x2 =>
      if x2 = 0 then
        (gfI h1 o 16 4).bind (fun x3 =>
        Ru 204 27 [(0, aR o), (1, aI p0), (2, aI x3), (3, aI (0 : Int32))] [] h1)
      else
        Ru 204 27 [(0, aR o), (1, aI p0), (2, aI (0 : Int32)), (3, aI (0 : Int32))] [] h1)) :=
  lift_of (k := 15) (rows := code_204) (cuts := cut_204) (hs := hdl_204) (r := fun R E =>
    (pf h o 16 0 (aI (0 : Int32))).bind (fun h1 =>
    if p0 = 0 then
      R 27 [(0, aR o), (1, aI p0), (2, aI (0 : Int32)), (3, aI (0 : Int32))] [] h1
    else
      (gfI h1 o 16 5).bind (fun x2 =>
      if x2 = 0 then
        (gfI h1 o 16 4).bind (fun x3 =>
        R 27 [(0, aR o), (1, aI p0), (2, aI x3), (3, aI (0 : Int32))] [] h1)
      else
        R 27 [(0, aR o), (1, aI p0), (2, aI (0 : Int32)), (3, aI (0 : Int32))] [] h1))) rfl rfl rfl (fun R E => rfl)
set_option maxRecDepth 100000 in
theorem lf_204_27 (o : Option (Nat × Nat)) (v1 : Int32) (v2 : Int32) (v3 : Int32) (h : Hp) : Ru 204 27 [(0, aR o), (1, aI v1), (2, aI v2), (3, aI v3)] [] h =
    if v2 ≤ v3 then
      (gfI h o 16 5).bind (fun x1 =>
      if v1 = x1 then
        gz v1 ((pf h o 16 5 (aI v1)).bind (fun h2 =>
        some (.inl (some (aI v2)), h2)))
      else
        (pf h o 16 4 (aI (0 : Int32))).bind (fun h3 =>
        Ru 204 99 [(0, aR o), (1, aI v1), (2, aI v2), (3, aI (0 : Int32))] [] h3))
    else
      (gfR h o 16 16).bind (fun x4 =>
      (gaR h x4 v3).bind (fun x5 =>
      (gfR h o 16 8).bind (fun x6 =>
      (gfR h o 16 17).bind (fun x7 =>
      (gaI h x7 1000 v3).bind (fun x8 =>
      (gfI h x5 17 1).bind (fun x9 =>
      (gfI h x5 17 2).bind (fun x10 =>
      (gfI h x5 17 3).bind (fun x11 =>
      (gfI h x5 17 4).bind (fun x12 =>
      (gfI h x5 17 5).bind (fun x13 =>
      cV (Ex 169 [aR x6, aI x8, aI x9, aI x10, aI x11, aI x12, aI x13] h) (fun h14 =>
      Ru 204 27 [(0, aR o), (1, aI v1), (2, aI v2), (3, aI (v3 + (1 : Int32)))] [] h14) xT)))))))))) :=
  lift_of (k := 28) (rows := code_204) (cuts := cut_204) (hs := hdl_204) (r := fun R E =>
    if v2 ≤ v3 then
      (gfI h o 16 5).bind (fun x1 =>
      if v1 = x1 then
        gz v1 ((pf h o 16 5 (aI v1)).bind (fun h2 =>
        some (.inl (some (aI v2)), h2)))
      else
        (pf h o 16 4 (aI (0 : Int32))).bind (fun h3 =>
        R 99 [(0, aR o), (1, aI v1), (2, aI v2), (3, aI (0 : Int32))] [] h3))
    else
      (gfR h o 16 16).bind (fun x4 =>
      (gaR h x4 v3).bind (fun x5 =>
      (gfR h o 16 8).bind (fun x6 =>
      (gfR h o 16 17).bind (fun x7 =>
      (gaI h x7 1000 v3).bind (fun x8 =>
      (gfI h x5 17 1).bind (fun x9 =>
      (gfI h x5 17 2).bind (fun x10 =>
      (gfI h x5 17 3).bind (fun x11 =>
      (gfI h x5 17 4).bind (fun x12 =>
      (gfI h x5 17 5).bind (fun x13 =>
      cV (E 169 [aR x6, aI x8, aI x9, aI x10, aI x11, aI x12, aI x13] h) (fun h14 =>
      R 27 [(0, aR o), (1, aI v1), (2, aI v2), (3, aI (v3 + (1 : Int32)))] [] h14) xT))))))))))) rfl rfl rfl (fun R E => rfl)
set_option maxRecDepth 100000 in
theorem lf_204_99 (o : Option (Nat × Nat)) (v1 : Int32) (v2 : Int32) (v3 : Int32) (h : Hp) : Ru 204 99 [(0, aR o), (1, aI v1), (2, aI v2), (3, aI v3)] [] h =
    if (8 : Int32) ≤ v3 then
      gz v1 ((pf h o 16 5 (aI v1)).bind (fun h1 =>
      some (.inl (some (aI v2)), h1)))
    else
      (gfR h o 16 18).bind (fun x2 =>
      (pa h x2 1000 v3 (aI (0 : Int32))).bind (fun h3 =>
      Ru 204 99 [(0, aR o), (1, aI v1), (2, aI v2), (3, aI (v3 + (1 : Int32)))] [] h3)) :=
  lift_of (k := 11) (rows := code_204) (cuts := cut_204) (hs := hdl_204) (r := fun R E =>
    if (8 : Int32) ≤ v3 then
      gz v1 ((pf h o 16 5 (aI v1)).bind (fun h1 =>
      some (.inl (some (aI v2)), h1)))
    else
      (gfR h o 16 18).bind (fun x2 =>
      (pa h x2 1000 v3 (aI (0 : Int32))).bind (fun h3 =>
      R 99 [(0, aR o), (1, aI v1), (2, aI v2), (3, aI (v3 + (1 : Int32)))] [] h3))) rfl rfl rfl (fun R E => rfl)
-- ChipcardhouseModel$Lines.comes()V
set_option maxRecDepth 100000 in
theorem lf_205_0 (o : Option (Nat × Nat)) (h : Hp) : Ru 205 0 [(0, aR o)] [] h =
    Ru 205 2 [(0, aR o), (1, aI (0 : Int32))] [] h :=
  lift_of (k := 3) (rows := code_205) (cuts := cut_205) (hs := hdl_205) (r := fun R E =>
    R 2 [(0, aR o), (1, aI (0 : Int32))] [] h) rfl rfl rfl (fun R E => rfl)
set_option maxRecDepth 100000 in
theorem lf_205_2 (o : Option (Nat × Nat)) (v1 : Int32) (h : Hp) : Ru 205 2 [(0, aR o), (1, aI v1)] [] h =
    (gfI h o 16 9).bind (fun x1 =>
    if x1 ≤ v1 then
      some (.inl none, h)
    else
      (gfR h o 16 10).bind (fun x2 =>
      (gaR h x2 ((2 : Int32) * v1)).bind (fun x3 =>
      (gfI h o 16 1).bind (fun x4 =>
      cR (Ex 156 [aR x3, aI x4] h) (fun x6 h5 =>
      Ru 205 26 [(0, aR o), (1, aI v1), (2, aR x6)] [] h5) xT)))) :=
  lift_of (k := 15) (rows := code_205) (cuts := cut_205) (hs := hdl_205) (r := fun R E =>
    (gfI h o 16 9).bind (fun x1 =>
    if x1 ≤ v1 then
      some (.inl none, h)
    else
      (gfR h o 16 10).bind (fun x2 =>
      (gaR h x2 ((2 : Int32) * v1)).bind (fun x3 =>
      (gfI h o 16 1).bind (fun x4 =>
      cR (E 156 [aR x3, aI x4] h) (fun x6 h5 =>
      R 26 [(0, aR o), (1, aI v1), (2, aR x6)] [] h5) xT))))) rfl rfl rfl (fun R E => rfl)
set_option maxRecDepth 100000 in
theorem lf_205_26 (o : Option (Nat × Nat)) (v1 : Int32) (v2 : Option (Nat × Nat)) (h : Hp) : Ru 205 26 [(0, aR o), (1, aI v1), (2, aR v2)] [] h =
    if v2 = none then
      (gfR h o 16 10).bind (fun x1 =>
      (gaR h x1 (((2 : Int32) * v1) + (1 : Int32))).bind (fun x2 =>
      (gfI h o 16 1).bind (fun x3 =>
      cR (Ex 156 [aR x2, aI x3] h) (fun x5 h4 =>
      Ru 205 73 [(0, aR o), (1, aI v1), (2, aR x5)] [] h4) xT)))
    else
      cV (Ex 206 [aR o, aI v1, aR v2] h) (fun h6 =>
      (gfR h6 o 16 10).bind (fun x7 =>
      (gaR h6 x7 ((2 : Int32) * v1)).bind (fun x8 =>
      (gfI h6 o 16 1).bind (fun x9 =>
      cR (Ex 156 [aR x8, aI x9] h6) (fun x11 h10 =>
      Ru 205 26 [(0, aR o), (1, aI v1), (2, aR x11)] [] h10) xT)))) xT :=
  lift_of (k := 18) (rows := code_205) (cuts := cut_205) (hs := hdl_205) (r := fun R E =>
    if v2 = none then
      (gfR h o 16 10).bind (fun x1 =>
      (gaR h x1 (((2 : Int32) * v1) + (1 : Int32))).bind (fun x2 =>
      (gfI h o 16 1).bind (fun x3 =>
      cR (E 156 [aR x2, aI x3] h) (fun x5 h4 =>
      R 73 [(0, aR o), (1, aI v1), (2, aR x5)] [] h4) xT)))
    else
      cV (E 206 [aR o, aI v1, aR v2] h) (fun h6 =>
      (gfR h6 o 16 10).bind (fun x7 =>
      (gaR h6 x7 ((2 : Int32) * v1)).bind (fun x8 =>
      (gfI h6 o 16 1).bind (fun x9 =>
      cR (E 156 [aR x8, aI x9] h6) (fun x11 h10 =>
      R 26 [(0, aR o), (1, aI v1), (2, aR x11)] [] h10) xT)))) xT) rfl rfl rfl (fun R E => rfl)
set_option maxRecDepth 100000 in
theorem lf_205_73 (o : Option (Nat × Nat)) (v1 : Int32) (v2 : Option (Nat × Nat)) (h : Hp) : Ru 205 73 [(0, aR o), (1, aI v1), (2, aR v2)] [] h =
    if v2 = none then
      Ru 205 2 [(0, aR o), (1, aI (v1 + (1 : Int32)))] [] h
    else
      cV (Ex 209 [aR o, aI v1, aR v2] h) (fun h1 =>
      (gfR h1 o 16 10).bind (fun x2 =>
      (gaR h1 x2 (((2 : Int32) * v1) + (1 : Int32))).bind (fun x3 =>
      (gfI h1 o 16 1).bind (fun x4 =>
      cR (Ex 156 [aR x3, aI x4] h1) (fun x6 h5 =>
      Ru 205 73 [(0, aR o), (1, aI v1), (2, aR x6)] [] h5) xT)))) xT :=
  lift_of (k := 20) (rows := code_205) (cuts := cut_205) (hs := hdl_205) (r := fun R E =>
    if v2 = none then
      R 2 [(0, aR o), (1, aI (v1 + (1 : Int32)))] [] h
    else
      cV (E 209 [aR o, aI v1, aR v2] h) (fun h1 =>
      (gfR h1 o 16 10).bind (fun x2 =>
      (gaR h1 x2 (((2 : Int32) * v1) + (1 : Int32))).bind (fun x3 =>
      (gfI h1 o 16 1).bind (fun x4 =>
      cR (E 156 [aR x3, aI x4] h1) (fun x6 h5 =>
      R 73 [(0, aR o), (1, aI v1), (2, aR x6)] [] h5) xT)))) xT) rfl rfl rfl (fun R E => rfl)
-- ChipcardhouseModel$Lines.hears(ILChipcardhouseModel$Mail;)V
set_option maxRecDepth 100000 in
theorem lf_206_0 (o : Option (Nat × Nat)) (p0 : Int32) (p1 : Option (Nat × Nat)) (h : Hp) : Ru 206 0 [(0, aR o), (1, aI p0), (2, aR p1)] [] h =
    (gfI h o 16 5).bind (fun x1 =>
    if x1 = 0 then
      (gfI h p1 17 0).bind (fun x2 =>
      if x2 = 0 then
        cV (Ex 208 [aR o, aI p0, aR p1] h) (fun h3 =>
        some (.inl none, h3)) xT
      else
        some (.inl none, h))
    else
      (gfI h p1 17 0).bind (fun x4 =>
      if x4.toInt = 0 then
        (gfR h o 16 8).bind (fun x5 =>
        (gfI h p1 17 1).bind (fun x6 =>
        (gfI h p1 17 2).bind (fun x7 =>
        (gfI h p1 17 3).bind (fun x8 =>
        (gfI h p1 17 4).bind (fun x9 =>
        (gfI h p1 17 5).bind (fun x10 =>
        cV (Ex 167 [aR x5, aI p0, aI x6, aI x7, aI x8, aI x9, aI x10] h) (fun h11 =>
        (gfI (nob h11 79 17 [0, 0, 0, 0, 0, 0, 0, 0, 0, 0, 0, 0, 0, 0]).2 p1 17 1).bind (fun x12 =>
        cV (Ex 214 [aR (nob h11 79 17 [0, 0, 0, 0, 0, 0, 0, 0, 0, 0, 0, 0, 0, 0]).1, aI (4 : Int32), aI x12] (nob h11 79 17 [0, 0, 0, 0, 0, 0, 0, 0, 0, 0, 0, 0, 0, 0]).2) (fun h13 =>
        (pf h13 (nob h11 79 17 [0, 0, 0, 0, 0, 0, 0, 0, 0, 0, 0, 0, 0, 0]).1 17 12 (aI (1 : Int32))).bind (fun h14 =>
        (gfR h14 o 16 8).bind (fun x15 =>
        (gfI h14 x15 14 14).bind (fun x16 =>
        gz x16 ((pf h14 (nob h11 79 17 [0, 0, 0, 0, 0, 0, 0, 0, 0, 0, 0, 0, 0, 0]).1 17 11 (aI x16)).bind (fun h17 =>
        (gfR h17 o 16 8).bind (fun x18 =>
        (gfI h17 x18 14 15).bind (fun x19 =>
        (pf h17 (nob h11 79 17 [0, 0, 0, 0, 0, 0, 0, 0, 0, 0, 0, 0, 0, 0]).1 17 9 (aI x19)).bind (fun h20 =>
        (gfR h20 o 16 8).bind (fun x21 =>
        (gfI h20 x21 14 16).bind (fun x22 =>
        (pf h20 (nob h11 79 17 [0, 0, 0, 0, 0, 0, 0, 0, 0, 0, 0, 0, 0, 0]).1 17 5 (aI x22)).bind (fun h23 =>
        (gfR h23 o 16 8).bind (fun x24 =>
        (gfI h23 x24 14 17).bind (fun x25 =>
        (pf h23 (nob h11 79 17 [0, 0, 0, 0, 0, 0, 0, 0, 0, 0, 0, 0, 0, 0]).1 17 10 (aI x25)).bind (fun h26 =>
        cV (Ex 194 [aR o, aI p0, aR (nob h11 79 17 [0, 0, 0, 0, 0, 0, 0, 0, 0, 0, 0, 0, 0, 0]).1] h26) (fun h27 =>
        some (.inl none, h27)) xT))))))))))))))) xT)) xT))))))
      else if x4.toInt = 1 then
        (gfR h o 16 8).bind (fun x28 =>
        (gfI h p1 17 1).bind (fun x29 =>
        cV (Ex 170 [aR x28, aI x29] h) (fun h30 =>
        (gfI (nob h30 80 17 [0, 0, 0, 0, 0, 0, 0, 0, 0, 0, 0, 0, 0, 0]).2 p1 17 1).bind (fun x31 =>
        cV (Ex 214 [aR (nob h30 80 17 [0, 0, 0, 0, 0, 0, 0, 0, 0, 0, 0, 0, 0, 0]).1, aI (5 : Int32), aI x31] (nob h30 80 17 [0, 0, 0, 0, 0, 0, 0, 0, 0, 0, 0, 0, 0, 0]).2) (fun h32 =>
        (gfI h32 p1 17 0).bind (fun x33 =>
        (pf h32 (nob h30 80 17 [0, 0, 0, 0, 0, 0, 0, 0, 0, 0, 0, 0, 0, 0]).1 17 8 (aI x33)).bind (fun h34 =>
        (gfI h34 p1 17 7).bind (fun x35 =>
        (pf h34 (nob h30 80 17 [0, 0, 0, 0, 0, 0, 0, 0, 0, 0, 0, 0, 0, 0]).1 17 7 (aI x35)).bind (fun h36 =>
        (gfI h36 p1 17 13).bind (fun x37 =>
        gz x37 ((pf h36 (nob h30 80 17 [0, 0, 0, 0, 0, 0, 0, 0, 0, 0, 0, 0, 0, 0]).1 17 13 (aI x37)).bind (fun h38 =>
        cV (Ex 194 [aR o, aI p0, aR (nob h30 80 17 [0, 0, 0, 0, 0, 0, 0, 0, 0, 0, 0, 0, 0, 0]).1] h38) (fun h39 =>
        some (.inl none, h39)) xT)))))))) xT)) xT))
      else if x4.toInt = 2 then
        (gfR h o 16 8).bind (fun x40 =>
        (gfI h p1 17 1).bind (fun x41 =>
        (gfI h p1 17 2).bind (fun x42 =>
        (gfI h p1 17 3).bind (fun x43 =>
        (gfI h p1 17 4).bind (fun x44 =>
        (gfI h p1 17 5).bind (fun x45 =>
        (gfI h p1 17 6).bind (fun x46 =>
        cV (Ex 171 [aR x40, aI p0, aI x41, aI x42, aI x43, aI x44, aI x45, aI x46] h) (fun h47 =>
        (gfI (nob h47 80 17 [0, 0, 0, 0, 0, 0, 0, 0, 0, 0, 0, 0, 0, 0]).2 p1 17 1).bind (fun x48 =>
        cV (Ex 214 [aR (nob h47 80 17 [0, 0, 0, 0, 0, 0, 0, 0, 0, 0, 0, 0, 0, 0]).1, aI (5 : Int32), aI x48] (nob h47 80 17 [0, 0, 0, 0, 0, 0, 0, 0, 0, 0, 0, 0, 0, 0]).2) (fun h49 =>
        (gfI h49 p1 17 0).bind (fun x50 =>
        (pf h49 (nob h47 80 17 [0, 0, 0, 0, 0, 0, 0, 0, 0, 0, 0, 0, 0, 0]).1 17 8 (aI x50)).bind (fun h51 =>
        (gfI h51 p1 17 7).bind (fun x52 =>
        (pf h51 (nob h47 80 17 [0, 0, 0, 0, 0, 0, 0, 0, 0, 0, 0, 0, 0, 0]).1 17 7 (aI x52)).bind (fun h53 =>
        (gfI h53 p1 17 13).bind (fun x54 =>
        gz x54 ((pf h53 (nob h47 80 17 [0, 0, 0, 0, 0, 0, 0, 0, 0, 0, 0, 0, 0, 0]).1 17 13 (aI x54)).bind (fun h55 =>
        cV (Ex 194 [aR o, aI p0, aR (nob h47 80 17 [0, 0, 0, 0, 0, 0, 0, 0, 0, 0, 0, 0, 0, 0]).1] h55) (fun h56 =>
        some (.inl none, h56)) xT)))))))) xT)) xT)))))))
      else (gfR h o 16 8).bind (fun x57 =>
        (gfI h p1 17 7).bind (fun x58 =>
        (gfI h p1 17 1).bind (fun x59 =>
        (gfI h p1 17 4).bind (fun x60 =>
        cV (Ex 174 [aR x57, aI p0, aI x58, aI x59, aI x60] h) (fun h61 =>
        (gfI (nob h61 80 17 [0, 0, 0, 0, 0, 0, 0, 0, 0, 0, 0, 0, 0, 0]).2 p1 17 1).bind (fun x62 =>
        cV (Ex 214 [aR (nob h61 80 17 [0, 0, 0, 0, 0, 0, 0, 0, 0, 0, 0, 0, 0, 0]).1, aI (5 : Int32), aI x62] (nob h61 80 17 [0, 0, 0, 0, 0, 0, 0, 0, 0, 0, 0, 0, 0, 0]).2) (fun h63 =>
        (gfI h63 p1 17 0).bind (fun x64 =>
        (pf h63 (nob h61 80 17 [0, 0, 0, 0, 0, 0, 0, 0, 0, 0, 0, 0, 0, 0]).1 17 8 (aI x64)).bind (fun h65 =>
        (gfI h65 p1 17 7).bind (fun x66 =>
        (pf h65 (nob h61 80 17 [0, 0, 0, 0, 0, 0, 0, 0, 0, 0, 0, 0, 0, 0]).1 17 7 (aI x66)).bind (fun h67 =>
        (gfI h67 p1 17 13).bind (fun x68 =>
        gz x68 ((pf h67 (nob h61 80 17 [0, 0, 0, 0, 0, 0, 0, 0, 0, 0, 0, 0, 0, 0]).1 17 13 (aI x68)).bind (fun h69 =>
        cV (Ex 194 [aR o, aI p0, aR (nob h61 80 17 [0, 0, 0, 0, 0, 0, 0, 0, 0, 0, 0, 0, 0, 0]).1] h69) (fun h70 =>
        some (.inl none, h70)) xT)))))))) xT)) xT)))))) :=
  lift_of (k := 56) (rows := code_206) (cuts := cut_206) (hs := hdl_206) (r := fun R E =>
    (gfI h o 16 5).bind (fun x1 =>
    if x1 = 0 then
      (gfI h p1 17 0).bind (fun x2 =>
      if x2 = 0 then
        cV (E 208 [aR o, aI p0, aR p1] h) (fun h3 =>
        some (.inl none, h3)) xT
      else
        some (.inl none, h))
    else
      (gfI h p1 17 0).bind (fun x4 =>
      if x4.toInt = 0 then
        (gfR h o 16 8).bind (fun x5 =>
        (gfI h p1 17 1).bind (fun x6 =>
        (gfI h p1 17 2).bind (fun x7 =>
        (gfI h p1 17 3).bind (fun x8 =>
        (gfI h p1 17 4).bind (fun x9 =>
        (gfI h p1 17 5).bind (fun x10 =>
        cV (E 167 [aR x5, aI p0, aI x6, aI x7, aI x8, aI x9, aI x10] h) (fun h11 =>
        (gfI (nob h11 79 17 [0, 0, 0, 0, 0, 0, 0, 0, 0, 0, 0, 0, 0, 0]).2 p1 17 1).bind (fun x12 =>
        cV (E 214 [aR (nob h11 79 17 [0, 0, 0, 0, 0, 0, 0, 0, 0, 0, 0, 0, 0, 0]).1, aI (4 : Int32), aI x12] (nob h11 79 17 [0, 0, 0, 0, 0, 0, 0, 0, 0, 0, 0, 0, 0, 0]).2) (fun h13 =>
        (pf h13 (nob h11 79 17 [0, 0, 0, 0, 0, 0, 0, 0, 0, 0, 0, 0, 0, 0]).1 17 12 (aI (1 : Int32))).bind (fun h14 =>
        (gfR h14 o 16 8).bind (fun x15 =>
        (gfI h14 x15 14 14).bind (fun x16 =>
        gz x16 ((pf h14 (nob h11 79 17 [0, 0, 0, 0, 0, 0, 0, 0, 0, 0, 0, 0, 0, 0]).1 17 11 (aI x16)).bind (fun h17 =>
        (gfR h17 o 16 8).bind (fun x18 =>
        (gfI h17 x18 14 15).bind (fun x19 =>
        (pf h17 (nob h11 79 17 [0, 0, 0, 0, 0, 0, 0, 0, 0, 0, 0, 0, 0, 0]).1 17 9 (aI x19)).bind (fun h20 =>
        (gfR h20 o 16 8).bind (fun x21 =>
        (gfI h20 x21 14 16).bind (fun x22 =>
        (pf h20 (nob h11 79 17 [0, 0, 0, 0, 0, 0, 0, 0, 0, 0, 0, 0, 0, 0]).1 17 5 (aI x22)).bind (fun h23 =>
        (gfR h23 o 16 8).bind (fun x24 =>
        (gfI h23 x24 14 17).bind (fun x25 =>
        (pf h23 (nob h11 79 17 [0, 0, 0, 0, 0, 0, 0, 0, 0, 0, 0, 0, 0, 0]).1 17 10 (aI x25)).bind (fun h26 =>
        cV (E 194 [aR o, aI p0, aR (nob h11 79 17 [0, 0, 0, 0, 0, 0, 0, 0, 0, 0, 0, 0, 0, 0]).1] h26) (fun h27 =>
        some (.inl none, h27)) xT))))))))))))))) xT)) xT))))))
      else if x4.toInt = 1 then
        (gfR h o 16 8).bind (fun x28 =>
        (gfI h p1 17 1).bind (fun x29 =>
        cV (E 170 [aR x28, aI x29] h) (fun h30 =>
        (gfI (nob h30 80 17 [0, 0, 0, 0, 0, 0, 0, 0, 0, 0, 0, 0, 0, 0]).2 p1 17 1).bind (fun x31 =>
        cV (E 214 [aR (nob h30 80 17 [0, 0, 0, 0, 0, 0, 0, 0, 0, 0, 0, 0, 0, 0]).1, aI (5 : Int32), aI x31] (nob h30 80 17 [0, 0, 0, 0, 0, 0, 0, 0, 0, 0, 0, 0, 0, 0]).2) (fun h32 =>
        (gfI h32 p1 17 0).bind (fun x33 =>
        (pf h32 (nob h30 80 17 [0, 0, 0, 0, 0, 0, 0, 0, 0, 0, 0, 0, 0, 0]).1 17 8 (aI x33)).bind (fun h34 =>
        (gfI h34 p1 17 7).bind (fun x35 =>
        (pf h34 (nob h30 80 17 [0, 0, 0, 0, 0, 0, 0, 0, 0, 0, 0, 0, 0, 0]).1 17 7 (aI x35)).bind (fun h36 =>
        (gfI h36 p1 17 13).bind (fun x37 =>
        gz x37 ((pf h36 (nob h30 80 17 [0, 0, 0, 0, 0, 0, 0, 0, 0, 0, 0, 0, 0, 0]).1 17 13 (aI x37)).bind (fun h38 =>
        cV (E 194 [aR o, aI p0, aR (nob h30 80 17 [0, 0, 0, 0, 0, 0, 0, 0, 0, 0, 0, 0, 0, 0]).1] h38) (fun h39 =>
        some (.inl none, h39)) xT)))))))) xT)) xT))
      else if x4.toInt = 2 then
        (gfR h o 16 8).bind (fun x40 =>
        (gfI h p1 17 1).bind (fun x41 =>
        (gfI h p1 17 2).bind (fun x42 =>
        (gfI h p1 17 3).bind (fun x43 =>
        (gfI h p1 17 4).bind (fun x44 =>
        (gfI h p1 17 5).bind (fun x45 =>
        (gfI h p1 17 6).bind (fun x46 =>
        cV (E 171 [aR x40, aI p0, aI x41, aI x42, aI x43, aI x44, aI x45, aI x46] h) (fun h47 =>
        (gfI (nob h47 80 17 [0, 0, 0, 0, 0, 0, 0, 0, 0, 0, 0, 0, 0, 0]).2 p1 17 1).bind (fun x48 =>
        cV (E 214 [aR (nob h47 80 17 [0, 0, 0, 0, 0, 0, 0, 0, 0, 0, 0, 0, 0, 0]).1, aI (5 : Int32), aI x48] (nob h47 80 17 [0, 0, 0, 0, 0, 0, 0, 0, 0, 0, 0, 0, 0, 0]).2) (fun h49 =>
        (gfI h49 p1 17 0).bind (fun x50 =>
        (pf h49 (nob h47 80 17 [0, 0, 0, 0, 0, 0, 0, 0, 0, 0, 0, 0, 0, 0]).1 17 8 (aI x50)).bind (fun h51 =>
        (gfI h51 p1 17 7).bind (fun x52 =>
        (pf h51 (nob h47 80 17 [0, 0, 0, 0, 0, 0, 0, 0, 0, 0, 0, 0, 0, 0]).1 17 7 (aI x52)).bind (fun h53 =>
        (gfI h53 p1 17 13).bind (fun x54 =>
        gz x54 ((pf h53 (nob h47 80 17 [0, 0, 0, 0, 0, 0, 0, 0, 0, 0, 0, 0, 0, 0]).1 17 13 (aI x54)).bind (fun h55 =>
        cV (E 194 [aR o, aI p0, aR (nob h47 80 17 [0, 0, 0, 0, 0, 0, 0, 0, 0, 0, 0, 0, 0, 0]).1] h55) (fun h56 =>
        some (.inl none, h56)) xT)))))))) xT)) xT)))))))
      else (gfR h o 16 8).bind (fun x57 =>
        (gfI h p1 17 7).bind (fun x58 =>
        (gfI h p1 17 1).bind (fun x59 =>
        (gfI h p1 17 4).bind (fun x60 =>
        cV (E 174 [aR x57, aI p0, aI x58, aI x59, aI x60] h) (fun h61 =>
        (gfI (nob h61 80 17 [0, 0, 0, 0, 0, 0, 0, 0, 0, 0, 0, 0, 0, 0]).2 p1 17 1).bind (fun x62 =>
        cV (E 214 [aR (nob h61 80 17 [0, 0, 0, 0, 0, 0, 0, 0, 0, 0, 0, 0, 0, 0]).1, aI (5 : Int32), aI x62] (nob h61 80 17 [0, 0, 0, 0, 0, 0, 0, 0, 0, 0, 0, 0, 0, 0]).2) (fun h63 =>
        (gfI h63 p1 17 0).bind (fun x64 =>
        (pf h63 (nob h61 80 17 [0, 0, 0, 0, 0, 0, 0, 0, 0, 0, 0, 0, 0, 0]).1 17 8 (aI x64)).bind (fun h65 =>
        (gfI h65 p1 17 7).bind (fun x66 =>
        (pf h65 (nob h61 80 17 [0, 0, 0, 0, 0, 0, 0, 0, 0, 0, 0, 0, 0, 0]).1 17 7 (aI x66)).bind (fun h67 =>
        (gfI h67 p1 17 13).bind (fun x68 =>
        gz x68 ((pf h67 (nob h61 80 17 [0, 0, 0, 0, 0, 0, 0, 0, 0, 0, 0, 0, 0, 0]).1 17 13 (aI x68)).bind (fun h69 =>
        cV (E 194 [aR o, aI p0, aR (nob h61 80 17 [0, 0, 0, 0, 0, 0, 0, 0, 0, 0, 0, 0, 0, 0]).1] h69) (fun h70 =>
        some (.inl none, h70)) xT)))))))) xT)) xT))))))) rfl rfl rfl (fun R E => rfl)
-- ChipcardhouseModel$Lines.isNoted(I)Z
set_option maxRecDepth 100000 in
theorem lf_207_0 (o : Option (Nat × Nat)) (p0 : Int32) (h : Hp) : Ru 207 0 [(0, aR o), (1, aI p0)] [] h =
    Ru 207 2 [(0, aR o), (1, aI p0), (2, aI (0 : Int32))] [] h :=
  lift_of (k := 3) (rows := code_207) (cuts := cut_207) (hs := hdl_207) (r := fun R E =>
    R 2 [(0, aR o), (1, aI p0), (2, aI (0 : Int32))] [] h) rfl rfl rfl (fun R E => rfl)
set_option maxRecDepth 100000 in
theorem lf_207_2 (o : Option (Nat × Nat)) (v1 : Int32) (v2 : Int32) (h : Hp) : Ru 207 2 [(0, aR o), (1, aI v1), (2, aI v2)] [] h =
    (gfI h o 16 4).bind (fun x1 =>
    if x1 ≤ v2 then
      some (.inl (some (aI (0 : Int32))), h)
    else
      (gfR h o 16 16).bind (fun x2 =>
      (gaR h x2 v2).bind (fun x3 =>
      (gfI h x3 17 1).bind (fun x4 =>
      if x4 = v1 then
        some (.inl (some (aI (1 : Int32))), h)
      else
        Ru 207 2 [(0, aR o), (1, aI v1), (2, aI (v2 + (1 : Int32)))] [] h)))) :=
  lift_of (k := 14) (rows := code_207) (cuts := cut_207) (hs := hdl_207) (r := fun R E =>
    (gfI h o 16 4).bind (fun x1 =>
    if x1 ≤ v2 then
      some (.inl (some (aI (0 : Int32))), h)
    else
      (gfR h o 16 16).bind (fun x2 =>
      (gaR h x2 v2).bind (fun x3 =>
      (gfI h x3 17 1).bind (fun x4 =>
      if x4 = v1 then
        some (.inl (some (aI (1 : Int32))), h)
      else
        R 2 [(0, aR o), (1, aI v1), (2, aI (v2 + (1 : Int32)))] [] h))))) rfl rfl rfl (fun R E => rfl)
-- ChipcardhouseModel$Lines.standsIn(ILChipcardhouseModel$Mail;)V
set_option maxRecDepth 100000 in
theorem lf_208_0 (o : Option (Nat × Nat)) (p0 : Int32) (p1 : Option (Nat × Nat)) (h : Hp) : Ru 208 0 [(0, aR o), (1, aI p0), (2, aR p1)] [] h =
    (gfI h p1 17 1).bind (fun x1 =>
    cI (Ex 207 [aR o, aI x1] h) (fun x3 h2 =>
    if x3 = 0 then
      (gfI (nob h2 81 17 [0, 0, 0, 0, 0, 0, 0, 0, 0, 0, 0, 0, 0, 0]).2 p1 17 1).bind (fun x4 =>
      cV (Ex 214 [aR (nob h2 81 17 [0, 0, 0, 0, 0, 0, 0, 0, 0, 0, 0, 0, 0, 0]).1, aI (4 : Int32), aI x4] (nob h2 81 17 [0, 0, 0, 0, 0, 0, 0, 0, 0, 0, 0, 0, 0, 0]).2) (fun h5 =>
      if (1 : Int32) = 0 then
        Ru 208 66 [(0, aR o), (1, aI p0), (2, aR p1), (3, aI (1 : Int32)), (4, aR (nob h2 81 17 [0, 0, 0, 0, 0, 0, 0, 0, 0, 0, 0, 0, 0, 0]).1)] [aI (1 : Int32), aR (nob h2 81 17 [0, 0, 0, 0, 0, 0, 0, 0, 0, 0, 0, 0, 0, 0]).1] h5
      else
        (gfI h5 p1 17 4).bind (fun x6 =>
        (gfI h5 o 16 3).bind (fun x7 =>
        if x7 < x6 then
          Ru 208 66 [(0, aR o), (1, aI p0), (2, aR p1), (3, aI (1 : Int32)), (4, aR (nob h2 81 17 [0, 0, 0, 0, 0, 0, 0, 0, 0, 0, 0, 0, 0, 0]).1)] [aI (0 : Int32), aR (nob h2 81 17 [0, 0, 0, 0, 0, 0, 0, 0, 0, 0, 0, 0, 0, 0]).1] h5
        else
          (gfR h5 o 16 18).bind (fun x8 =>
          (gfI h5 p1 17 2).bind (fun x9 =>
          (gaI h5 x8 1000 x9).bind (fun x10 =>
          if (3 : Int32) ≤ x10 then
            Ru 208 66 [(0, aR o), (1, aI p0), (2, aR p1), (3, aI (1 : Int32)), (4, aR (nob h2 81 17 [0, 0, 0, 0, 0, 0, 0, 0, 0, 0, 0, 0, 0, 0]).1)] [aI (0 : Int32), aR (nob h2 81 17 [0, 0, 0, 0, 0, 0, 0, 0, 0, 0, 0, 0, 0, 0]).1] h5
          else
            Ru 208 66 [(0, aR o), (1, aI p0), (2, aR p1), (3, aI (1 : Int32)), (4, aR (nob h2 81 17 [0, 0, 0, 0, 0, 0, 0, 0, 0, 0, 0, 0, 0, 0]).1)] [aI (1 : Int32), aR (nob h2 81 17 [0, 0, 0, 0, 0, 0, 0, 0, 0, 0, 0, 0, 0, 0]).1] h5)))))) xT)
    else
      (gfI (nob h2 81 17 [0, 0, 0, 0, 0, 0, 0, 0, 0, 0, 0, 0, 0, 0]).2 p1 17 1).bind (fun x11 =>
      cV (Ex 214 [aR (nob h2 81 17 [0, 0, 0, 0, 0, 0, 0, 0, 0, 0, 0, 0, 0, 0]).1, aI (4 : Int32), aI x11] (nob h2 81 17 [0, 0, 0, 0, 0, 0, 0, 0, 0, 0, 0, 0, 0, 0]).2) (fun h12 =>
      if (0 : Int32) = 0 then
        Ru 208 66 [(0, aR o), (1, aI p0), (2, aR p1), (3, aI (0 : Int32)), (4, aR (nob h2 81 17 [0, 0, 0, 0, 0, 0, 0, 0, 0, 0, 0, 0, 0, 0]).1)] [aI (1 : Int32), aR (nob h2 81 17 [0, 0, 0, 0, 0, 0, 0, 0, 0, 0, 0, 0, 0, 0]).1] h12
      else
        (gfI h12 p1 17 4).bind (fun x13 =>
        (gfI h12 o 16 3).bind (fun x14 =>
        if x14 < x13 then
          Ru 208 66 [(0, aR o), (1, aI p0), (2, aR p1), (3, aI (0 : Int32)), (4, aR (nob h2 81 17 [0, 0, 0, 0, 0, 0, 0, 0, 0, 0, 0, 0, 0, 0]).1)] [aI (0 : Int32), aR (nob h2 81 17 [0, 0, 0, 0, 0, 0, 0, 0, 0, 0, 0, 0, 0, 0]).1] h12
        else
          (gfR h12 o 16 18).bind (fun x15 =>
          (gfI h12 p1 17 2).bind (fun x16 =>
          (gaI h12 x15 1000 x16).bind (fun x17 =>
          if (3 : Int32) ≤ x17 then
            Ru 208 66 [(0, aR o), (1, aI p0), (2, aR p1), (3, aI (0 : Int32)), (4, aR (nob h2 81 17 [0, 0, 0, 0, 0, 0, 0, 0, 0, 0, 0, 0, 0, 0]).1)] [aI (0 : Int32), aR (nob h2 81 17 [0, 0, 0, 0, 0, 0, 0, 0, 0, 0, 0, 0, 0, 0]).1] h12
          else
            Ru 208 66 [(0, aR o), (1, aI p0), (2, aR p1), (3, aI (0 : Int32)), (4, aR (nob h2 81 17 [0, 0, 0, 0, 0, 0, 0, 0, 0, 0, 0, 0, 0, 0]).1)] [aI (1 : Int32), aR (nob h2 81 17 [0, 0, 0, 0, 0, 0, 0, 0, 0, 0, 0, 0, 0, 0]).1] h12)))))) xT)) xT) :=
  lift_of (k := 33) (rows := code_208) (cuts := cut_208) (hs := hdl_208) (r := fun R E =>
    (gfI h p1 17 1).bind (fun x1 =>
    cI (E 207 [aR o, aI x1] h) (fun x3 h2 =>
    if x3 = 0 then
      (gfI (nob h2 81 17 [0, 0, 0, 0, 0, 0, 0, 0, 0, 0, 0, 0, 0, 0]).2 p1 17 1).bind (fun x4 =>
      cV (E 214 [aR (nob h2 81 17 [0, 0, 0, 0, 0, 0, 0, 0, 0, 0, 0, 0, 0, 0]).1, aI (4 : Int32), aI x4] (nob h2 81 17 [0, 0, 0, 0, 0, 0, 0, 0, 0, 0, 0, 0, 0, 0]).2) (fun h5 =>
      if (1 : Int32) = 0 then
        R 66 [(0, aR o), (1, aI p0), (2, aR p1), (3, aI (1 : Int32)), (4, aR (nob h2 81 17 [0, 0, 0, 0, 0, 0, 0, 0, 0, 0, 0, 0, 0, 0]).1)] [aI (1 : Int32), aR (nob h2 81 17 [0, 0, 0, 0, 0, 0, 0, 0, 0, 0, 0, 0, 0, 0]).1] h5
      else
        (gfI h5 p1 17 4).bind (fun x6 =>
        (gfI h5 o 16 3).bind (fun x7 =>
        if x7 < x6 then
          R 66 [(0, aR o), (1, aI p0), (2, aR p1), (3, aI (1 : Int32)), (4, aR (nob h2 81 17 [0, 0, 0, 0, 0, 0, 0, 0, 0, 0, 0, 0, 0, 0]).1)] [aI (0 : Int32), aR (nob h2 81 17 [0, 0, 0, 0, 0, 0, 0, 0, 0, 0, 0, 0, 0, 0]).1] h5
        else
          (gfR h5 o 16 18).bind (fun x8 =>
          (gfI h5 p1 17 2).bind (fun x9 =>
          (gaI h5 x8 1000 x9).bind (fun x10 =>
          if (3 : Int32) ≤ x10 then
            R 66 [(0, aR o), (1, aI p0), (2, aR p1), (3, aI (1 : Int32)), (4, aR (nob h2 81 17 [0, 0, 0, 0, 0, 0, 0, 0, 0, 0, 0, 0, 0, 0]).1)] [aI (0 : Int32), aR (nob h2 81 17 [0, 0, 0, 0, 0, 0, 0, 0, 0, 0, 0, 0, 0, 0]).1] h5
          else
            R 66 [(0, aR o), (1, aI p0), (2, aR p1), (3, aI (1 : Int32)), (4, aR (nob h2 81 17 [0, 0, 0, 0, 0, 0, 0, 0, 0, 0, 0, 0, 0, 0]).1)] [aI (1 : Int32), aR (nob h2 81 17 [0, 0, 0, 0, 0, 0, 0, 0, 0, 0, 0, 0, 0, 0]).1] h5)))))) xT)
    else
      (gfI (nob h2 81 17 [0, 0, 0, 0, 0, 0, 0, 0, 0, 0, 0, 0, 0, 0]).2 p1 17 1).bind (fun x11 =>
      cV (E 214 [aR (nob h2 81 17 [0, 0, 0, 0, 0, 0, 0, 0, 0, 0, 0, 0, 0, 0]).1, aI (4 : Int32), aI x11] (nob h2 81 17 [0, 0, 0, 0, 0, 0, 0, 0, 0, 0, 0, 0, 0, 0]).2) (fun h12 =>
      if (0 : Int32) = 0 then
        R 66 [(0, aR o), (1, aI p0), (2, aR p1), (3, aI (0 : Int32)), (4, aR (nob h2 81 17 [0, 0, 0, 0, 0, 0, 0, 0, 0, 0, 0, 0, 0, 0]).1)] [aI (1 : Int32), aR (nob h2 81 17 [0, 0, 0, 0, 0, 0, 0, 0, 0, 0, 0, 0, 0, 0]).1] h12
      else
        (gfI h12 p1 17 4).bind (fun x13 =>
        (gfI h12 o 16 3).bind (fun x14 =>
        if x14 < x13 then
          R 66 [(0, aR o), (1, aI p0), (2, aR p1), (3, aI (0 : Int32)), (4, aR (nob h2 81 17 [0, 0, 0, 0, 0, 0, 0, 0, 0, 0, 0, 0, 0, 0]).1)] [aI (0 : Int32), aR (nob h2 81 17 [0, 0, 0, 0, 0, 0, 0, 0, 0, 0, 0, 0, 0, 0]).1] h12
        else
          (gfR h12 o 16 18).bind (fun x15 =>
          (gfI h12 p1 17 2).bind (fun x16 =>
          (gaI h12 x15 1000 x16).bind (fun x17 =>
          if (3 : Int32) ≤ x17 then
            R 66 [(0, aR o), (1, aI p0), (2, aR p1), (3, aI (0 : Int32)), (4, aR (nob h2 81 17 [0, 0, 0, 0, 0, 0, 0, 0, 0, 0, 0, 0, 0, 0]).1)] [aI (0 : Int32), aR (nob h2 81 17 [0, 0, 0, 0, 0, 0, 0, 0, 0, 0, 0, 0, 0, 0]).1] h12
          else
            R 66 [(0, aR o), (1, aI p0), (2, aR p1), (3, aI (0 : Int32)), (4, aR (nob h2 81 17 [0, 0, 0, 0, 0, 0, 0, 0, 0, 0, 0, 0, 0, 0]).1)] [aI (1 : Int32), aR (nob h2 81 17 [0, 0, 0, 0, 0, 0, 0, 0, 0, 0, 0, 0, 0, 0]).1] h12)))))) xT)) xT)) rfl rfl rfl (fun R E => rfl)
set_option maxRecDepth 100000 in
theorem lf_208_66 (o : Option (Nat × Nat)) (v1 : Int32) (v2 : Option (Nat × Nat)) (v3 : Int32) (v4 : Option (Nat × Nat)) (s0 : Option (Nat × Nat)) (s1 : Int32) (h : Hp) : Ru 208 66 [(0, aR o), (1, aI v1), (2, aR v2), (3, aI v3), (4, aR v4)] [aI s1, aR s0] h =
    gz s1 ((pf h s0 17 11 (aI s1)).bind (fun h1 =>
    (gfI h1 v4 17 11).bind (fun x2 =>
    if x2 = 0 then
      (pf h1 v4 17 9 (aI (8 : Int32))).bind (fun h3 =>
      (gfI h3 v4 17 11).bind (fun x4 =>
      if x4 = 0 then
        cV (Ex 194 [aR o, aI v1, aR v4] h3) (fun h5 =>
        some (.inl none, h5)) xT
      else
        if v3 = 0 then
          cV (Ex 194 [aR o, aI v1, aR v4] h3) (fun h6 =>
          some (.inl none, h6)) xT
        else
          (gfR h3 o 16 16).bind (fun x7 =>
          (gfI h3 o 16 4).bind (fun x8 =>
          (paR h3 x7 x8 v2).bind (fun h9 =>
          (gfR h9 o 16 17).bind (fun x10 =>
          (gfI h9 o 16 4).bind (fun x11 =>
          (pa h9 x10 1000 x11 (aI v1)).bind (fun h12 =>
          (gfI h12 o 16 4).bind (fun x13 =>
          (pf h12 o 16 4 (aI (x13 + (1 : Int32)))).bind (fun h14 =>
          (gfR h14 o 16 18).bind (fun x15 =>
          (gfI h14 v2 17 2).bind (fun x16 =>
          (gaI h14 x15 1000 x16).bind (fun x17 =>
          (pa h14 x15 1000 x16 (aI (x17 + (1 : Int32)))).bind (fun h18 =>
          cV (Ex 194 [aR o, aI v1, aR v4] h18) (fun h19 =>
          some (.inl none, h19)) xT))))))))))))))
    else
      (pf h1 v4 17 9 (aI (0 : Int32))).bind (fun h20 =>
      (gfI h20 v4 17 11).bind (fun x21 =>
      if x21 = 0 then
        cV (Ex 194 [aR o, aI v1, aR v4] h20) (fun h22 =>
        some (.inl none, h22)) xT
      else
        if v3 = 0 then
          cV (Ex 194 [aR o, aI v1, aR v4] h20) (fun h23 =>
          some (.inl none, h23)) xT
        else
          (gfR h20 o 16 16).bind (fun x24 =>
          (gfI h20 o 16 4).bind (fun x25 =>
          (paR h20 x24 x25 v2).bind (fun h26 =>
          (gfR h26 o 16 17).bind (fun x27 =>
          (gfI h26 o 16 4).bind (fun x28 =>
          (pa h26 x27 1000 x28 (aI v1)).bind (fun h29 =>
          (gfI h29 o 16 4).bind (fun x30 =>
          (pf h29 o 16 4 (aI (x30 + (1 : Int32)))).bind (fun h31 =>
          (gfR h31 o 16 18).bind (fun x32 =>
          (gfI h31 v2 17 2).bind (fun x33 =>
          (gaI h31 x32 1000 x33).bind (fun x34 =>
          (pa h31 x32 1000 x33 (aI (x34 + (1 : Int32)))).bind (fun h35 =>
          cV (Ex 194 [aR o, aI v1, aR v4] h35) (fun h36 =>
          some (.inl none, h36)) xT))))))))))))))))) :=
  lift_of (k := 46) (rows := code_208) (cuts := cut_208) (hs := hdl_208) (r := fun R E =>
    gz s1 ((pf h s0 17 11 (aI s1)).bind (fun h1 =>
    (gfI h1 v4 17 11).bind (fun x2 =>
    if x2 = 0 then
      (pf h1 v4 17 9 (aI (8 : Int32))).bind (fun h3 =>
      (gfI h3 v4 17 11).bind (fun x4 =>
      if x4 = 0 then
        cV (E 194 [aR o, aI v1, aR v4] h3) (fun h5 =>
        some (.inl none, h5)) xT
      else
        if v3 = 0 then
          cV (E 194 [aR o, aI v1, aR v4] h3) (fun h6 =>
          some (.inl none, h6)) xT
        else
          (gfR h3 o 16 16).bind (fun x7 =>
          (gfI h3 o 16 4).bind (fun x8 =>
          (paR h3 x7 x8 v2).bind (fun h9 =>
          (gfR h9 o 16 17).bind (fun x10 =>
          (gfI h9 o 16 4).bind (fun x11 =>
          (pa h9 x10 1000 x11 (aI v1)).bind (fun h12 =>
          (gfI h12 o 16 4).bind (fun x13 =>
          (pf h12 o 16 4 (aI (x13 + (1 : Int32)))).bind (fun h14 =>
          (gfR h14 o 16 18).bind (fun x15 =>
          (gfI h14 v2 17 2).bind (fun x16 =>
          (gaI h14 x15 1000 x16).bind (fun x17 =>
          (pa h14 x15 1000 x16 (aI (x17 + (1 : Int32)))).bind (fun h18 =>
          cV (E 194 [aR o, aI v1, aR v4] h18) (fun h19 =>
          some (.inl none, h19)) xT))))))))))))))
    else
      (pf h1 v4 17 9 (aI (0 : Int32))).bind (fun h20 =>
      (gfI h20 v4 17 11).bind (fun x21 =>
      if x21 = 0 then
        cV (E 194 [aR o, aI v1, aR v4] h20) (fun h22 =>
        some (.inl none, h22)) xT
      else
        if v3 = 0 then
          cV (E 194 [aR o, aI v1, aR v4] h20) (fun h23 =>
          some (.inl none, h23)) xT
        else
          (gfR h20 o 16 16).bind (fun x24 =>
          (gfI h20 o 16 4).bind (fun x25 =>
          (paR h20 x24 x25 v2).bind (fun h26 =>
          (gfR h26 o 16 17).bind (fun x27 =>
          (gfI h26 o 16 4).bind (fun x28 =>
          (pa h26 x27 1000 x28 (aI v1)).bind (fun h29 =>
          (gfI h29 o 16 4).bind (fun x30 =>
          (pf h29 o 16 4 (aI (x30 + (1 : Int32)))).bind (fun h31 =>
          (gfR h31 o 16 18).bind (fun x32 =>
          (gfI h31 v2 17 2).bind (fun x33 =>
          (gaI h31 x32 1000 x33).bind (fun x34 =>
          (pa h31 x32 1000 x33 (aI (x34 + (1 : Int32)))).bind (fun h35 =>
          cV (E 194 [aR o, aI v1, aR v4] h35) (fun h36 =>
          some (.inl none, h36)) xT)))))))))))))))))) rfl rfl rfl (fun R E => rfl)
-- ChipcardhouseModel$Lines.returns(ILChipcardhouseModel$Mail;)V
set_option maxRecDepth 100000 in
theorem lf_209_0 (o : Option (Nat × Nat)) (p0 : Int32) (p1 : Option (Nat × Nat)) (h : Hp) : Ru 209 0 [(0, aR o), (1, aI p0), (2, aR p1)] [] h =
    (gfI h p1 17 0).bind (fun x1 =>
    if x1 = (4 : Int32) then
      (gfR h o 16 7).bind (fun x2 =>
      (gfI h p1 17 1).bind (fun x3 =>
      (gfI h p1 17 12).bind (fun x4 =>
      (gfI h p1 17 11).bind (fun x5 =>
      (gfI h p1 17 9).bind (fun x6 =>
      (gfI h p1 17 5).bind (fun x7 =>
      (gfI h p1 17 10).bind (fun x8 =>
      cV (Ex 244 [aR x2, aI x3, aI x4, aI x5, aI x6, aI x7, aI x8] h) (fun h9 =>
      some (.inl none, h9)) xT)))))))
    else
      (gfI h p1 17 13).bind (fun x10 =>
      if x10 = 0 then
        cV (Ex 210 [aR o, aI p0, aR p1] h) (fun h11 =>
        some (.inl none, h11)) xT
      else
        some (.inl none, h))) :=
  lift_of (k := 22) (rows := code_209) (cuts := cut_209) (hs := hdl_209) (r := fun R E =>
    (gfI h p1 17 0).bind (fun x1 =>
    if x1 = (4 : Int32) then
      (gfR h o 16 7).bind (fun x2 =>
      (gfI h p1 17 1).bind (fun x3 =>
      (gfI h p1 17 12).bind (fun x4 =>
      (gfI h p1 17 11).bind (fun x5 =>
      (gfI h p1 17 9).bind (fun x6 =>
      (gfI h p1 17 5).bind (fun x7 =>
      (gfI h p1 17 10).bind (fun x8 =>
      cV (E 244 [aR x2, aI x3, aI x4, aI x5, aI x6, aI x7, aI x8] h) (fun h9 =>
      some (.inl none, h9)) xT)))))))
    else
      (gfI h p1 17 13).bind (fun x10 =>
      if x10 = 0 then
        cV (E 210 [aR o, aI p0, aR p1] h) (fun h11 =>
        some (.inl none, h11)) xT
      else
        some (.inl none, h)))) rfl rfl rfl (fun R E => rfl)
-- ChipcardhouseModel$Lines.forgets(ILChipcardhouseModel$Mail;)V
set_option maxRecDepth 100000 in
theorem lf_210_0 (o : Option (Nat × Nat)) (p0 : Int32) (p1 : Option (Nat × Nat)) (h : Hp) : Ru 210 0 [(0, aR o), (1, aI p0), (2, aR p1)] [] h =
    Ru 210 12 [(0, aR o), (1, aI p0), (2, aR p1), (3, aI ((500 : Int32) * p0)), (4, aI (0 : Int32)), (5, aI (0 : Int32))] [] h :=
  lift_of (k := 9) (rows := code_210) (cuts := cut_210) (hs := hdl_210) (r := fun R E =>
    R 12 [(0, aR o), (1, aI p0), (2, aR p1), (3, aI ((500 : Int32) * p0)), (4, aI (0 : Int32)), (5, aI (0 : Int32))] [] h) rfl rfl rfl (fun R E => rfl)
set_option maxRecDepth 100000 in
theorem lf_210_12 (o : Option (Nat × Nat)) (v1 : Int32) (v2 : Option (Nat × Nat)) (v3 : Int32) (v4 : Int32) (v5 : Int32) (h : Hp) : Ru 210 12 [(0, aR o), (1, aI v1), (2, aR v2), (3, aI v3), (4, aI v4), (5, aI v5)] [] h =
    (gfR h o 16 13).bind (fun x1 =>
    (gaI h x1 1000 v1).bind (fun x2 =>
    if x2 ≤ v5 then
      (gfR h o 16 13).bind (fun x3 =>
      (pa h x3 1000 v1 (aI v4)).bind (fun h4 =>
      some (.inl none, h4)))
    else
      (gfR h o 16 11).bind (fun x5 =>
      (gaR h x5 (v3 + v5)).bind (fun x6 =>
      (gfI h x6 17 0).bind (fun x7 =>
      (gfI h v2 17 8).bind (fun x8 =>
      if x7 = x8 then
        (gfI h x6 17 1).bind (fun x9 =>
        (gfI h v2 17 1).bind (fun x10 =>
        if x9 = x10 then
          (gfI h x6 17 7).bind (fun x11 =>
          (gfI h v2 17 7).bind (fun x12 =>
          if x11 = x12 then
            if (1 : Int32) = 0 then
              (gfR h o 16 11).bind (fun x13 =>
              (paR h x13 (v3 + v4) x6).bind (fun h14 =>
              (gfR h14 o 16 12).bind (fun x15 =>
              (gfR h14 o 16 12).bind (fun x16 =>
              (gaI h14 x16 1000 (v3 + v5)).bind (fun x17 =>
              (pa h14 x15 1000 (v3 + v4) (aI x17)).bind (fun h18 =>
              Ru 210 12 [(0, aR o), (1, aI v1), (2, aR v2), (3, aI v3), (4, aI (v4 + (1 : Int32))), (5, aI (v5 + (1 : Int32)))] [] h18))))))
            else
              Ru 210 12 [(0, aR o), (1, aI v1), (2, aR v2), (3, aI v3), (4, aI v4), (5, aI (v5 + (1 : Int32)))] [] h
          else
            if (0 : Int32) = 0 then
              (gfR h o 16 11).bind (fun x19 =>
              (paR h x19 (v3 + v4) x6).bind (fun h20 =>
              (gfR h20 o 16 12).bind (fun x21 =>
              (gfR h20 o 16 12).bind (fun x22 =>
              (gaI h20 x22 1000 (v3 + v5)).bind (fun x23 =>
              (pa h20 x21 1000 (v3 + v4) (aI x23)).bind (fun h24 =>
              Ru 210 12 [(0, aR o), (1, aI v1), (2, aR v2), (3, aI v3), (4, aI (v4 + (1 : Int32))), (5, aI (v5 + (1 : Int32)))] [] h24))))))
            else
              Ru 210 12 [(0, aR o), (1, aI v1), (2, aR v2), (3, aI v3), (4, aI v4), (5, aI (v5 + (1 : Int32)))] [] h))
        else
          if (0 : Int32) = 0 then
            (gfR h o 16 11).bind (fun x25 =>
            (paR h x25 (v3 + v4) x6).bind (fun h26 =>
            (gfR h26 o 16 12).bind (fun x27 =>
            (gfR h26 o 16 12).bind (fun x28 =>
            (gaI h26 x28 1000 (v3 + v5)).bind (fun x29 =>
            (pa h26 x27 1000 (v3 + v4) (aI x29)).bind (fun h30 =>
            Ru 210 12 [(0, aR o), (1, aI v1), (2, aR v2), (3, aI v3), (4, aI (v4 + (1 : Int32))), (5, aI (v5 + (1 : Int32)))] [] h30))))))
          else
            Ru 210 12 [(0, aR o), (1, aI v1), (2, aR v2), (3, aI v3), (4, aI v4), (5, aI (v5 + (1 : Int32)))] [] h))
      else
        if (0 : Int32) = 0 then
          (gfR h o 16 11).bind (fun x31 =>
          (paR h x31 (v3 + v4) x6).bind (fun h32 =>
          (gfR h32 o 16 12).bind (fun x33 =>
          (gfR h32 o 16 12).bind (fun x34 =>
          (gaI h32 x34 1000 (v3 + v5)).bind (fun x35 =>
          (pa h32 x33 1000 (v3 + v4) (aI x35)).bind (fun h36 =>
          Ru 210 12 [(0, aR o), (1, aI v1), (2, aR v2), (3, aI v3), (4, aI (v4 + (1 : Int32))), (5, aI (v5 + (1 : Int32)))] [] h36))))))
        else
          Ru 210 12 [(0, aR o), (1, aI v1), (2, aR v2), (3, aI v3), (4, aI v4), (5, aI (v5 + (1 : Int32)))] [] h)))))) :=
  lift_of (k := 56) (rows := code_210) (cuts := cut_210) (hs := hdl_210) (r := fun R E =>
    (gfR h o 16 13).bind (fun x1 =>
    (gaI h x1 1000 v1).bind (fun x2 =>
    if x2 ≤ v5 then
      (gfR h o 16 13).bind (fun x3 =>
      (pa h x3 1000 v1 (aI v4)).bind (fun h4 =>
      some (.inl none, h4)))
    else
      (gfR h o 16 11).bind (fun x5 =>
      (gaR h x5 (v3 + v5)).bind (fun x6 =>
      (gfI h x6 17 0).bind (fun x7 =>
      (gfI h v2 17 8).bind (fun x8 =>
      if x7 = x8 then
        (gfI h x6 17 1).bind (fun x9 =>
        (gfI h v2 17 1).bind (fun x10 =>
        if x9 = x10 then
          (gfI h x6 17 7).bind (fun x11 =>
          (gfI h v2 17 7).bind (fun x12 =>
          if x11 = x12 then
            if (1 : Int32) = 0 then
              (gfR h o 16 11).bind (fun x13 =>
              (paR h x13 (v3 + v4) x6).bind (fun h14 =>
              (gfR h14 o 16 12).bind (fun x15 =>
              (gfR h14 o 16 12).bind (fun x16 =>
              (gaI h14 x16 1000 (v3 + v5)).bind (fun x17 =>
              (pa h14 x15 1000 (v3 + v4) (aI x17)).bind (fun h18 =>
              R 12 [(0, aR o), (1, aI v1), (2, aR v2), (3, aI v3), (4, aI (v4 + (1 : Int32))), (5, aI (v5 + (1 : Int32)))] [] h18))))))
            else
              R 12 [(0, aR o), (1, aI v1), (2, aR v2), (3, aI v3), (4, aI v4), (5, aI (v5 + (1 : Int32)))] [] h
          else
            if (0 : Int32) = 0 then
              (gfR h o 16 11).bind (fun x19 =>
              (paR h x19 (v3 + v4) x6).bind (fun h20 =>
              (gfR h20 o 16 12).bind (fun x21 =>
              (gfR h20 o 16 12).bind (fun x22 =>
              (gaI h20 x22 1000 (v3 + v5)).bind (fun x23 =>
              (pa h20 x21 1000 (v3 + v4) (aI x23)).bind (fun h24 =>
              R 12 [(0, aR o), (1, aI v1), (2, aR v2), (3, aI v3), (4, aI (v4 + (1 : Int32))), (5, aI (v5 + (1 : Int32)))] [] h24))))))
            else
              R 12 [(0, aR o), (1, aI v1), (2, aR v2), (3, aI v3), (4, aI v4), (5, aI (v5 + (1 : Int32)))] [] h))
        else
          if (0 : Int32) = 0 then
            (gfR h o 16 11).bind (fun x25 =>
            (paR h x25 (v3 + v4) x6).bind (fun h26 =>
            (gfR h26 o 16 12).bind (fun x27 =>
            (gfR h26 o 16 12).bind (fun x28 =>
            (gaI h26 x28 1000 (v3 + v5)).bind (fun x29 =>
            (pa h26 x27 1000 (v3 + v4) (aI x29)).bind (fun h30 =>
            R 12 [(0, aR o), (1, aI v1), (2, aR v2), (3, aI v3), (4, aI (v4 + (1 : Int32))), (5, aI (v5 + (1 : Int32)))] [] h30))))))
          else
            R 12 [(0, aR o), (1, aI v1), (2, aR v2), (3, aI v3), (4, aI v4), (5, aI (v5 + (1 : Int32)))] [] h))
      else
        if (0 : Int32) = 0 then
          (gfR h o 16 11).bind (fun x31 =>
          (paR h x31 (v3 + v4) x6).bind (fun h32 =>
          (gfR h32 o 16 12).bind (fun x33 =>
          (gfR h32 o 16 12).bind (fun x34 =>
          (gaI h32 x34 1000 (v3 + v5)).bind (fun x35 =>
          (pa h32 x33 1000 (v3 + v4) (aI x35)).bind (fun h36 =>
          R 12 [(0, aR o), (1, aI v1), (2, aR v2), (3, aI v3), (4, aI (v4 + (1 : Int32))), (5, aI (v5 + (1 : Int32)))] [] h36))))))
        else
          R 12 [(0, aR o), (1, aI v1), (2, aR v2), (3, aI v3), (4, aI v4), (5, aI (v5 + (1 : Int32)))] [] h))))))) rfl rfl rfl (fun R E => rfl)
-- ChipcardhouseModel$Lines.sendsAgain(I)V
set_option maxRecDepth 100000 in
theorem lf_211_0 (o : Option (Nat × Nat)) (p0 : Int32) (h : Hp) : Ru 211 0 [(0, aR o), (1, aI p0)] [] h =
    Ru 211 6 [(0, aR o), (1, aI p0), (2, aI ((500 : Int32) * p0))] [] h :=
  lift_of (k := 5) (rows := code_211) (cuts := cut_211) (hs := hdl_211) (r := fun R E =>
    R 6 [(0, aR o), (1, aI p0), (2, aI ((500 : Int32) * p0))] [] h) rfl rfl rfl (fun R E => rfl)
set_option maxRecDepth 100000 in
theorem lf_211_6 (o : Option (Nat × Nat)) (v1 : Int32) (v2 : Int32) (h : Hp) : Ru 211 6 [(0, aR o), (1, aI v1), (2, aI v2)] [] h =
    (gfR h o 16 13).bind (fun x1 =>
    (gaI h x1 1000 v1).bind (fun x2 =>
    if (((500 : Int32) * v1) + x2) ≤ v2 then
      some (.inl none, h)
    else
      (gfI h o 16 1).bind (fun x3 =>
      (gfR h o 16 12).bind (fun x4 =>
      (gaI h x4 1000 v2).bind (fun x5 =>
      if (10 : Int32) ≤ (x3 - x5) then
        (gfR h o 16 12).bind (fun x6 =>
        (gfI h o 16 1).bind (fun x7 =>
        (pa h x6 1000 v2 (aI x7)).bind (fun h8 =>
        (gfR h8 o 16 11).bind (fun x9 =>
        (gaR h8 x9 v2).bind (fun x10 =>
        cV (Ex 193 [aR o, aI v1, aR x10] h8) (fun h11 =>
        Ru 211 6 [(0, aR o), (1, aI v1), (2, aI (v2 + (1 : Int32)))] [] h11) xT)))))
      else
        Ru 211 6 [(0, aR o), (1, aI v1), (2, aI (v2 + (1 : Int32)))] [] h))))) :=
  lift_of (k := 35) (rows := code_211) (cuts := cut_211) (hs := hdl_211) (r := fun R E =>
    (gfR h o 16 13).bind (fun x1 =>
    (gaI h x1 1000 v1).bind (fun x2 =>
    if (((500 : Int32) * v1) + x2) ≤ v2 then
      some (.inl none, h)
    else
      (gfI h o 16 1).bind (fun x3 =>
      (gfR h o 16 12).bind (fun x4 =>
      (gaI h x4 1000 v2).bind (fun x5 =>
      if (10 : Int32) ≤ (x3 - x5) then
        (gfR h o 16 12).bind (fun x6 =>
        (gfI h o 16 1).bind (fun x7 =>
        (pa h x6 1000 v2 (aI x7)).bind (fun h8 =>
        (gfR h8 o 16 11).bind (fun x9 =>
        (gaR h8 x9 v2).bind (fun x10 =>
        cV (E 193 [aR o, aI v1, aR x10] h8) (fun h11 =>
        R 6 [(0, aR o), (1, aI v1), (2, aI (v2 + (1 : Int32)))] [] h11) xT)))))
      else
        R 6 [(0, aR o), (1, aI v1), (2, aI (v2 + (1 : Int32)))] [] h)))))) rfl rfl rfl (fun R E => rfl)
-- ChipcardhouseModel$Lines.shopAt(II)I
set_option maxRecDepth 100000 in
theorem lf_212_0 (o : Option (Nat × Nat)) (p0 : Int32) (p1 : Int32) (h : Hp) : Ru 212 0 [(0, aR o), (1, aI p0), (2, aI p1)] [] h =
    if p1 = (3 : Int32) then
      (gfR h o 16 13).bind (fun x1 =>
      (gaI h x1 1000 p0).bind (fun x2 =>
      some (.inl (some (aI x2)), h)))
    else
      (gfR h o 16 10).bind (fun x3 =>
      (gaR h x3 ((((2 : Int32) * p0) + p1) - (4 : Int32))).bind (fun x4 =>
      (gfI h x4 13 1).bind (fun x5 =>
      some (.inl (some (aI x5)), h)))) :=
  lift_of (k := 16) (rows := code_212) (cuts := cut_212) (hs := hdl_212) (r := fun R E =>
    if p1 = (3 : Int32) then
      (gfR h o 16 13).bind (fun x1 =>
      (gaI h x1 1000 p0).bind (fun x2 =>
      some (.inl (some (aI x2)), h)))
    else
      (gfR h o 16 10).bind (fun x3 =>
      (gaR h x3 ((((2 : Int32) * p0) + p1) - (4 : Int32))).bind (fun x4 =>
      (gfI h x4 13 1).bind (fun x5 =>
      some (.inl (some (aI x5)), h))))) rfl rfl rfl (fun R E => rfl)
-- ChipcardhouseModel$Lines.isSent(I)Z
set_option maxRecDepth 100000 in
theorem lf_213_0 (o : Option (Nat × Nat)) (p0 : Int32) (h : Hp) : Ru 213 0 [(0, aR o), (1, aI p0)] [] h =
    (gfR h o 16 15).bind (fun x1 =>
    (gaI h x1 1002 p0).bind (fun x2 =>
    gz x2 (some (.inl (some (aI x2)), h)))) :=
  lift_of (k := 6) (rows := code_213) (cuts := cut_213) (hs := hdl_213) (r := fun R E =>
    (gfR h o 16 15).bind (fun x1 =>
    (gaI h x1 1002 p0).bind (fun x2 =>
    gz x2 (some (.inl (some (aI x2)), h))))) rfl rfl rfl (fun R E => rfl)
-- ChipcardhouseModel$Mail.<init>(II)V
set_option maxRecDepth 100000 in
theorem lf_214_0 (o : Option (Nat × Nat)) (p0 : Int32) (p1 : Int32) (h : Hp) : Ru 214 0 [(0, aR o), (1, aI p0), (2, aI p1)] [] h =
    cV (Ex 420 [aR o] h) (fun h1 =>
    (pf h1 o 17 0 (aI p0)).bind (fun h2 =>
    (pf h2 o 17 1 (aI p1)).bind (fun h3 =>
    some (.inl none, h3)))) xT :=
  lift_of (k := 10) (rows := code_214) (cuts := cut_214) (hs := hdl_214) (r := fun R E =>
    cV (E 420 [aR o] h) (fun h1 =>
    (pf h1 o 17 0 (aI p0)).bind (fun h2 =>
    (pf h2 o 17 1 (aI p1)).bind (fun h3 =>
    some (.inl none, h3)))) xT) rfl rfl rfl (fun R E => rfl)
-- ChipcardhouseModel$Texts.<init>()V
set_option maxRecDepth 100000 in
theorem lf_215_0 (o : Option (Nat × Nat)) (h : Hp) : Ru 215 0 [(0, aR o)] [] h =
    cV (Ex 420 [aR o] h) (fun h1 =>
    (nwa h1 82 1034 (16 : Int32)).bind (fun q2 =>
    (paR q2.2 q2.1 (0 : Int32) (some (0, 11))).bind (fun h3 =>
    (paR h3 q2.1 (1 : Int32) (some (0, 12))).bind (fun h4 =>
    (paR h4 q2.1 (2 : Int32) (some (0, 13))).bind (fun h5 =>
    (paR h5 q2.1 (3 : Int32) (some (0, 14))).bind (fun h6 =>
    (paR h6 q2.1 (4 : Int32) (some (0, 15))).bind (fun h7 =>
    (paR h7 q2.1 (5 : Int32) (some (0, 16))).bind (fun h8 =>
    (paR h8 q2.1 (6 : Int32) (some (0, 17))).bind (fun h9 =>
    (paR h9 q2.1 (7 : Int32) (some (0, 18))).bind (fun h10 =>
    (paR h10 q2.1 (8 : Int32) (some (0, 19))).bind (fun h11 =>
    (paR h11 q2.1 (9 : Int32) (some (0, 20))).bind (fun h12 =>
    (paR h12 q2.1 (10 : Int32) (some (0, 21))).bind (fun h13 =>
    (paR h13 q2.1 (11 : Int32) (some (0, 22))).bind (fun h14 =>
    (paR h14 q2.1 (12 : Int32) (some (0, 23))).bind (fun h15 =>
    (paR h15 q2.1 (13 : Int32) (some (0, 24))).bind (fun h16 =>
    (paR h16 q2.1 (14 : Int32) (some (0, 25))).bind (fun h17 =>
    (paR h17 q2.1 (15 : Int32) (some (0, 26))).bind (fun h18 =>
    (pf h18 o 18 0 (aR q2.1)).bind (fun h19 =>
    (nwa h19 83 1000 (16 : Int32)).bind (fun q20 =>
    (pa q20.2 q20.1 1000 (0 : Int32) (aI (1 : Int32))).bind (fun h21 =>
    (pa h21 q20.1 1000 (1 : Int32) (aI (2 : Int32))).bind (fun h22 =>
    (pa h22 q20.1 1000 (2 : Int32) (aI (4 : Int32))).bind (fun h23 =>
    (pa h23 q20.1 1000 (3 : Int32) (aI (3 : Int32))).bind (fun h24 =>
    (pa h24 q20.1 1000 (4 : Int32) (aI (1 : Int32))).bind (fun h25 =>
    (pa h25 q20.1 1000 (5 : Int32) (aI (3 : Int32))).bind (fun h26 =>
    (pa h26 q20.1 1000 (6 : Int32) (aI (1 : Int32))).bind (fun h27 =>
    (pa h27 q20.1 1000 (7 : Int32) (aI (4 : Int32))).bind (fun h28 =>
    (pa h28 q20.1 1000 (8 : Int32) (aI (0 : Int32))).bind (fun h29 =>
    (pa h29 q20.1 1000 (9 : Int32) (aI (0 : Int32))).bind (fun h30 =>
    (pa h30 q20.1 1000 (10 : Int32) (aI (3 : Int32))).bind (fun h31 =>
    (pa h31 q20.1 1000 (11 : Int32) (aI (2 : Int32))).bind (fun h32 =>
    (pa h32 q20.1 1000 (12 : Int32) (aI (1 : Int32))).bind (fun h33 =>
    (pa h33 q20.1 1000 (13 : Int32) (aI (1 : Int32))).bind (fun h34 =>
    (pa h34 q20.1 1000 (14 : Int32) (aI (0 : Int32))).bind (fun h35 =>
    (pa h35 q20.1 1000 (15 : Int32) (aI (1 : Int32))).bind (fun h36 =>
    (pf h36 o 18 1 (aR q20.1)).bind (fun h37 =>
    (nwa h37 84 1000 (600 : Int32)).bind (fun q38 =>
    (pf q38.2 o 18 2 (aR q38.1)).bind (fun h39 =>
    (nwa h39 85 1000 (800 : Int32)).bind (fun q40 =>
    (pf q40.2 o 18 9 (aR q40.1)).bind (fun h41 =>
    some (.inl none, h41)))))))))))))))))))))))))))))))))))))))))) xT :=
  lift_of (k := 148) (rows := code_215) (cuts := cut_215) (hs := hdl_215) (r := fun R E =>
    cV (E 420 [aR o] h) (fun h1 =>
    (nwa h1 82 1034 (16 : Int32)).bind (fun q2 =>
    (paR q2.2 q2.1 (0 : Int32) (some (0, 11))).bind (fun h3 =>
    (paR h3 q2.1 (1 : Int32) (some (0, 12))).bind (fun h4 =>
    (paR h4 q2.1 (2 : Int32) (some (0, 13))).bind (fun h5 =>
    (paR h5 q2.1 (3 : Int32) (some (0, 14))).bind (fun h6 =>
    (paR h6 q2.1 (4 : Int32) (some (0, 15))).bind (fun h7 =>
    (paR h7 q2.1 (5 : Int32) (some (0, 16))).bind (fun h8 =>
    (paR h8 q2.1 (6 : Int32) (some (0, 17))).bind (fun h9 =>
    (paR h9 q2.1 (7 : Int32) (some (0, 18))).bind (fun h10 =>
    (paR h10 q2.1 (8 : Int32) (some (0, 19))).bind (fun h11 =>
    (paR h11 q2.1 (9 : Int32) (some (0, 20))).bind (fun h12 =>
    (paR h12 q2.1 (10 : Int32) (some (0, 21))).bind (fun h13 =>
    (paR h13 q2.1 (11 : Int32) (some (0, 22))).bind (fun h14 =>
    (paR h14 q2.1 (12 : Int32) (some (0, 23))).bind (fun h15 =>
    (paR h15 q2.1 (13 : Int32) (some (0, 24))).bind (fun h16 =>
    (paR h16 q2.1 (14 : Int32) (some (0, 25))).bind (fun h17 =>
    (paR h17 q2.1 (15 : Int32) (some (0, 26))).bind (fun h18 =>
    (pf h18 o 18 0 (aR q2.1)).bind (fun h19 =>
    (nwa h19 83 1000 (16 : Int32)).bind (fun q20 =>
    (pa q20.2 q20.1 1000 (0 : Int32) (aI (1 : Int32))).bind (fun h21 =>
    (pa h21 q20.1 1000 (1 : Int32) (aI (2 : Int32))).bind (fun h22 =>
    (pa h22 q20.1 1000 (2 : Int32) (aI (4 : Int32))).bind (fun h23 =>
    (pa h23 q20.1 1000 (3 : Int32) (aI (3 : Int32))).bind (fun h24 =>
    (pa h24 q20.1 1000 (4 : Int32) (aI (1 : Int32))).bind (fun h25 =>
    (pa h25 q20.1 1000 (5 : Int32) (aI (3 : Int32))).bind (fun h26 =>
    (pa h26 q20.1 1000 (6 : Int32) (aI (1 : Int32))).bind (fun h27 =>
    (pa h27 q20.1 1000 (7 : Int32) (aI (4 : Int32))).bind (fun h28 =>
    (pa h28 q20.1 1000 (8 : Int32) (aI (0 : Int32))).bind (fun h29 =>
    (pa h29 q20.1 1000 (9 : Int32) (aI (0 : Int32))).bind (fun h30 =>
    (pa h30 q20.1 1000 (10 : Int32) (aI (3 : Int32))).bind (fun h31 =>
    (pa h31 q20.1 1000 (11 : Int32) (aI (2 : Int32))).bind (fun h32 =>
    (pa h32 q20.1 1000 (12 : Int32) (aI (1 : Int32))).bind (fun h33 =>
    (pa h33 q20.1 1000 (13 : Int32) (aI (1 : Int32))).bind (fun h34 =>
    (pa h34 q20.1 1000 (14 : Int32) (aI (0 : Int32))).bind (fun h35 =>
    (pa h35 q20.1 1000 (15 : Int32) (aI (1 : Int32))).bind (fun h36 =>
    (pf h36 o 18 1 (aR q20.1)).bind (fun h37 =>
    (nwa h37 84 1000 (600 : Int32)).bind (fun q38 =>
    (pf q38.2 o 18 2 (aR q38.1)).bind (fun h39 =>
    (nwa h39 85 1000 (800 : Int32)).bind (fun q40 =>
    (pf q40.2 o 18 9 (aR q40.1)).bind (fun h41 =>
    some (.inl none, h41)))))))))))))))))))))))))))))))))))))))))) xT) rfl rfl rfl (fun R E => rfl)
-- ChipcardhouseModel$Texts.next()V
set_option maxRecDepth 100000 in
theorem lf_216_0 (o : Option (Nat × Nat)) (h : Hp) : Ru 216 0 [(0, aR o)] [] h =
    (gfI h o 18 4).bind (fun x1 =>
    (gfI h o 18 3).bind (fun x2 =>
    if x2 ≤ x1 then
      (gfI h o 18 4).bind (fun x3 =>
      (pf h o 18 6 (aI x3)).bind (fun h4 =>
      (gfI h4 o 18 4).bind (fun x5 =>
      (gfI h4 o 18 3).bind (fun x6 =>
      if x5 = x6 then
        (pf h4 o 18 5 (aI (5 : Int32))).bind (fun h7 =>
        some (.inl none, h7))
      else
        (gfR h4 o 18 2).bind (fun x8 =>
        (gfI h4 o 18 4).bind (fun x9 =>
        (gaI h4 x8 1000 x9).bind (fun x10 =>
        if x10 < (97 : Int32) then
          if x10 < (48 : Int32) then
            Ru 216 108 [(0, aR o), (1, aI x10), (2, aI (0 : Int32))] [aI (0 : Int32)] h4
          else
            if (57 : Int32) < x10 then
              Ru 216 108 [(0, aR o), (1, aI x10), (2, aI (0 : Int32))] [aI (0 : Int32)] h4
            else
              Ru 216 108 [(0, aR o), (1, aI x10), (2, aI (0 : Int32))] [aI (1 : Int32)] h4
        else
          if (122 : Int32) < x10 then
            if x10 < (48 : Int32) then
              Ru 216 108 [(0, aR o), (1, aI x10), (2, aI (0 : Int32))] [aI (0 : Int32)] h4
            else
              if (57 : Int32) < x10 then
                Ru 216 108 [(0, aR o), (1, aI x10), (2, aI (0 : Int32))] [aI (0 : Int32)] h4
              else
                Ru 216 108 [(0, aR o), (1, aI x10), (2, aI (0 : Int32))] [aI (1 : Int32)] h4
          else
            if x10 < (48 : Int32) then
              Ru 216 108 [(0, aR o), (1, aI x10), (2, aI (1 : Int32))] [aI (0 : Int32)] h4
            else
              if (57 : Int32) < x10 then
                Ru 216 108 [(0, aR o), (1, aI x10), (2, aI (1 : Int32))] [aI (0 : Int32)] h4
              else
                Ru 216 108 [(0, aR o), (1, aI x10), (2, aI (1 : Int32))] [aI (1 : Int32)] h4)))))))
    else
      (gfR h o 18 2).bind (fun x11 =>
      (gfI h o 18 4).bind (fun x12 =>
      (gaI h x11 1000 x12).bind (fun x13 =>
      if x13 = (32 : Int32) then
        (gfI h o 18 4).bind (fun x14 =>
        (pf h o 18 4 (aI (x14 + (1 : Int32)))).bind (fun h15 =>
        Ru 216 0 [(0, aR o)] [] h15))
      else
        (gfI h o 18 4).bind (fun x16 =>
        (pf h o 18 6 (aI x16)).bind (fun h17 =>
        (gfI h17 o 18 4).bind (fun x18 =>
        (gfI h17 o 18 3).bind (fun x19 =>
        if x18 = x19 then
          (pf h17 o 18 5 (aI (5 : Int32))).bind (fun h20 =>
          some (.inl none, h20))
        else
          (gfR h17 o 18 2).bind (fun x21 =>
          (gfI h17 o 18 4).bind (fun x22 =>
          (gaI h17 x21 1000 x22).bind (fun x23 =>
          if x23 < (97 : Int32) then
            if x23 < (48 : Int32) then
              Ru 216 108 [(0, aR o), (1, aI x23), (2, aI (0 : Int32))] [aI (0 : Int32)] h17
            else
              if (57 : Int32) < x23 then
                Ru 216 108 [(0, aR o), (1, aI x23), (2, aI (0 : Int32))] [aI (0 : Int32)] h17
              else
                Ru 216 108 [(0, aR o), (1, aI x23), (2, aI (0 : Int32))] [aI (1 : Int32)] h17
          else
            if (122 : Int32) < x23 then
              if x23 < (48 : Int32) then
                Ru 216 108 [(0, aR o), (1, aI x23), (2, aI (0 : Int32))] [aI (0 : Int32)] h17
              else
                if (57 : Int32) < x23 then
                  Ru 216 108 [(0, aR o), (1, aI x23), (2, aI (0 : Int32))] [aI (0 : Int32)] h17
                else
                  Ru 216 108 [(0, aR o), (1, aI x23), (2, aI (0 : Int32))] [aI (1 : Int32)] h17
            else
              if x23 < (48 : Int32) then
                Ru 216 108 [(0, aR o), (1, aI x23), (2, aI (1 : Int32))] [aI (0 : Int32)] h17
              else
                if (57 : Int32) < x23 then
                  Ru 216 108 [(0, aR o), (1, aI x23), (2, aI (1 : Int32))] [aI (0 : Int32)] h17
                else
                  Ru 216 108 [(0, aR o), (1, aI x23), (2, aI (1 : Int32))] [aI (1 : Int32)] h17)))))))))))) :=
  lift_of (k := 45) (rows := code_216) (cuts := cut_216) (hs := hdl_216) (r := fun R E =>
    (gfI h o 18 4).bind (fun x1 =>
    (gfI h o 18 3).bind (fun x2 =>
    if x2 ≤ x1 then
      (gfI h o 18 4).bind (fun x3 =>
      (pf h o 18 6 (aI x3)).bind (fun h4 =>
      (gfI h4 o 18 4).bind (fun x5 =>
      (gfI h4 o 18 3).bind (fun x6 =>
      if x5 = x6 then
        (pf h4 o 18 5 (aI (5 : Int32))).bind (fun h7 =>
        some (.inl none, h7))
      else
        (gfR h4 o 18 2).bind (fun x8 =>
        (gfI h4 o 18 4).bind (fun x9 =>
        (gaI h4 x8 1000 x9).bind (fun x10 =>
        if x10 < (97 : Int32) then
          if x10 < (48 : Int32) then
            R 108 [(0, aR o), (1, aI x10), (2, aI (0 : Int32))] [aI (0 : Int32)] h4
          else
            if (57 : Int32) < x10 then
              R 108 [(0, aR o), (1, aI x10), (2, aI (0 : Int32))] [aI (0 : Int32)] h4
            else
              R 108 [(0, aR o), (1, aI x10), (2, aI (0 : Int32))] [aI (1 : Int32)] h4
        else
          if (122 : Int32) < x10 then
            if x10 < (48 : Int32) then
              R 108 [(0, aR o), (1, aI x10), (2, aI (0 : Int32))] [aI (0 : Int32)] h4
            else
              if (57 : Int32) < x10 then
                R 108 [(0, aR o), (1, aI x10), (2, aI (0 : Int32))] [aI (0 : Int32)] h4
              else
                R 108 [(0, aR o), (1, aI x10), (2, aI (0 : Int32))] [aI (1 : Int32)] h4
          else
            if x10 < (48 : Int32) then
              R 108 [(0, aR o), (1, aI x10), (2, aI (1 : Int32))] [aI (0 : Int32)] h4
            else
              if (57 : Int32) < x10 then
                R 108 [(0, aR o), (1, aI x10), (2, aI (1 : Int32))] [aI (0 : Int32)] h4
              else
                R 108 [(0, aR o), (1, aI x10), (2, aI (1 : Int32))] [aI (1 : Int32)] h4)))))))
    else
      (gfR h o 18 2).bind (fun x11 =>
      (gfI h o 18 4).bind (fun x12 =>
      (gaI h x11 1000 x12).bind (fun x13 =>
      if x13 = (32 : Int32) then
        (gfI h o 18 4).bind (fun x14 =>
        (pf h o 18 4 (aI (x14 + (1 : Int32)))).bind (fun h15 =>
        R 0 [(0, aR o)] [] h15))
      else
        (gfI h o 18 4).bind (fun x16 =>
        (pf h o 18 6 (aI x16)).bind (fun h17 =>
        (gfI h17 o 18 4).bind (fun x18 =>
        (gfI h17 o 18 3).bind (fun x19 =>
        if x18 = x19 then
          (pf h17 o 18 5 (aI (5 : Int32))).bind (fun h20 =>
          some (.inl none, h20))
        else
          (gfR h17 o 18 2).bind (fun x21 =>
          (gfI h17 o 18 4).bind (fun x22 =>
          (gaI h17 x21 1000 x22).bind (fun x23 =>
          if x23 < (97 : Int32) then
            if x23 < (48 : Int32) then
              R 108 [(0, aR o), (1, aI x23), (2, aI (0 : Int32))] [aI (0 : Int32)] h17
            else
              if (57 : Int32) < x23 then
                R 108 [(0, aR o), (1, aI x23), (2, aI (0 : Int32))] [aI (0 : Int32)] h17
              else
                R 108 [(0, aR o), (1, aI x23), (2, aI (0 : Int32))] [aI (1 : Int32)] h17
          else
            if (122 : Int32) < x23 then
              if x23 < (48 : Int32) then
                R 108 [(0, aR o), (1, aI x23), (2, aI (0 : Int32))] [aI (0 : Int32)] h17
              else
                if (57 : Int32) < x23 then
                  R 108 [(0, aR o), (1, aI x23), (2, aI (0 : Int32))] [aI (0 : Int32)] h17
                else
                  R 108 [(0, aR o), (1, aI x23), (2, aI (0 : Int32))] [aI (1 : Int32)] h17
            else
              if x23 < (48 : Int32) then
                R 108 [(0, aR o), (1, aI x23), (2, aI (1 : Int32))] [aI (0 : Int32)] h17
              else
                if (57 : Int32) < x23 then
                  R 108 [(0, aR o), (1, aI x23), (2, aI (1 : Int32))] [aI (0 : Int32)] h17
                else
                  R 108 [(0, aR o), (1, aI x23), (2, aI (1 : Int32))] [aI (1 : Int32)] h17))))))))))))) rfl rfl rfl (fun R E => rfl)
set_option maxRecDepth 100000 in
theorem lf_216_108 (o : Option (Nat × Nat)) (v1 : Int32) (v2 : Int32) (s0 : Int32) (h : Hp) : Ru 216 108 [(0, aR o), (1, aI v1), (2, aI v2)] [aI s0] h =
    if v2 = 0 then
      if s0 = 0 then
        if v1 = (59 : Int32) then
          Ru 216 137 [(0, aR o), (2, aI v2), (3, aI s0)] [aI (3 : Int32), aR o] h
        else
          Ru 216 137 [(0, aR o), (2, aI v2), (3, aI s0)] [aI (4 : Int32), aR o] h
      else
        Ru 216 137 [(0, aR o), (2, aI v2), (3, aI s0)] [aI (2 : Int32), aR o] h
    else
      Ru 216 137 [(0, aR o), (2, aI v2), (3, aI s0)] [aI (1 : Int32), aR o] h :=
  lift_of (k := 12) (rows := code_216) (cuts := cut_216) (hs := hdl_216) (r := fun R E =>
    if v2 = 0 then
      if s0 = 0 then
        if v1 = (59 : Int32) then
          R 137 [(0, aR o), (2, aI v2), (3, aI s0)] [aI (3 : Int32), aR o] h
        else
          R 137 [(0, aR o), (2, aI v2), (3, aI s0)] [aI (4 : Int32), aR o] h
      else
        R 137 [(0, aR o), (2, aI v2), (3, aI s0)] [aI (2 : Int32), aR o] h
    else
      R 137 [(0, aR o), (2, aI v2), (3, aI s0)] [aI (1 : Int32), aR o] h) rfl rfl rfl (fun R E => rfl)
set_option maxRecDepth 100000 in
theorem lf_216_137 (o : Option (Nat × Nat)) (v2 : Int32) (v3 : Int32) (s0 : Option (Nat × Nat)) (s1 : Int32) (h : Hp) : Ru 216 137 [(0, aR o), (2, aI v2), (3, aI v3)] [aI s1, aR s0] h =
    (pf h s0 18 5 (aI s1)).bind (fun h1 =>
    (pf h1 o 18 7 (aI (0 : Int32))).bind (fun h2 =>
    Ru 216 145 [(0, aR o), (2, aI v2), (3, aI v3)] [] h2)) :=
  lift_of (k := 5) (rows := code_216) (cuts := cut_216) (hs := hdl_216) (r := fun R E =>
    (pf h s0 18 5 (aI s1)).bind (fun h1 =>
    (pf h1 o 18 7 (aI (0 : Int32))).bind (fun h2 =>
    R 145 [(0, aR o), (2, aI v2), (3, aI v3)] [] h2))) rfl rfl rfl (fun R E => rfl)
set_option maxRecDepth 100000 in
theorem lf_216_145 (o : Option (Nat × Nat)) (v2 : Int32) (v3 : Int32) (h : Hp) : Ru 216 145 [(0, aR o), (2, aI v2), (3, aI v3)] [] h =
    if v3 = 0 then
      Ru 216 187 [(0, aR o), (2, aI v2), (3, aI v3)] [aR o] h
    else
      (gfI h o 18 4).bind (fun x1 =>
      (gfI h o 18 6).bind (fun x2 =>
      if (7 : Int32) ≤ (x1 - x2) then
        Ru 216 187 [(0, aR o), (2, aI v2), (3, aI v3)] [aR o] h
      else
        (gfI h o 18 7).bind (fun x3 =>
        (gfR h o 18 2).bind (fun x4 =>
        (gfI h o 18 4).bind (fun x5 =>
        (gaI h x4 1000 x5).bind (fun x6 =>
        Ru 216 191 [(0, aR o), (2, aI v2), (3, aI v3)] [aI ((((10 : Int32) * x3) + x6) - (48 : Int32)), aR o] h)))))) :=
  lift_of (k := 24) (rows := code_216) (cuts := cut_216) (hs := hdl_216) (r := fun R E =>
    if v3 = 0 then
      R 187 [(0, aR o), (2, aI v2), (3, aI v3)] [aR o] h
    else
      (gfI h o 18 4).bind (fun x1 =>
      (gfI h o 18 6).bind (fun x2 =>
      if (7 : Int32) ≤ (x1 - x2) then
        R 187 [(0, aR o), (2, aI v2), (3, aI v3)] [aR o] h
      else
        (gfI h o 18 7).bind (fun x3 =>
        (gfR h o 18 2).bind (fun x4 =>
        (gfI h o 18 4).bind (fun x5 =>
        (gaI h x4 1000 x5).bind (fun x6 =>
        R 191 [(0, aR o), (2, aI v2), (3, aI v3)] [aI ((((10 : Int32) * x3) + x6) - (48 : Int32)), aR o] h))))))) rfl rfl rfl (fun R E => rfl)
set_option maxRecDepth 100000 in
theorem lf_216_191 (o : Option (Nat × Nat)) (v2 : Int32) (v3 : Int32) (s0 : Option (Nat × Nat)) (s1 : Int32) (h : Hp) : Ru 216 191 [(0, aR o), (2, aI v2), (3, aI v3)] [aI s1, aR s0] h =
    (pf h s0 18 7 (aI s1)).bind (fun h1 =>
    (gfI h1 o 18 4).bind (fun x2 =>
    (pf h1 o 18 4 (aI (x2 + (1 : Int32)))).bind (fun h3 =>
    (gfI h3 o 18 4).bind (fun x4 =>
    (gfI h3 o 18 3).bind (fun x5 =>
    if x5 ≤ x4 then
      Ru 216 279 [(0, aR o), (3, aI v3)] [] h3
    else
      if v2 = 0 then
        if v3 = 0 then
          Ru 216 279 [(0, aR o), (3, aI v3)] [] h3
        else
          (gfR h3 o 18 2).bind (fun x6 =>
          (gfI h3 o 18 4).bind (fun x7 =>
          (gaI h3 x6 1000 x7).bind (fun x8 =>
          if x8 < (48 : Int32) then
            Ru 216 279 [(0, aR o), (3, aI v3)] [] h3
          else
            (gfR h3 o 18 2).bind (fun x9 =>
            (gfI h3 o 18 4).bind (fun x10 =>
            (gaI h3 x9 1000 x10).bind (fun x11 =>
            if x11 ≤ (57 : Int32) then
              Ru 216 145 [(0, aR o), (2, aI v2), (3, aI v3)] [] h3
            else
              Ru 216 279 [(0, aR o), (3, aI v3)] [] h3))))))
      else
        (gfR h3 o 18 2).bind (fun x12 =>
        (gfI h3 o 18 4).bind (fun x13 =>
        (gaI h3 x12 1000 x13).bind (fun x14 =>
        if x14 < (97 : Int32) then
          if v3 = 0 then
            Ru 216 279 [(0, aR o), (3, aI v3)] [] h3
          else
            (gfR h3 o 18 2).bind (fun x15 =>
            (gfI h3 o 18 4).bind (fun x16 =>
            (gaI h3 x15 1000 x16).bind (fun x17 =>
            if x17 < (48 : Int32) then
              Ru 216 279 [(0, aR o), (3, aI v3)] [] h3
            else
              (gfR h3 o 18 2).bind (fun x18 =>
              (gfI h3 o 18 4).bind (fun x19 =>
              (gaI h3 x18 1000 x19).bind (fun x20 =>
              if x20 ≤ (57 : Int32) then
                Ru 216 145 [(0, aR o), (2, aI v2), (3, aI v3)] [] h3
              else
                Ru 216 279 [(0, aR o), (3, aI v3)] [] h3))))))
        else
          (gfR h3 o 18 2).bind (fun x21 =>
          (gfI h3 o 18 4).bind (fun x22 =>
          (gaI h3 x21 1000 x22).bind (fun x23 =>
          if x23 ≤ (122 : Int32) then
            Ru 216 145 [(0, aR o), (2, aI v2), (3, aI v3)] [] h3
          else
            if v3 = 0 then
              Ru 216 279 [(0, aR o), (3, aI v3)] [] h3
            else
              (gfR h3 o 18 2).bind (fun x24 =>
              (gfI h3 o 18 4).bind (fun x25 =>
              (gaI h3 x24 1000 x25).bind (fun x26 =>
              if x26 < (48 : Int32) then
                Ru 216 279 [(0, aR o), (3, aI v3)] [] h3
              else
                (gfR h3 o 18 2).bind (fun x27 =>
                (gfI h3 o 18 4).bind (fun x28 =>
                (gaI h3 x27 1000 x28).bind (fun x29 =>
                if x29 ≤ (57 : Int32) then
                  Ru 216 145 [(0, aR o), (2, aI v2), (3, aI v3)] [] h3
                else
                  Ru 216 279 [(0, aR o), (3, aI v3)] [] h3))))))))))))))))) :=
  lift_of (k := 45) (rows := code_216) (cuts := cut_216) (hs := hdl_216) (r := fun R E =>
    (pf h s0 18 7 (aI s1)).bind (fun h1 =>
    (gfI h1 o 18 4).bind (fun x2 =>
    (pf h1 o 18 4 (aI (x2 + (1 : Int32)))).bind (fun h3 =>
    (gfI h3 o 18 4).bind (fun x4 =>
    (gfI h3 o 18 3).bind (fun x5 =>
    if x5 ≤ x4 then
      R 279 [(0, aR o), (3, aI v3)] [] h3
    else
      if v2 = 0 then
        if v3 = 0 then
          R 279 [(0, aR o), (3, aI v3)] [] h3
        else
          (gfR h3 o 18 2).bind (fun x6 =>
          (gfI h3 o 18 4).bind (fun x7 =>
          (gaI h3 x6 1000 x7).bind (fun x8 =>
          if x8 < (48 : Int32) then
            R 279 [(0, aR o), (3, aI v3)] [] h3
          else
            (gfR h3 o 18 2).bind (fun x9 =>
            (gfI h3 o 18 4).bind (fun x10 =>
            (gaI h3 x9 1000 x10).bind (fun x11 =>
            if x11 ≤ (57 : Int32) then
              R 145 [(0, aR o), (2, aI v2), (3, aI v3)] [] h3
            else
              R 279 [(0, aR o), (3, aI v3)] [] h3))))))
      else
        (gfR h3 o 18 2).bind (fun x12 =>
        (gfI h3 o 18 4).bind (fun x13 =>
        (gaI h3 x12 1000 x13).bind (fun x14 =>
        if x14 < (97 : Int32) then
          if v3 = 0 then
            R 279 [(0, aR o), (3, aI v3)] [] h3
          else
            (gfR h3 o 18 2).bind (fun x15 =>
            (gfI h3 o 18 4).bind (fun x16 =>
            (gaI h3 x15 1000 x16).bind (fun x17 =>
            if x17 < (48 : Int32) then
              R 279 [(0, aR o), (3, aI v3)] [] h3
            else
              (gfR h3 o 18 2).bind (fun x18 =>
              (gfI h3 o 18 4).bind (fun x19 =>
              (gaI h3 x18 1000 x19).bind (fun x20 =>
              if x20 ≤ (57 : Int32) then
                R 145 [(0, aR o), (2, aI v2), (3, aI v3)] [] h3
              else
                R 279 [(0, aR o), (3, aI v3)] [] h3))))))
        else
          (gfR h3 o 18 2).bind (fun x21 =>
          (gfI h3 o 18 4).bind (fun x22 =>
          (gaI h3 x21 1000 x22).bind (fun x23 =>
          if x23 ≤ (122 : Int32) then
            R 145 [(0, aR o), (2, aI v2), (3, aI v3)] [] h3
          else
            if v3 = 0 then
              R 279 [(0, aR o), (3, aI v3)] [] h3
            else
              (gfR h3 o 18 2).bind (fun x24 =>
              (gfI h3 o 18 4).bind (fun x25 =>
              (gaI h3 x24 1000 x25).bind (fun x26 =>
              if x26 < (48 : Int32) then
                R 279 [(0, aR o), (3, aI v3)] [] h3
              else
                (gfR h3 o 18 2).bind (fun x27 =>
                (gfI h3 o 18 4).bind (fun x28 =>
                (gaI h3 x27 1000 x28).bind (fun x29 =>
                if x29 ≤ (57 : Int32) then
                  R 145 [(0, aR o), (2, aI v2), (3, aI v3)] [] h3
                else
                  R 279 [(0, aR o), (3, aI v3)] [] h3)))))))))))))))))) rfl rfl rfl (fun R E => rfl)
set_option maxRecDepth 100000 in
theorem lf_216_279 (o : Option (Nat × Nat)) (v3 : Int32) (h : Hp) : Ru 216 279 [(0, aR o), (3, aI v3)] [] h =
    if v3 = 0 then
      Ru 216 302 [(0, aR o)] [aR o] h
    else
      (gfI h o 18 4).bind (fun x1 =>
      (gfI h o 18 6).bind (fun x2 =>
      if (x1 - x2) ≤ (7 : Int32) then
        Ru 216 302 [(0, aR o)] [aR o] h
      else
        (pf h o 18 5 (aI (4 : Int32))).bind (fun h3 =>
        some (.inl none, h3)))) :=
  lift_of (k := 15) (rows := code_216) (cuts := cut_216) (hs := hdl_216) (r := fun R E =>
    if v3 = 0 then
      R 302 [(0, aR o)] [aR o] h
    else
      (gfI h o 18 4).bind (fun x1 =>
      (gfI h o 18 6).bind (fun x2 =>
      if (x1 - x2) ≤ (7 : Int32) then
        R 302 [(0, aR o)] [aR o] h
      else
        (pf h o 18 5 (aI (4 : Int32))).bind (fun h3 =>
        some (.inl none, h3))))) rfl rfl rfl (fun R E => rfl)
set_option maxRecDepth 100000 in
theorem lf_216_302 (o : Option (Nat × Nat)) (s0 : Option (Nat × Nat)) (h : Hp) : Ru 216 302 [(0, aR o)] [aR s0] h =
    (gfI h o 18 5).bind (fun x1 =>
    (pf h s0 18 5 (aI x1)).bind (fun h2 =>
    some (.inl none, h2))) :=
  lift_of (k := 5) (rows := code_216) (cuts := cut_216) (hs := hdl_216) (r := fun R E =>
    (gfI h o 18 5).bind (fun x1 =>
    (pf h s0 18 5 (aI x1)).bind (fun h2 =>
    some (.inl none, h2)))) rfl rfl rfl (fun R E => rfl)
set_option maxRecDepth 100000 in
theorem lf_216_187 (o : Option (Nat × Nat)) (v2 : Int32) (v3 : Int32) (s0 : Option (Nat × Nat)) (h : Hp) : Ru 216 187 [(0, aR o), (2, aI v2), (3, aI v3)] [aR s0] h =
    (gfI h o 18 7).bind (fun x1 =>
    Ru 216 191 [(0, aR o), (2, aI v2), (3, aI v3)] [aI x1, aR s0] h) :=
  lift_of (k := 3) (rows := code_216) (cuts := cut_216) (hs := hdl_216) (r := fun R E =>
    (gfI h o 18 7).bind (fun x1 =>
    R 191 [(0, aR o), (2, aI v2), (3, aI v3)] [aI x1, aR s0] h)) rfl rfl rfl (fun R E => rfl)
-- ChipcardhouseModel$Texts.isWord(Ljava/lang/String;)Z
set_option maxRecDepth 100000 in
theorem lf_217_0 (o : Option (Nat × Nat)) (p0 : Option (Nat × Nat)) (h : Hp) : Ru 217 0 [(0, aR o), (1, aR p0)] [] h =
    (gfI h o 18 5).bind (fun x1 =>
    if x1 = (1 : Int32) then
      (gfI h o 18 4).bind (fun x2 =>
      (gfI h o 18 6).bind (fun x3 =>
      cI (Ex 415 [aR p0] h) (fun x5 h4 =>
      if (x2 - x3) = x5 then
        Ru 217 32 [(0, aR o), (1, aR p0), (2, aI (1 : Int32)), (3, aI (0 : Int32))] [] h4
      else
        Ru 217 32 [(0, aR o), (1, aR p0), (2, aI (0 : Int32)), (3, aI (0 : Int32))] [] h4) xT))
    else
      Ru 217 32 [(0, aR o), (1, aR p0), (2, aI (0 : Int32)), (3, aI (0 : Int32))] [] h) :=
  lift_of (k := 18) (rows := code_217) (cuts := cut_217) (hs := hdl_217) (r := fun R E =>
    (gfI h o 18 5).bind (fun x1 =>
    if x1 = (1 : Int32) then
      (gfI h o 18 4).bind (fun x2 =>
      (gfI h o 18 6).bind (fun x3 =>
      cI (E 415 [aR p0] h) (fun x5 h4 =>
      if (x2 - x3) = x5 then
        R 32 [(0, aR o), (1, aR p0), (2, aI (1 : Int32)), (3, aI (0 : Int32))] [] h4
      else
        R 32 [(0, aR o), (1, aR p0), (2, aI (0 : Int32)), (3, aI (0 : Int32))] [] h4) xT))
    else
      R 32 [(0, aR o), (1, aR p0), (2, aI (0 : Int32)), (3, aI (0 : Int32))] [] h)) rfl rfl rfl (fun R E => rfl)
set_option maxRecDepth 100000 in
theorem lf_217_32 (o : Option (Nat × Nat)) (v1 : Option (Nat × Nat)) (v2 : Int32) (v3 : Int32) (h : Hp) : Ru 217 32 [(0, aR o), (1, aR v1), (2, aI v2), (3, aI v3)] [] h =
    cI (Ex 415 [aR v1] h) (fun x2 h1 =>
    if x2 ≤ v3 then
      gz v2 (some (.inl (some (aI v2)), h1))
    else
      if v2 = 0 then
        gz v2 (some (.inl (some (aI v2)), h1))
      else
        (gfR h1 o 18 2).bind (fun x3 =>
        (gfI h1 o 18 6).bind (fun x4 =>
        (gaI h1 x3 1000 (x4 + v3)).bind (fun x5 =>
        cI (Ex 416 [aR v1, aI v3] h1) (fun x7 h6 =>
        if x5 = x7 then
          Ru 217 32 [(0, aR o), (1, aR v1), (2, aI (1 : Int32)), (3, aI (v3 + (1 : Int32)))] [] h6
        else
          Ru 217 32 [(0, aR o), (1, aR v1), (2, aI (0 : Int32)), (3, aI (v3 + (1 : Int32)))] [] h6) xT)))) xT :=
  lift_of (k := 23) (rows := code_217) (cuts := cut_217) (hs := hdl_217) (r := fun R E =>
    cI (E 415 [aR v1] h) (fun x2 h1 =>
    if x2 ≤ v3 then
      gz v2 (some (.inl (some (aI v2)), h1))
    else
      if v2 = 0 then
        gz v2 (some (.inl (some (aI v2)), h1))
      else
        (gfR h1 o 18 2).bind (fun x3 =>
        (gfI h1 o 18 6).bind (fun x4 =>
        (gaI h1 x3 1000 (x4 + v3)).bind (fun x5 =>
        cI (E 416 [aR v1, aI v3] h1) (fun x7 h6 =>
        if x5 = x7 then
          R 32 [(0, aR o), (1, aR v1), (2, aI (1 : Int32)), (3, aI (v3 + (1 : Int32)))] [] h6
        else
          R 32 [(0, aR o), (1, aR v1), (2, aI (0 : Int32)), (3, aI (v3 + (1 : Int32)))] [] h6) xT)))) xT) rfl rfl rfl (fun R E => rfl)
-- ChipcardhouseModel$Texts.cannot()Z
set_option maxRecDepth 100000 in
theorem lf_218_0 (o : Option (Nat × Nat)) (h : Hp) : Ru 218 0 [(0, aR o)] [] h =
    (gfI h o 18 6).bind (fun x1 =>
    (pf h o 18 8 (aI x1)).bind (fun h2 =>
    some (.inl (some (aI (0 : Int32))), h2))) :=
  lift_of (k := 7) (rows := code_218) (cuts := cut_218) (hs := hdl_218) (r := fun R E =>
    (gfI h o 18 6).bind (fun x1 =>
    (pf h o 18 8 (aI x1)).bind (fun h2 =>
    some (.inl (some (aI (0 : Int32))), h2)))) rfl rfl rfl (fun R E => rfl)
-- ChipcardhouseModel$Texts.takesNumber(I)Z
set_option maxRecDepth 100000 in
theorem lf_219_0 (o : Option (Nat × Nat)) (p0 : Int32) (h : Hp) : Ru 219 0 [(0, aR o), (1, aI p0)] [] h =
    (gfI h o 18 5).bind (fun x1 =>
    if x1 = (2 : Int32) then
      (gfR h o 18 9).bind (fun x2 =>
      (gfI h o 18 10).bind (fun x3 =>
      (gfI h o 18 7).bind (fun x4 =>
      (pa h x2 1000 (((5 : Int32) * x3) + p0) (aI x4)).bind (fun h5 =>
      cV (Ex 216 [aR o] h5) (fun h6 =>
      some (.inl (some (aI (1 : Int32))), h6)) xT))))
    else
      cI (Ex 218 [aR o] h) (fun x8 h7 =>
      gz x8 (some (.inl (some (aI x8)), h7))) xT) :=
  lift_of (k := 20) (rows := code_219) (cuts := cut_219) (hs := hdl_219) (r := fun R E =>
    (gfI h o 18 5).bind (fun x1 =>
    if x1 = (2 : Int32) then
      (gfR h o 18 9).bind (fun x2 =>
      (gfI h o 18 10).bind (fun x3 =>
      (gfI h o 18 7).bind (fun x4 =>
      (pa h x2 1000 (((5 : Int32) * x3) + p0) (aI x4)).bind (fun h5 =>
      cV (E 216 [aR o] h5) (fun h6 =>
      some (.inl (some (aI (1 : Int32))), h6)) xT))))
    else
      cI (E 218 [aR o] h) (fun x8 h7 =>
      gz x8 (some (.inl (some (aI x8)), h7))) xT)) rfl rfl rfl (fun R E => rfl)
-- ChipcardhouseModel$Texts.takesPin()Z
set_option maxRecDepth 100000 in
theorem lf_220_0 (o : Option (Nat × Nat)) (h : Hp) : Ru 220 0 [(0, aR o)] [] h =
    cI (Ex 217 [aR o, aR (some (0, 10))] h) (fun x2 h1 =>
    if x2 = 0 then
      cI (Ex 219 [aR o, aI (4 : Int32)] h1) (fun x4 h3 =>
      gz x4 (some (.inl (some (aI x4)), h3))) xT
    else
      (gfR h1 o 18 9).bind (fun x5 =>
      (gfI h1 o 18 10).bind (fun x6 =>
      (pa h1 x5 1000 (((5 : Int32) * x6) + (4 : Int32)) (aI (-1 : Int32))).bind (fun h7 =>
      cV (Ex 216 [aR o] h7) (fun h8 =>
      some (.inl (some (aI (1 : Int32))), h8)) xT)))) xT :=
  lift_of (k := 19) (rows := code_220) (cuts := cut_220) (hs := hdl_220) (r := fun R E =>
    cI (E 217 [aR o, aR (some (0, 10))] h) (fun x2 h1 =>
    if x2 = 0 then
      cI (E 219 [aR o, aI (4 : Int32)] h1) (fun x4 h3 =>
      gz x4 (some (.inl (some (aI x4)), h3))) xT
    else
      (gfR h1 o 18 9).bind (fun x5 =>
      (gfI h1 o 18 10).bind (fun x6 =>
      (pa h1 x5 1000 (((5 : Int32) * x6) + (4 : Int32)) (aI (-1 : Int32))).bind (fun h7 =>
      cV (E 216 [aR o] h7) (fun h8 =>
      some (.inl (some (aI (1 : Int32))), h8)) xT)))) xT) rfl rfl rfl (fun R E => rfl)
-- ChipcardhouseModel$Texts.takesCommand()Z
set_option maxRecDepth 100000 in
theorem lf_221_0 (o : Option (Nat × Nat)) (h : Hp) : Ru 221 0 [(0, aR o)] [] h =
    Ru 221 2 [(0, aR o), (1, aI (0 : Int32))] [] h :=
  lift_of (k := 3) (rows := code_221) (cuts := cut_221) (hs := hdl_221) (r := fun R E =>
    R 2 [(0, aR o), (1, aI (0 : Int32))] [] h) rfl rfl rfl (fun R E => rfl)
set_option maxRecDepth 100000 in
theorem lf_221_2 (o : Option (Nat × Nat)) (v1 : Int32) (h : Hp) : Ru 221 2 [(0, aR o), (1, aI v1)] [] h =
    (gfR h o 18 0).bind (fun x1 =>
    (len h x1).bind (fun x2 =>
    if x2 ≤ v1 then
      (gfR h o 18 0).bind (fun x3 =>
      (len h x3).bind (fun x4 =>
      if v1 = x4 then
        cI (Ex 218 [aR o] h) (fun x6 h5 =>
        gz x6 (some (.inl (some (aI x6)), h5))) xT
      else
        (gfR h o 18 9).bind (fun x7 =>
        (gfI h o 18 10).bind (fun x8 =>
        (pa h x7 1000 ((5 : Int32) * x8) (aI v1)).bind (fun h9 =>
        cV (Ex 216 [aR o] h9) (fun h10 =>
        Ru 221 62 [(0, aR o), (1, aI v1), (2, aI (1 : Int32))] [] h10) xT)))))
    else
      (gfR h o 18 0).bind (fun x11 =>
      (gaR h x11 v1).bind (fun x12 =>
      cI (Ex 217 [aR o, aR x12] h) (fun x14 h13 =>
      if x14 = 0 then
        Ru 221 2 [(0, aR o), (1, aI (v1 + (1 : Int32)))] [] h13
      else
        (gfR h13 o 18 0).bind (fun x15 =>
        (len h13 x15).bind (fun x16 =>
        if v1 = x16 then
          cI (Ex 218 [aR o] h13) (fun x18 h17 =>
          gz x18 (some (.inl (some (aI x18)), h17))) xT
        else
          (gfR h13 o 18 9).bind (fun x19 =>
          (gfI h13 o 18 10).bind (fun x20 =>
          (pa h13 x19 1000 ((5 : Int32) * x20) (aI v1)).bind (fun h21 =>
          cV (Ex 216 [aR o] h21) (fun h22 =>
          Ru 221 62 [(0, aR o), (1, aI v1), (2, aI (1 : Int32))] [] h22) xT)))))) xT)))) :=
  lift_of (k := 30) (rows := code_221) (cuts := cut_221) (hs := hdl_221) (r := fun R E =>
    (gfR h o 18 0).bind (fun x1 =>
    (len h x1).bind (fun x2 =>
    if x2 ≤ v1 then
      (gfR h o 18 0).bind (fun x3 =>
      (len h x3).bind (fun x4 =>
      if v1 = x4 then
        cI (E 218 [aR o] h) (fun x6 h5 =>
        gz x6 (some (.inl (some (aI x6)), h5))) xT
      else
        (gfR h o 18 9).bind (fun x7 =>
        (gfI h o 18 10).bind (fun x8 =>
        (pa h x7 1000 ((5 : Int32) * x8) (aI v1)).bind (fun h9 =>
        cV (E 216 [aR o] h9) (fun h10 =>
        R 62 [(0, aR o), (1, aI v1), (2, aI (1 : Int32))] [] h10) xT)))))
    else
      (gfR h o 18 0).bind (fun x11 =>
      (gaR h x11 v1).bind (fun x12 =>
      cI (E 217 [aR o, aR x12] h) (fun x14 h13 =>
      if x14 = 0 then
        R 2 [(0, aR o), (1, aI (v1 + (1 : Int32)))] [] h13
      else
        (gfR h13 o 18 0).bind (fun x15 =>
        (len h13 x15).bind (fun x16 =>
        if v1 = x16 then
          cI (E 218 [aR o] h13) (fun x18 h17 =>
          gz x18 (some (.inl (some (aI x18)), h17))) xT
        else
          (gfR h13 o 18 9).bind (fun x19 =>
          (gfI h13 o 18 10).bind (fun x20 =>
          (pa h13 x19 1000 ((5 : Int32) * x20) (aI v1)).bind (fun h21 =>
          cV (E 216 [aR o] h21) (fun h22 =>
          R 62 [(0, aR o), (1, aI v1), (2, aI (1 : Int32))] [] h22) xT)))))) xT))))) rfl rfl rfl (fun R E => rfl)
set_option maxRecDepth 100000 in
theorem lf_221_62 (o : Option (Nat × Nat)) (v1 : Int32) (v2 : Int32) (h : Hp) : Ru 221 62 [(0, aR o), (1, aI v1), (2, aI v2)] [] h =
    (gfR h o 18 1).bind (fun x1 =>
    (gaI h x1 1000 v1).bind (fun x2 =>
    if x2 < v2 then
      if v1 = (3 : Int32) then
        cI (Ex 220 [aR o] h) (fun x4 h3 =>
        if x4 = 0 then
          some (.inl (some (aI (0 : Int32))), h3)
        else
          (gfI h3 o 18 5).bind (fun x5 =>
          if x5 = (3 : Int32) then
            cV (Ex 216 [aR o] h3) (fun h6 =>
            (gfI h6 o 18 10).bind (fun x7 =>
            (pf h6 o 18 10 (aI (x7 + (1 : Int32)))).bind (fun h8 =>
            some (.inl (some (aI (1 : Int32))), h8)))) xT
          else
            cI (Ex 218 [aR o] h3) (fun x10 h9 =>
            gz x10 (some (.inl (some (aI x10)), h9))) xT)) xT
      else
        (gfI h o 18 5).bind (fun x11 =>
        if x11 = (3 : Int32) then
          cV (Ex 216 [aR o] h) (fun h12 =>
          (gfI h12 o 18 10).bind (fun x13 =>
          (pf h12 o 18 10 (aI (x13 + (1 : Int32)))).bind (fun h14 =>
          some (.inl (some (aI (1 : Int32))), h14)))) xT
        else
          cI (Ex 218 [aR o] h) (fun x16 h15 =>
          gz x16 (some (.inl (some (aI x16)), h15))) xT)
    else
      cI (Ex 219 [aR o, aI v2] h) (fun x18 h17 =>
      if x18 = 0 then
        some (.inl (some (aI (0 : Int32))), h17)
      else
        Ru 221 62 [(0, aR o), (1, aI v1), (2, aI (v2 + (1 : Int32)))] [] h17) xT)) :=
  lift_of (k := 27) (rows := code_221) (cuts := cut_221) (hs := hdl_221) (r := fun R E =>
    (gfR h o 18 1).bind (fun x1 =>
    (gaI h x1 1000 v1).bind (fun x2 =>
    if x2 < v2 then
      if v1 = (3 : Int32) then
        cI (E 220 [aR o] h) (fun x4 h3 =>
        if x4 = 0 then
          some (.inl (some (aI (0 : Int32))), h3)
        else
          (gfI h3 o 18 5).bind (fun x5 =>
          if x5 = (3 : Int32) then
            cV (E 216 [aR o] h3) (fun h6 =>
            (gfI h6 o 18 10).bind (fun x7 =>
            (pf h6 o 18 10 (aI (x7 + (1 : Int32)))).bind (fun h8 =>
            some (.inl (some (aI (1 : Int32))), h8)))) xT
          else
            cI (E 218 [aR o] h3) (fun x10 h9 =>
            gz x10 (some (.inl (some (aI x10)), h9))) xT)) xT
      else
        (gfI h o 18 5).bind (fun x11 =>
        if x11 = (3 : Int32) then
          cV (E 216 [aR o] h) (fun h12 =>
          (gfI h12 o 18 10).bind (fun x13 =>
          (pf h12 o 18 10 (aI (x13 + (1 : Int32)))).bind (fun h14 =>
          some (.inl (some (aI (1 : Int32))), h14)))) xT
        else
          cI (E 218 [aR o] h) (fun x16 h15 =>
          gz x16 (some (.inl (some (aI x16)), h15))) xT)
    else
      cI (E 219 [aR o, aI v2] h) (fun x18 h17 =>
      if x18 = 0 then
        some (.inl (some (aI (0 : Int32))), h17)
      else
        R 62 [(0, aR o), (1, aI v1), (2, aI (v2 + (1 : Int32)))] [] h17) xT))) rfl rfl rfl (fun R E => rfl)
-- ChipcardhouseModel$Texts.reads()I
set_option maxRecDepth 100000 in
theorem lf_222_0 (o : Option (Nat × Nat)) (h : Hp) : Ru 222 0 [(0, aR o)] [] h =
    (pf h o 18 4 (aI (0 : Int32))).bind (fun h1 =>
    (pf h1 o 18 10 (aI (0 : Int32))).bind (fun h2 =>
    (pf h2 o 18 8 (aI (-1 : Int32))).bind (fun h3 =>
    cV (Ex 216 [aR o] h3) (fun h4 =>
    Ru 222 21 [(0, aR o), (1, aI (1 : Int32))] [] h4) xT))) :=
  lift_of (k := 14) (rows := code_222) (cuts := cut_222) (hs := hdl_222) (r := fun R E =>
    (pf h o 18 4 (aI (0 : Int32))).bind (fun h1 =>
    (pf h1 o 18 10 (aI (0 : Int32))).bind (fun h2 =>
    (pf h2 o 18 8 (aI (-1 : Int32))).bind (fun h3 =>
    cV (E 216 [aR o] h3) (fun h4 =>
    R 21 [(0, aR o), (1, aI (1 : Int32))] [] h4) xT)))) rfl rfl rfl (fun R E => rfl)
set_option maxRecDepth 100000 in
theorem lf_222_21 (o : Option (Nat × Nat)) (v1 : Int32) (h : Hp) : Ru 222 21 [(0, aR o), (1, aI v1)] [] h =
    if v1 = 0 then
      (gfI h o 18 8).bind (fun x1 =>
      some (.inl (some (aI x1)), h))
    else
      (gfI h o 18 5).bind (fun x2 =>
      if x2 = (5 : Int32) then
        (gfI h o 18 8).bind (fun x3 =>
        some (.inl (some (aI x3)), h))
      else
        cI (Ex 221 [aR o] h) (fun x5 h4 =>
        Ru 222 21 [(0, aR o), (1, aI x5)] [] h4) xT) :=
  lift_of (k := 11) (rows := code_222) (cuts := cut_222) (hs := hdl_222) (r := fun R E =>
    if v1 = 0 then
      (gfI h o 18 8).bind (fun x1 =>
      some (.inl (some (aI x1)), h))
    else
      (gfI h o 18 5).bind (fun x2 =>
      if x2 = (5 : Int32) then
        (gfI h o 18 8).bind (fun x3 =>
        some (.inl (some (aI x3)), h))
      else
        cI (E 221 [aR o] h) (fun x5 h4 =>
        R 21 [(0, aR o), (1, aI x5)] [] h4) xT)) rfl rfl rfl (fun R E => rfl)
-- ChipcardhouseModel$Tills.<init>(LChipcardhouseModel$Bank;)V
set_option maxRecDepth 100000 in
theorem lf_223_0 (o : Option (Nat × Nat)) (p0 : Option (Nat × Nat)) (h : Hp) : Ru 223 0 [(0, aR o), (1, aR p0)] [] h =
    cV (Ex 420 [aR o] h) (fun h1 =>
    (nwa h1 86 1000 (80 : Int32)).bind (fun q2 =>
    (pf q2.2 o 19 1 (aR q2.1)).bind (fun h3 =>
    (nwa h3 87 1000 (2000 : Int32)).bind (fun q4 =>
    (pf q4.2 o 19 2 (aR q4.1)).bind (fun h5 =>
    (nwa h5 88 1000 (4 : Int32)).bind (fun q6 =>
    (pf q6.2 o 19 3 (aR q6.1)).bind (fun h7 =>
    (nwa h7 89 1000 (4 : Int32)).bind (fun q8 =>
    (pf q8.2 o 19 4 (aR q8.1)).bind (fun h9 =>
    (nwa h9 90 1000 (4 : Int32)).bind (fun q10 =>
    (pf q10.2 o 19 5 (aR q10.1)).bind (fun h11 =>
    (pf h11 o 19 0 (aR p0)).bind (fun h12 =>
    some (.inl none, h12))))))))))))) xT :=
  lift_of (k := 27) (rows := code_223) (cuts := cut_223) (hs := hdl_223) (r := fun R E =>
    cV (E 420 [aR o] h) (fun h1 =>
    (nwa h1 86 1000 (80 : Int32)).bind (fun q2 =>
    (pf q2.2 o 19 1 (aR q2.1)).bind (fun h3 =>
    (nwa h3 87 1000 (2000 : Int32)).bind (fun q4 =>
    (pf q4.2 o 19 2 (aR q4.1)).bind (fun h5 =>
    (nwa h5 88 1000 (4 : Int32)).bind (fun q6 =>
    (pf q6.2 o 19 3 (aR q6.1)).bind (fun h7 =>
    (nwa h7 89 1000 (4 : Int32)).bind (fun q8 =>
    (pf q8.2 o 19 4 (aR q8.1)).bind (fun h9 =>
    (nwa h9 90 1000 (4 : Int32)).bind (fun q10 =>
    (pf q10.2 o 19 5 (aR q10.1)).bind (fun h11 =>
    (pf h11 o 19 0 (aR p0)).bind (fun h12 =>
    some (.inl none, h12))))))))))))) xT) rfl rfl rfl (fun R E => rfl)
-- ChipcardhouseModel$Tills.isIn(III)Z
set_option maxRecDepth 100000 in
theorem lf_224_0 (p0 : Int32) (p1 : Int32) (p2 : Int32) (h : Hp) : Ru 224 0 [(0, aI p0), (1, aI p1), (2, aI p2)] [] h =
    if p0 < p1 then
      some (.inl (some (aI (0 : Int32))), h)
    else
      if p2 < p0 then
        some (.inl (some (aI (0 : Int32))), h)
      else
        some (.inl (some (aI (1 : Int32))), h) :=
  lift_of (k := 10) (rows := code_224) (cuts := cut_224) (hs := hdl_224) (r := fun R E =>
    if p0 < p1 then
      some (.inl (some (aI (0 : Int32))), h)
    else
      if p2 < p0 then
        some (.inl (some (aI (0 : Int32))), h)
      else
        some (.inl (some (aI (1 : Int32))), h)) rfl rfl rfl (fun R E => rfl)
-- ChipcardhouseModel$Tills.fails(ZZZ)Z
set_option maxRecDepth 100000 in
theorem lf_225_0 (o : Option (Nat × Nat)) (p0 : Int32) (p1 : Int32) (p2 : Int32) (h : Hp) : Ru 225 0 [(0, aR o), (1, aI p0), (2, aI p1), (3, aI p2)] [] h =
    if p0 = 0 then
      if p1 = 0 then
        if p2 = 0 then
          (pf h o 19 10 (aI (0 : Int32))).bind (fun h1 =>
          (gfI h1 o 19 10).bind (fun x2 =>
          if x2 ≤ 0 then
            some (.inl (some (aI (0 : Int32))), h1)
          else
            some (.inl (some (aI (1 : Int32))), h1)))
        else
          (pf h o 19 10 (aI (3 : Int32))).bind (fun h3 =>
          (gfI h3 o 19 10).bind (fun x4 =>
          if x4 ≤ 0 then
            some (.inl (some (aI (0 : Int32))), h3)
          else
            some (.inl (some (aI (1 : Int32))), h3)))
      else
        (pf h o 19 10 (aI (2 : Int32))).bind (fun h5 =>
        (gfI h5 o 19 10).bind (fun x6 =>
        if x6 ≤ 0 then
          some (.inl (some (aI (0 : Int32))), h5)
        else
          some (.inl (some (aI (1 : Int32))), h5)))
    else
      (pf h o 19 10 (aI (1 : Int32))).bind (fun h7 =>
      (gfI h7 o 19 10).bind (fun x8 =>
      if x8 ≤ 0 then
        some (.inl (some (aI (0 : Int32))), h7)
      else
        some (.inl (some (aI (1 : Int32))), h7))) :=
  lift_of (k := 17) (rows := code_225) (cuts := cut_225) (hs := hdl_225) (r := fun R E =>
    if p0 = 0 then
      if p1 = 0 then
        if p2 = 0 then
          (pf h o 19 10 (aI (0 : Int32))).bind (fun h1 =>
          (gfI h1 o 19 10).bind (fun x2 =>
          if x2 ≤ 0 then
            some (.inl (some (aI (0 : Int32))), h1)
          else
            some (.inl (some (aI (1 : Int32))), h1)))
        else
          (pf h o 19 10 (aI (3 : Int32))).bind (fun h3 =>
          (gfI h3 o 19 10).bind (fun x4 =>
          if x4 ≤ 0 then
            some (.inl (some (aI (0 : Int32))), h3)
          else
            some (.inl (some (aI (1 : Int32))), h3)))
      else
        (pf h o 19 10 (aI (2 : Int32))).bind (fun h5 =>
        (gfI h5 o 19 10).bind (fun x6 =>
        if x6 ≤ 0 then
          some (.inl (some (aI (0 : Int32))), h5)
        else
          some (.inl (some (aI (1 : Int32))), h5)))
    else
      (pf h o 19 10 (aI (1 : Int32))).bind (fun h7 =>
      (gfI h7 o 19 10).bind (fun x8 =>
      if x8 ≤ 0 then
        some (.inl (some (aI (0 : Int32))), h7)
      else
        some (.inl (some (aI (1 : Int32))), h7)))) rfl rfl rfl (fun R E => rfl)
-- ChipcardhouseModel$Tills.ofCard(II)I
set_option maxRecDepth 100000 in
theorem lf_226_0 (o : Option (Nat × Nat)) (p0 : Int32) (p1 : Int32) (h : Hp) : Ru 226 0 [(0, aR o), (1, aI p0), (2, aI p1)] [] h =
    (gfR h o 19 1).bind (fun x1 =>
    (gaI h x1 1000 ((p0 * (10 : Int32)) + p1)).bind (fun x2 =>
    some (.inl (some (aI x2)), h))) :=
  lift_of (k := 10) (rows := code_226) (cuts := cut_226) (hs := hdl_226) (r := fun R E =>
    (gfR h o 19 1).bind (fun x1 =>
    (gaI h x1 1000 ((p0 * (10 : Int32)) + p1)).bind (fun x2 =>
    some (.inl (some (aI x2)), h)))) rfl rfl rfl (fun R E => rfl)
-- ChipcardhouseModel$Tills.setCard(III)V
set_option maxRecDepth 100000 in
theorem lf_227_0 (o : Option (Nat × Nat)) (p0 : Int32) (p1 : Int32) (p2 : Int32) (h : Hp) : Ru 227 0 [(0, aR o), (1, aI p0), (2, aI p1), (3, aI p2)] [] h =
    (gfR h o 19 1).bind (fun x1 =>
    (pa h x1 1000 ((p0 * (10 : Int32)) + p1) (aI p2)).bind (fun h2 =>
    some (.inl none, h2))) :=
  lift_of (k := 11) (rows := code_227) (cuts := cut_227) (hs := hdl_227) (r := fun R E =>
    (gfR h o 19 1).bind (fun x1 =>
    (pa h x1 1000 ((p0 * (10 : Int32)) + p1) (aI p2)).bind (fun h2 =>
    some (.inl none, h2)))) rfl rfl rfl (fun R E => rfl)
-- ChipcardhouseModel$Tills.addCard(III)V
set_option maxRecDepth 100000 in
theorem lf_228_0 (o : Option (Nat × Nat)) (p0 : Int32) (p1 : Int32) (p2 : Int32) (h : Hp) : Ru 228 0 [(0, aR o), (1, aI p0), (2, aI p1), (3, aI p2)] [] h =
    (gfR h o 19 1).bind (fun x1 =>
    (gaI h x1 1000 ((p0 * (10 : Int32)) + p1)).bind (fun x2 =>
    (pa h x1 1000 ((p0 * (10 : Int32)) + p1) (aI (x2 + p2))).bind (fun h3 =>
    some (.inl none, h3)))) :=
  lift_of (k := 14) (rows := code_228) (cuts := cut_228) (hs := hdl_228) (r := fun R E =>
    (gfR h o 19 1).bind (fun x1 =>
    (gaI h x1 1000 ((p0 * (10 : Int32)) + p1)).bind (fun x2 =>
    (pa h x1 1000 ((p0 * (10 : Int32)) + p1) (aI (x2 + p2))).bind (fun h3 =>
    some (.inl none, h3))))) rfl rfl rfl (fun R E => rfl)
-- ChipcardhouseModel$Tills.of(II)I
set_option maxRecDepth 100000 in
theorem lf_229_0 (o : Option (Nat × Nat)) (p0 : Int32) (p1 : Int32) (h : Hp) : Ru 229 0 [(0, aR o), (1, aI p0), (2, aI p1)] [] h =
    (gfR h o 19 2).bind (fun x1 =>
    (gaI h x1 1000 ((p0 * (10 : Int32)) + p1)).bind (fun x2 =>
    some (.inl (some (aI x2)), h))) :=
  lift_of (k := 10) (rows := code_229) (cuts := cut_229) (hs := hdl_229) (r := fun R E =>
    (gfR h o 19 2).bind (fun x1 =>
    (gaI h x1 1000 ((p0 * (10 : Int32)) + p1)).bind (fun x2 =>
    some (.inl (some (aI x2)), h)))) rfl rfl rfl (fun R E => rfl)
-- ChipcardhouseModel$Tills.set(III)V
set_option maxRecDepth 100000 in
theorem lf_230_0 (o : Option (Nat × Nat)) (p0 : Int32) (p1 : Int32) (p2 : Int32) (h : Hp) : Ru 230 0 [(0, aR o), (1, aI p0), (2, aI p1), (3, aI p2)] [] h =
    (gfR h o 19 2).bind (fun x1 =>
    (pa h x1 1000 ((p0 * (10 : Int32)) + p1) (aI p2)).bind (fun h2 =>
    some (.inl none, h2))) :=
  lift_of (k := 11) (rows := code_230) (cuts := cut_230) (hs := hdl_230) (r := fun R E =>
    (gfR h o 19 2).bind (fun x1 =>
    (pa h x1 1000 ((p0 * (10 : Int32)) + p1) (aI p2)).bind (fun h2 =>
    some (.inl none, h2)))) rfl rfl rfl (fun R E => rfl)
-- ChipcardhouseModel$Tills.card(IIII)I
set_option maxRecDepth 100000 in
theorem lf_231_0 (o : Option (Nat × Nat)) (p0 : Int32) (p1 : Int32) (p2 : Int32) (p3 : Int32) (h : Hp) : Ru 231 0 [(0, aR o), (1, aI p0), (2, aI p1), (3, aI p2), (4, aI p3)] [] h =
    cI (Ex 224 [aI p1, aI (0 : Int32), aI (9999 : Int32)] h) (fun x2 h1 =>
    if x2 = 0 then
      (gfR h1 o 19 0).bind (fun x3 =>
      (gfI h1 x3 12 5).bind (fun x4 =>
      cI (Ex 224 [aI p0, aI (0 : Int32), aI (x4 - (1 : Int32))] h1) (fun x6 h5 =>
      if x6 = 0 then
        Ru 231 62 [(0, aR o), (1, aI p0), (2, aI p1), (3, aI p2), (4, aI p3), (5, aI (1 : Int32))] [aI (1 : Int32), aR o] h5
      else
        Ru 231 62 [(0, aR o), (1, aI p0), (2, aI p1), (3, aI p2), (4, aI p3), (5, aI (1 : Int32))] [aI (0 : Int32), aR o] h5) xT))
    else
      cI (Ex 224 [aI p2, aI (0 : Int32), aI (9 : Int32)] h1) (fun x8 h7 =>
      if x8 = 0 then
        (gfR h7 o 19 0).bind (fun x9 =>
        (gfI h7 x9 12 5).bind (fun x10 =>
        cI (Ex 224 [aI p0, aI (0 : Int32), aI (x10 - (1 : Int32))] h7) (fun x12 h11 =>
        if x12 = 0 then
          Ru 231 62 [(0, aR o), (1, aI p0), (2, aI p1), (3, aI p2), (4, aI p3), (5, aI (1 : Int32))] [aI (1 : Int32), aR o] h11
        else
          Ru 231 62 [(0, aR o), (1, aI p0), (2, aI p1), (3, aI p2), (4, aI p3), (5, aI (1 : Int32))] [aI (0 : Int32), aR o] h11) xT))
      else
        cI (Ex 224 [aI p3, aI (0 : Int32), aI (100000 : Int32)] h7) (fun x14 h13 =>
        if x14 = 0 then
          (gfR h13 o 19 0).bind (fun x15 =>
          (gfI h13 x15 12 5).bind (fun x16 =>
          cI (Ex 224 [aI p0, aI (0 : Int32), aI (x16 - (1 : Int32))] h13) (fun x18 h17 =>
          if x18 = 0 then
            Ru 231 62 [(0, aR o), (1, aI p0), (2, aI p1), (3, aI p2), (4, aI p3), (5, aI (1 : Int32))] [aI (1 : Int32), aR o] h17
          else
            Ru 231 62 [(0, aR o), (1, aI p0), (2, aI p1), (3, aI p2), (4, aI p3), (5, aI (1 : Int32))] [aI (0 : Int32), aR o] h17) xT))
        else
          (gfR h13 o 19 0).bind (fun x19 =>
          (gfI h13 x19 12 5).bind (fun x20 =>
          cI (Ex 224 [aI p0, aI (0 : Int32), aI (x20 - (1 : Int32))] h13) (fun x22 h21 =>
          if x22 = 0 then
            Ru 231 62 [(0, aR o), (1, aI p0), (2, aI p1), (3, aI p2), (4, aI p3), (5, aI (0 : Int32))] [aI (1 : Int32), aR o] h21
          else
            Ru 231 62 [(0, aR o), (1, aI p0), (2, aI p1), (3, aI p2), (4, aI p3), (5, aI (0 : Int32))] [aI (0 : Int32), aR o] h21) xT))) xT) xT) xT :=
  lift_of (k := 31) (rows := code_231) (cuts := cut_231) (hs := hdl_231) (r := fun R E =>
    cI (E 224 [aI p1, aI (0 : Int32), aI (9999 : Int32)] h) (fun x2 h1 =>
    if x2 = 0 then
      (gfR h1 o 19 0).bind (fun x3 =>
      (gfI h1 x3 12 5).bind (fun x4 =>
      cI (E 224 [aI p0, aI (0 : Int32), aI (x4 - (1 : Int32))] h1) (fun x6 h5 =>
      if x6 = 0 then
        R 62 [(0, aR o), (1, aI p0), (2, aI p1), (3, aI p2), (4, aI p3), (5, aI (1 : Int32))] [aI (1 : Int32), aR o] h5
      else
        R 62 [(0, aR o), (1, aI p0), (2, aI p1), (3, aI p2), (4, aI p3), (5, aI (1 : Int32))] [aI (0 : Int32), aR o] h5) xT))
    else
      cI (E 224 [aI p2, aI (0 : Int32), aI (9 : Int32)] h1) (fun x8 h7 =>
      if x8 = 0 then
        (gfR h7 o 19 0).bind (fun x9 =>
        (gfI h7 x9 12 5).bind (fun x10 =>
        cI (E 224 [aI p0, aI (0 : Int32), aI (x10 - (1 : Int32))] h7) (fun x12 h11 =>
        if x12 = 0 then
          R 62 [(0, aR o), (1, aI p0), (2, aI p1), (3, aI p2), (4, aI p3), (5, aI (1 : Int32))] [aI (1 : Int32), aR o] h11
        else
          R 62 [(0, aR o), (1, aI p0), (2, aI p1), (3, aI p2), (4, aI p3), (5, aI (1 : Int32))] [aI (0 : Int32), aR o] h11) xT))
      else
        cI (E 224 [aI p3, aI (0 : Int32), aI (100000 : Int32)] h7) (fun x14 h13 =>
        if x14 = 0 then
          (gfR h13 o 19 0).bind (fun x15 =>
          (gfI h13 x15 12 5).bind (fun x16 =>
          cI (E 224 [aI p0, aI (0 : Int32), aI (x16 - (1 : Int32))] h13) (fun x18 h17 =>
          if x18 = 0 then
            R 62 [(0, aR o), (1, aI p0), (2, aI p1), (3, aI p2), (4, aI p3), (5, aI (1 : Int32))] [aI (1 : Int32), aR o] h17
          else
            R 62 [(0, aR o), (1, aI p0), (2, aI p1), (3, aI p2), (4, aI p3), (5, aI (1 : Int32))] [aI (0 : Int32), aR o] h17) xT))
        else
          (gfR h13 o 19 0).bind (fun x19 =>
          (gfI h13 x19 12 5).bind (fun x20 =>
          cI (E 224 [aI p0, aI (0 : Int32), aI (x20 - (1 : Int32))] h13) (fun x22 h21 =>
          if x22 = 0 then
            R 62 [(0, aR o), (1, aI p0), (2, aI p1), (3, aI p2), (4, aI p3), (5, aI (0 : Int32))] [aI (1 : Int32), aR o] h21
          else
            R 62 [(0, aR o), (1, aI p0), (2, aI p1), (3, aI p2), (4, aI p3), (5, aI (0 : Int32))] [aI (0 : Int32), aR o] h21) xT))) xT) xT) xT) rfl rfl rfl (fun R E => rfl)
set_option maxRecDepth 100000 in
theorem lf_231_62 (o : Option (Nat × Nat)) (v1 : Int32) (v2 : Int32) (v3 : Int32) (v4 : Int32) (v5 : Int32) (s0 : Option (Nat × Nat)) (s1 : Int32) (h : Hp) : Ru 231 62 [(0, aR o), (1, aI v1), (2, aI v2), (3, aI v3), (4, aI v4), (5, aI v5)] [aI s1, aR s0] h =
    (gfI h o 19 6).bind (fun x1 =>
    if x1 = (8 : Int32) then
      cI (Ex 225 [aR s0, aI s1, aI v5, aI (1 : Int32)] h) (fun x3 h2 =>
      if x3 = 0 then
        (gfI h2 o 19 6).bind (fun x4 =>
        cV (Ex 227 [aR o, aI x4, aI (1 : Int32), aI (3 : Int32)] h2) (fun h5 =>
        (gfI h5 o 19 6).bind (fun x6 =>
        cV (Ex 227 [aR o, aI x6, aI (6 : Int32), aI v3] h5) (fun h7 =>
        (gfI h7 o 19 6).bind (fun x8 =>
        cV (Ex 227 [aR o, aI x8, aI (7 : Int32), aI v2] h7) (fun h9 =>
        (gfI h9 o 19 6).bind (fun x10 =>
        cV (Ex 227 [aR o, aI x10, aI (8 : Int32), aI v4] h9) (fun h11 =>
        (gfI h11 o 19 6).bind (fun x12 =>
        cV (Ex 227 [aR o, aI x12, aI (9 : Int32), aI v1] h11) (fun h13 =>
        (gfI h13 o 19 6).bind (fun x14 =>
        (pf h13 o 19 6 (aI (x14 + (1 : Int32)))).bind (fun h15 =>
        (gfI h15 o 19 6).bind (fun x16 =>
        some (.inl (some (aI (x16 - (1 : Int32)))), h15))))) xT)) xT)) xT)) xT)) xT)
      else
        some (.inl (some (aI (0 : Int32))), h2)) xT
    else
      cI (Ex 225 [aR s0, aI s1, aI v5, aI (0 : Int32)] h) (fun x18 h17 =>
      if x18 = 0 then
        (gfI h17 o 19 6).bind (fun x19 =>
        cV (Ex 227 [aR o, aI x19, aI (1 : Int32), aI (3 : Int32)] h17) (fun h20 =>
        (gfI h20 o 19 6).bind (fun x21 =>
        cV (Ex 227 [aR o, aI x21, aI (6 : Int32), aI v3] h20) (fun h22 =>
        (gfI h22 o 19 6).bind (fun x23 =>
        cV (Ex 227 [aR o, aI x23, aI (7 : Int32), aI v2] h22) (fun h24 =>
        (gfI h24 o 19 6).bind (fun x25 =>
        cV (Ex 227 [aR o, aI x25, aI (8 : Int32), aI v4] h24) (fun h26 =>
        (gfI h26 o 19 6).bind (fun x27 =>
        cV (Ex 227 [aR o, aI x27, aI (9 : Int32), aI v1] h26) (fun h28 =>
        (gfI h28 o 19 6).bind (fun x29 =>
        (pf h28 o 19 6 (aI (x29 + (1 : Int32)))).bind (fun h30 =>
        (gfI h30 o 19 6).bind (fun x31 =>
        some (.inl (some (aI (x31 - (1 : Int32)))), h30))))) xT)) xT)) xT)) xT)) xT)
      else
        some (.inl (some (aI (0 : Int32))), h17)) xT) :=
  lift_of (k := 51) (rows := code_231) (cuts := cut_231) (hs := hdl_231) (r := fun R E =>
    (gfI h o 19 6).bind (fun x1 =>
    if x1 = (8 : Int32) then
      cI (E 225 [aR s0, aI s1, aI v5, aI (1 : Int32)] h) (fun x3 h2 =>
      if x3 = 0 then
        (gfI h2 o 19 6).bind (fun x4 =>
        cV (E 227 [aR o, aI x4, aI (1 : Int32), aI (3 : Int32)] h2) (fun h5 =>
        (gfI h5 o 19 6).bind (fun x6 =>
        cV (E 227 [aR o, aI x6, aI (6 : Int32), aI v3] h5) (fun h7 =>
        (gfI h7 o 19 6).bind (fun x8 =>
        cV (E 227 [aR o, aI x8, aI (7 : Int32), aI v2] h7) (fun h9 =>
        (gfI h9 o 19 6).bind (fun x10 =>
        cV (E 227 [aR o, aI x10, aI (8 : Int32), aI v4] h9) (fun h11 =>
        (gfI h11 o 19 6).bind (fun x12 =>
        cV (E 227 [aR o, aI x12, aI (9 : Int32), aI v1] h11) (fun h13 =>
        (gfI h13 o 19 6).bind (fun x14 =>
        (pf h13 o 19 6 (aI (x14 + (1 : Int32)))).bind (fun h15 =>
        (gfI h15 o 19 6).bind (fun x16 =>
        some (.inl (some (aI (x16 - (1 : Int32)))), h15))))) xT)) xT)) xT)) xT)) xT)
      else
        some (.inl (some (aI (0 : Int32))), h2)) xT
    else
      cI (E 225 [aR s0, aI s1, aI v5, aI (0 : Int32)] h) (fun x18 h17 =>
      if x18 = 0 then
        (gfI h17 o 19 6).bind (fun x19 =>
        cV (E 227 [aR o, aI x19, aI (1 : Int32), aI (3 : Int32)] h17) (fun h20 =>
        (gfI h20 o 19 6).bind (fun x21 =>
        cV (E 227 [aR o, aI x21, aI (6 : Int32), aI v3] h20) (fun h22 =>
        (gfI h22 o 19 6).bind (fun x23 =>
        cV (E 227 [aR o, aI x23, aI (7 : Int32), aI v2] h22) (fun h24 =>
        (gfI h24 o 19 6).bind (fun x25 =>
        cV (E 227 [aR o, aI x25, aI (8 : Int32), aI v4] h24) (fun h26 =>
        (gfI h26 o 19 6).bind (fun x27 =>
        cV (E 227 [aR o, aI x27, aI (9 : Int32), aI v1] h26) (fun h28 =>
        (gfI h28 o 19 6).bind (fun x29 =>
        (pf h28 o 19 6 (aI (x29 + (1 : Int32)))).bind (fun h30 =>
        (gfI h30 o 19 6).bind (fun x31 =>
        some (.inl (some (aI (x31 - (1 : Int32)))), h30))))) xT)) xT)) xT)) xT)) xT)
      else
        some (.inl (some (aI (0 : Int32))), h17)) xT)) rfl rfl rfl (fun R E => rfl)
-- ChipcardhouseModel$Tills.shop(II)I
set_option maxRecDepth 100000 in
theorem lf_232_0 (o : Option (Nat × Nat)) (p0 : Int32) (p1 : Int32) (h : Hp) : Ru 232 0 [(0, aR o), (1, aI p0), (2, aI p1)] [] h =
    cI (Ex 224 [aI p0, aI (0 : Int32), aI (50000 : Int32)] h) (fun x2 h1 =>
    if x2 = 0 then
      (gfI h1 o 19 7).bind (fun x3 =>
      if x3 = (4 : Int32) then
        cI (Ex 225 [aR o, aI (1 : Int32), aI (1 : Int32), aI (0 : Int32)] h1) (fun x5 h4 =>
        if x5 = 0 then
          (gfR h4 o 19 3).bind (fun x6 =>
          (gfI h4 o 19 7).bind (fun x7 =>
          (pa h4 x6 1000 x7 (aI p0)).bind (fun h8 =>
          (gfR h8 o 19 4).bind (fun x9 =>
          (gfI h8 o 19 7).bind (fun x10 =>
          (pa h8 x9 1000 x10 (aI p1)).bind (fun h11 =>
          (gfI h11 o 19 7).bind (fun x12 =>
          (pf h11 o 19 7 (aI (x12 + (1 : Int32)))).bind (fun h13 =>
          (gfI h13 o 19 7).bind (fun x14 =>
          some (.inl (some (aI (x14 - (1 : Int32)))), h13))))))))))
        else
          some (.inl (some (aI (0 : Int32))), h4)) xT
      else
        cI (Ex 225 [aR o, aI (1 : Int32), aI (0 : Int32), aI (0 : Int32)] h1) (fun x16 h15 =>
        if x16 = 0 then
          (gfR h15 o 19 3).bind (fun x17 =>
          (gfI h15 o 19 7).bind (fun x18 =>
          (pa h15 x17 1000 x18 (aI p0)).bind (fun h19 =>
          (gfR h19 o 19 4).bind (fun x20 =>
          (gfI h19 o 19 7).bind (fun x21 =>
          (pa h19 x20 1000 x21 (aI p1)).bind (fun h22 =>
          (gfI h22 o 19 7).bind (fun x23 =>
          (pf h22 o 19 7 (aI (x23 + (1 : Int32)))).bind (fun h24 =>
          (gfI h24 o 19 7).bind (fun x25 =>
          some (.inl (some (aI (x25 - (1 : Int32)))), h24))))))))))
        else
          some (.inl (some (aI (0 : Int32))), h15)) xT)
    else
      cI (Ex 224 [aI p1, aI (0 : Int32), aI (9 : Int32)] h1) (fun x27 h26 =>
      if x27 = 0 then
        (gfI h26 o 19 7).bind (fun x28 =>
        if x28 = (4 : Int32) then
          cI (Ex 225 [aR o, aI (1 : Int32), aI (1 : Int32), aI (0 : Int32)] h26) (fun x30 h29 =>
          if x30 = 0 then
            (gfR h29 o 19 3).bind (fun x31 =>
            (gfI h29 o 19 7).bind (fun x32 =>
            (pa h29 x31 1000 x32 (aI p0)).bind (fun h33 =>
            (gfR h33 o 19 4).bind (fun x34 =>
            (gfI h33 o 19 7).bind (fun x35 =>
            (pa h33 x34 1000 x35 (aI p1)).bind (fun h36 =>
            (gfI h36 o 19 7).bind (fun x37 =>
            (pf h36 o 19 7 (aI (x37 + (1 : Int32)))).bind (fun h38 =>
            (gfI h38 o 19 7).bind (fun x39 =>
            some (.inl (some (aI (x39 - (1 : Int32)))), h38))))))))))
          else
            some (.inl (some (aI (0 : Int32))), h29)) xT
        else
          cI (Ex 225 [aR o, aI (1 : Int32), aI (0 : Int32), aI (0 : Int32)] h26) (fun x41 h40 =>
          if x41 = 0 then
            (gfR h40 o 19 3).bind (fun x42 =>
            (gfI h40 o 19 7).bind (fun x43 =>
            (pa h40 x42 1000 x43 (aI p0)).bind (fun h44 =>
            (gfR h44 o 19 4).bind (fun x45 =>
            (gfI h44 o 19 7).bind (fun x46 =>
            (pa h44 x45 1000 x46 (aI p1)).bind (fun h47 =>
            (gfI h47 o 19 7).bind (fun x48 =>
            (pf h47 o 19 7 (aI (x48 + (1 : Int32)))).bind (fun h49 =>
            (gfI h49 o 19 7).bind (fun x50 =>
            some (.inl (some (aI (x50 - (1 : Int32)))), h49))))))))))
          else
            some (.inl (some (aI (0 : Int32))), h40)) xT)
      else
        (gfI h26 o 19 7).bind (fun x51 =>
        if x51 = (4 : Int32) then
          cI (Ex 225 [aR o, aI (0 : Int32), aI (1 : Int32), aI (0 : Int32)] h26) (fun x53 h52 =>
          if x53 = 0 then
            (gfR h52 o 19 3).bind (fun x54 =>
            (gfI h52 o 19 7).bind (fun x55 =>
            (pa h52 x54 1000 x55 (aI p0)).bind (fun h56 =>
            (gfR h56 o 19 4).bind (fun x57 =>
            (gfI h56 o 19 7).bind (fun x58 =>
            (pa h56 x57 1000 x58 (aI p1)).bind (fun h59 =>
            (gfI h59 o 19 7).bind (fun x60 =>
            (pf h59 o 19 7 (aI (x60 + (1 : Int32)))).bind (fun h61 =>
            (gfI h61 o 19 7).bind (fun x62 =>
            some (.inl (some (aI (x62 - (1 : Int32)))), h61))))))))))
          else
            some (.inl (some (aI (0 : Int32))), h52)) xT
        else
          cI (Ex 225 [aR o, aI (0 : Int32), aI (0 : Int32), aI (0 : Int32)] h26) (fun x64 h63 =>
          if x64 = 0 then
            (gfR h63 o 19 3).bind (fun x65 =>
            (gfI h63 o 19 7).bind (fun x66 =>
            (pa h63 x65 1000 x66 (aI p0)).bind (fun h67 =>
            (gfR h67 o 19 4).bind (fun x68 =>
            (gfI h67 o 19 7).bind (fun x69 =>
            (pa h67 x68 1000 x69 (aI p1)).bind (fun h70 =>
            (gfI h70 o 19 7).bind (fun x71 =>
            (pf h70 o 19 7 (aI (x71 + (1 : Int32)))).bind (fun h72 =>
            (gfI h72 o 19 7).bind (fun x73 =>
            some (.inl (some (aI (x73 - (1 : Int32)))), h72))))))))))
          else
            some (.inl (some (aI (0 : Int32))), h63)) xT)) xT) xT :=
  lift_of (k := 46) (rows := code_232) (cuts := cut_232) (hs := hdl_232) (r := fun R E =>
    cI (E 224 [aI p0, aI (0 : Int32), aI (50000 : Int32)] h) (fun x2 h1 =>
    if x2 = 0 then
      (gfI h1 o 19 7).bind (fun x3 =>
      if x3 = (4 : Int32) then
        cI (E 225 [aR o, aI (1 : Int32), aI (1 : Int32), aI (0 : Int32)] h1) (fun x5 h4 =>
        if x5 = 0 then
          (gfR h4 o 19 3).bind (fun x6 =>
          (gfI h4 o 19 7).bind (fun x7 =>
          (pa h4 x6 1000 x7 (aI p0)).bind (fun h8 =>
          (gfR h8 o 19 4).bind (fun x9 =>
          (gfI h8 o 19 7).bind (fun x10 =>
          (pa h8 x9 1000 x10 (aI p1)).bind (fun h11 =>
          (gfI h11 o 19 7).bind (fun x12 =>
          (pf h11 o 19 7 (aI (x12 + (1 : Int32)))).bind (fun h13 =>
          (gfI h13 o 19 7).bind (fun x14 =>
          some (.inl (some (aI (x14 - (1 : Int32)))), h13))))))))))
        else
          some (.inl (some (aI (0 : Int32))), h4)) xT
      else
        cI (E 225 [aR o, aI (1 : Int32), aI (0 : Int32), aI (0 : Int32)] h1) (fun x16 h15 =>
        if x16 = 0 then
          (gfR h15 o 19 3).bind (fun x17 =>
          (gfI h15 o 19 7).bind (fun x18 =>
          (pa h15 x17 1000 x18 (aI p0)).bind (fun h19 =>
          (gfR h19 o 19 4).bind (fun x20 =>
          (gfI h19 o 19 7).bind (fun x21 =>
          (pa h19 x20 1000 x21 (aI p1)).bind (fun h22 =>
          (gfI h22 o 19 7).bind (fun x23 =>
          (pf h22 o 19 7 (aI (x23 + (1 : Int32)))).bind (fun h24 =>
          (gfI h24 o 19 7).bind (fun x25 =>
          some (.inl (some (aI (x25 - (1 : Int32)))), h24))))))))))
        else
          some (.inl (some (aI (0 : Int32))), h15)) xT)
    else
      cI (E 224 [aI p1, aI (0 : Int32), aI (9 : Int32)] h1) (fun x27 h26 =>
      if x27 = 0 then
        (gfI h26 o 19 7).bind (fun x28 =>
        if x28 = (4 : Int32) then
          cI (E 225 [aR o, aI (1 : Int32), aI (1 : Int32), aI (0 : Int32)] h26) (fun x30 h29 =>
          if x30 = 0 then
            (gfR h29 o 19 3).bind (fun x31 =>
            (gfI h29 o 19 7).bind (fun x32 =>
            (pa h29 x31 1000 x32 (aI p0)).bind (fun h33 =>
            (gfR h33 o 19 4).bind (fun x34 =>
            (gfI h33 o 19 7).bind (fun x35 =>
            (pa h33 x34 1000 x35 (aI p1)).bind (fun h36 =>
            (gfI h36 o 19 7).bind (fun x37 =>
            (pf h36 o 19 7 (aI (x37 + (1 : Int32)))).bind (fun h38 =>
            (gfI h38 o 19 7).bind (fun x39 =>
            some (.inl (some (aI (x39 - (1 : Int32)))), h38))))))))))
          else
            some (.inl (some (aI (0 : Int32))), h29)) xT
        else
          cI (E 225 [aR o, aI (1 : Int32), aI (0 : Int32), aI (0 : Int32)] h26) (fun x41 h40 =>
          if x41 = 0 then
            (gfR h40 o 19 3).bind (fun x42 =>
            (gfI h40 o 19 7).bind (fun x43 =>
            (pa h40 x42 1000 x43 (aI p0)).bind (fun h44 =>
            (gfR h44 o 19 4).bind (fun x45 =>
            (gfI h44 o 19 7).bind (fun x46 =>
            (pa h44 x45 1000 x46 (aI p1)).bind (fun h47 =>
            (gfI h47 o 19 7).bind (fun x48 =>
            (pf h47 o 19 7 (aI (x48 + (1 : Int32)))).bind (fun h49 =>
            (gfI h49 o 19 7).bind (fun x50 =>
            some (.inl (some (aI (x50 - (1 : Int32)))), h49))))))))))
          else
            some (.inl (some (aI (0 : Int32))), h40)) xT)
      else
        (gfI h26 o 19 7).bind (fun x51 =>
        if x51 = (4 : Int32) then
          cI (E 225 [aR o, aI (0 : Int32), aI (1 : Int32), aI (0 : Int32)] h26) (fun x53 h52 =>
          if x53 = 0 then
            (gfR h52 o 19 3).bind (fun x54 =>
            (gfI h52 o 19 7).bind (fun x55 =>
            (pa h52 x54 1000 x55 (aI p0)).bind (fun h56 =>
            (gfR h56 o 19 4).bind (fun x57 =>
            (gfI h56 o 19 7).bind (fun x58 =>
            (pa h56 x57 1000 x58 (aI p1)).bind (fun h59 =>
            (gfI h59 o 19 7).bind (fun x60 =>
            (pf h59 o 19 7 (aI (x60 + (1 : Int32)))).bind (fun h61 =>
            (gfI h61 o 19 7).bind (fun x62 =>
            some (.inl (some (aI (x62 - (1 : Int32)))), h61))))))))))
          else
            some (.inl (some (aI (0 : Int32))), h52)) xT
        else
          cI (E 225 [aR o, aI (0 : Int32), aI (0 : Int32), aI (0 : Int32)] h26) (fun x64 h63 =>
          if x64 = 0 then
            (gfR h63 o 19 3).bind (fun x65 =>
            (gfI h63 o 19 7).bind (fun x66 =>
            (pa h63 x65 1000 x66 (aI p0)).bind (fun h67 =>
            (gfR h67 o 19 4).bind (fun x68 =>
            (gfI h67 o 19 7).bind (fun x69 =>
            (pa h67 x68 1000 x69 (aI p1)).bind (fun h70 =>
            (gfI h70 o 19 7).bind (fun x71 =>
            (pf h70 o 19 7 (aI (x71 + (1 : Int32)))).bind (fun h72 =>
            (gfI h72 o 19 7).bind (fun x73 =>
            some (.inl (some (aI (x73 - (1 : Int32)))), h72))))))))))
          else
            some (.inl (some (aI (0 : Int32))), h63)) xT)) xT) xT) rfl rfl rfl (fun R E => rfl)
-- ChipcardhouseModel$Tills.accountOf(I)I
set_option maxRecDepth 100000 in
theorem lf_233_0 (o : Option (Nat × Nat)) (p0 : Int32) (h : Hp) : Ru 233 0 [(0, aR o), (1, aI p0)] [] h =
    cI (Ex 226 [aR o, aI p0, aI (9 : Int32)] h) (fun x2 h1 =>
    some (.inl (some (aI x2)), h1)) xT :=
  lift_of (k := 6) (rows := code_233) (cuts := cut_233) (hs := hdl_233) (r := fun R E =>
    cI (E 226 [aR o, aI p0, aI (9 : Int32)] h) (fun x2 h1 =>
    some (.inl (some (aI x2)), h1)) xT) rfl rfl rfl (fun R E => rfl)
-- ChipcardhouseModel$Tills.keyOf(I)J
set_option maxRecDepth 100000 in
theorem lf_234_0 (o : Option (Nat × Nat)) (p0 : Int32) (h : Hp) : Ru 234 0 [(0, aR o), (1, aI p0)] [] h =
    some (.inl (some (aL (lmod (((((271 : Int64) * p0.toInt64) * p0.toInt64) + ((7919 : Int64) * p0.toInt64)) + (4242 : Int64)) (9973 : Int64)))), h) :=
  lift_of (k := 18) (rows := code_234) (cuts := cut_234) (hs := hdl_234) (r := fun R E =>
    some (.inl (some (aL (lmod (((((271 : Int64) * p0.toInt64) * p0.toInt64) + ((7919 : Int64) * p0.toInt64)) + (4242 : Int64)) (9973 : Int64)))), h)) rfl rfl rfl (fun R E => rfl)
-- ChipcardhouseModel$Tills.mixed(JI)J
set_option maxRecDepth 100000 in
theorem lf_235_0 (p0 : Int64) (p1 : Int32) (h : Hp) : Ru 235 0 [(0, aL p0), (2, aI p1)] [] h =
    some (.inl (some (aL (lmod (((p0 * (37 : Int64)) + p1.toInt64) + (11 : Int64)) (999983 : Int64)))), h) :=
  lift_of (k := 12) (rows := code_235) (cuts := cut_235) (hs := hdl_235) (r := fun R E =>
    some (.inl (some (aL (lmod (((p0 * (37 : Int64)) + p1.toInt64) + (11 : Int64)) (999983 : Int64)))), h)) rfl rfl rfl (fun R E => rfl)
-- ChipcardhouseModel$Tills.stamp(JIIII)I
set_option maxRecDepth 100000 in
theorem lf_236_0 (p0 : Int64) (p1 : Int32) (p2 : Int32) (p3 : Int32) (p4 : Int32) (h : Hp) : Ru 236 0 [(0, aL p0), (2, aI p1), (3, aI p2), (4, aI p3), (5, aI p4)] [] h =
    cL (Ex 235 [aL p0, aI p1] h) (fun x2 h1 =>
    cL (Ex 235 [aL x2, aI p2] h1) (fun x4 h3 =>
    cL (Ex 235 [aL x4, aI p3] h3) (fun x6 h5 =>
    cL (Ex 235 [aL x6, aI p4] h5) (fun x8 h7 =>
    some (.inl (some (aI x8.toInt32)), h7)) xT) xT) xT) xT :=
  lift_of (k := 12) (rows := code_236) (cuts := cut_236) (hs := hdl_236) (r := fun R E =>
    cL (E 235 [aL p0, aI p1] h) (fun x2 h1 =>
    cL (E 235 [aL x2, aI p2] h1) (fun x4 h3 =>
    cL (E 235 [aL x4, aI p3] h3) (fun x6 h5 =>
    cL (E 235 [aL x6, aI p4] h5) (fun x8 h7 =>
    some (.inl (some (aI x8.toInt32)), h7)) xT) xT) xT) xT) rfl rfl rfl (fun R E => rfl)
-- ChipcardhouseModel$Tills.stampOf(II)I
set_option maxRecDepth 100000 in
theorem lf_237_0 (o : Option (Nat × Nat)) (p0 : Int32) (p1 : Int32) (h : Hp) : Ru 237 0 [(0, aR o), (1, aI p0), (2, aI p1)] [] h =
    cI (Ex 229 [aR o, aI p0, aI (1 : Int32)] h) (fun x2 h1 =>
    cL (Ex 234 [aR o, aI x2] h1) (fun x4 h3 =>
    cI (Ex 229 [aR o, aI p0, aI (4 : Int32)] h3) (fun x6 h5 =>
    cI (Ex 229 [aR o, aI p0, aI (3 : Int32)] h5) (fun x8 h7 =>
    cI (Ex 229 [aR o, aI p0, aI (2 : Int32)] h7) (fun x10 h9 =>
    cI (Ex 236 [aL x4, aI x6, aI x8, aI x10, aI p1] h9) (fun x12 h11 =>
    some (.inl (some (aI x12)), h11)) xT) xT) xT) xT) xT) xT :=
  lift_of (k := 22) (rows := code_237) (cuts := cut_237) (hs := hdl_237) (r := fun R E =>
    cI (E 229 [aR o, aI p0, aI (1 : Int32)] h) (fun x2 h1 =>
    cL (E 234 [aR o, aI x2] h1) (fun x4 h3 =>
    cI (E 229 [aR o, aI p0, aI (4 : Int32)] h3) (fun x6 h5 =>
    cI (E 229 [aR o, aI p0, aI (3 : Int32)] h5) (fun x8 h7 =>
    cI (E 229 [aR o, aI p0, aI (2 : Int32)] h7) (fun x10 h9 =>
    cI (E 236 [aL x4, aI x6, aI x8, aI x10, aI p1] h9) (fun x12 h11 =>
    some (.inl (some (aI x12)), h11)) xT) xT) xT) xT) xT) xT) rfl rfl rfl (fun R E => rfl)
-- ChipcardhouseModel$Tills.isTouched(I)Z
set_option maxRecDepth 100000 in
theorem lf_238_0 (o : Option (Nat × Nat)) (p0 : Int32) (h : Hp) : Ru 238 0 [(0, aR o), (1, aI p0)] [] h =
    cI (Ex 229 [aR o, aI p0, aI (9 : Int32)] h) (fun x2 h1 =>
    if x2 = (1 : Int32) then
      some (.inl (some (aI (1 : Int32))), h1)
    else
      some (.inl (some (aI (0 : Int32))), h1)) xT :=
  lift_of (k := 10) (rows := code_238) (cuts := cut_238) (hs := hdl_238) (r := fun R E =>
    cI (E 229 [aR o, aI p0, aI (9 : Int32)] h) (fun x2 h1 =>
    if x2 = (1 : Int32) then
      some (.inl (some (aI (1 : Int32))), h1)
    else
      some (.inl (some (aI (0 : Int32))), h1)) xT) rfl rfl rfl (fun R E => rfl)
-- ChipcardhouseModel$Tills.refusal(III)I
set_option maxRecDepth 100000 in
theorem lf_239_0 (o : Option (Nat × Nat)) (p0 : Int32) (p1 : Int32) (p2 : Int32) (h : Hp) : Ru 239 0 [(0, aR o), (1, aI p0), (2, aI p1), (3, aI p2)] [] h =
    cI (Ex 226 [aR o, aI p0, aI (5 : Int32)] h) (fun x2 h1 =>
    if x2 = (1 : Int32) then
      some (.inl (some (aI (1 : Int32))), h1)
    else
      if p2 = (-1 : Int32) then
        if (0 : Int32) = 0 then
          if (0 : Int32) = 0 then
            Ru 239 65 [(0, aR o), (1, aI p0), (2, aI p1), (4, aI (0 : Int32))] [] h1
          else
            cI (Ex 226 [aR o, aI p0, aI (7 : Int32)] h1) (fun x4 h3 =>
            if p2 = x4 then
              Ru 239 65 [(0, aR o), (1, aI p0), (2, aI p1), (4, aI (0 : Int32))] [] h3
            else
              cV (Ex 228 [aR o, aI p0, aI (1 : Int32), aI (-1 : Int32)] h3) (fun h5 =>
              some (.inl (some (aI (3 : Int32))), h5)) xT) xT
        else
          cI (Ex 226 [aR o, aI p0, aI (1 : Int32)] h1) (fun x7 h6 =>
          if x7 = 0 then
            some (.inl (some (aI (2 : Int32))), h6)
          else
            if (0 : Int32) = 0 then
              Ru 239 65 [(0, aR o), (1, aI p0), (2, aI p1), (4, aI (0 : Int32))] [] h6
            else
              cI (Ex 226 [aR o, aI p0, aI (7 : Int32)] h6) (fun x9 h8 =>
              if p2 = x9 then
                Ru 239 65 [(0, aR o), (1, aI p0), (2, aI p1), (4, aI (0 : Int32))] [] h8
              else
                cV (Ex 228 [aR o, aI p0, aI (1 : Int32), aI (-1 : Int32)] h8) (fun h10 =>
                some (.inl (some (aI (3 : Int32))), h10)) xT) xT) xT
      else
        if (1 : Int32) = 0 then
          if (1 : Int32) = 0 then
            Ru 239 65 [(0, aR o), (1, aI p0), (2, aI p1), (4, aI (1 : Int32))] [] h1
          else
            cI (Ex 226 [aR o, aI p0, aI (7 : Int32)] h1) (fun x12 h11 =>
            if p2 = x12 then
              Ru 239 65 [(0, aR o), (1, aI p0), (2, aI p1), (4, aI (1 : Int32))] [] h11
            else
              cV (Ex 228 [aR o, aI p0, aI (1 : Int32), aI (-1 : Int32)] h11) (fun h13 =>
              some (.inl (some (aI (3 : Int32))), h13)) xT) xT
        else
          cI (Ex 226 [aR o, aI p0, aI (1 : Int32)] h1) (fun x15 h14 =>
          if x15 = 0 then
            some (.inl (some (aI (2 : Int32))), h14)
          else
            if (1 : Int32) = 0 then
              Ru 239 65 [(0, aR o), (1, aI p0), (2, aI p1), (4, aI (1 : Int32))] [] h14
            else
              cI (Ex 226 [aR o, aI p0, aI (7 : Int32)] h14) (fun x17 h16 =>
              if p2 = x17 then
                Ru 239 65 [(0, aR o), (1, aI p0), (2, aI p1), (4, aI (1 : Int32))] [] h16
              else
                cV (Ex 228 [aR o, aI p0, aI (1 : Int32), aI (-1 : Int32)] h16) (fun h18 =>
                some (.inl (some (aI (3 : Int32))), h18)) xT) xT) xT) xT :=
  lift_of (k := 35) (rows := code_239) (cuts := cut_239) (hs := hdl_239) (r := fun R E =>
    cI (E 226 [aR o, aI p0, aI (5 : Int32)] h) (fun x2 h1 =>
    if x2 = (1 : Int32) then
      some (.inl (some (aI (1 : Int32))), h1)
    else
      if p2 = (-1 : Int32) then
        if (0 : Int32) = 0 then
          if (0 : Int32) = 0 then
            R 65 [(0, aR o), (1, aI p0), (2, aI p1), (4, aI (0 : Int32))] [] h1
          else
            cI (E 226 [aR o, aI p0, aI (7 : Int32)] h1) (fun x4 h3 =>
            if p2 = x4 then
              R 65 [(0, aR o), (1, aI p0), (2, aI p1), (4, aI (0 : Int32))] [] h3
            else
              cV (E 228 [aR o, aI p0, aI (1 : Int32), aI (-1 : Int32)] h3) (fun h5 =>
              some (.inl (some (aI (3 : Int32))), h5)) xT) xT
        else
          cI (E 226 [aR o, aI p0, aI (1 : Int32)] h1) (fun x7 h6 =>
          if x7 = 0 then
            some (.inl (some (aI (2 : Int32))), h6)
          else
            if (0 : Int32) = 0 then
              R 65 [(0, aR o), (1, aI p0), (2, aI p1), (4, aI (0 : Int32))] [] h6
            else
              cI (E 226 [aR o, aI p0, aI (7 : Int32)] h6) (fun x9 h8 =>
              if p2 = x9 then
                R 65 [(0, aR o), (1, aI p0), (2, aI p1), (4, aI (0 : Int32))] [] h8
              else
                cV (E 228 [aR o, aI p0, aI (1 : Int32), aI (-1 : Int32)] h8) (fun h10 =>
                some (.inl (some (aI (3 : Int32))), h10)) xT) xT) xT
      else
        if (1 : Int32) = 0 then
          if (1 : Int32) = 0 then
            R 65 [(0, aR o), (1, aI p0), (2, aI p1), (4, aI (1 : Int32))] [] h1
          else
            cI (E 226 [aR o, aI p0, aI (7 : Int32)] h1) (fun x12 h11 =>
            if p2 = x12 then
              R 65 [(0, aR o), (1, aI p0), (2, aI p1), (4, aI (1 : Int32))] [] h11
            else
              cV (E 228 [aR o, aI p0, aI (1 : Int32), aI (-1 : Int32)] h11) (fun h13 =>
              some (.inl (some (aI (3 : Int32))), h13)) xT) xT
        else
          cI (E 226 [aR o, aI p0, aI (1 : Int32)] h1) (fun x15 h14 =>
          if x15 = 0 then
            some (.inl (some (aI (2 : Int32))), h14)
          else
            if (1 : Int32) = 0 then
              R 65 [(0, aR o), (1, aI p0), (2, aI p1), (4, aI (1 : Int32))] [] h14
            else
              cI (E 226 [aR o, aI p0, aI (7 : Int32)] h14) (fun x17 h16 =>
              if p2 = x17 then
                R 65 [(0, aR o), (1, aI p0), (2, aI p1), (4, aI (1 : Int32))] [] h16
              else
                cV (E 228 [aR o, aI p0, aI (1 : Int32), aI (-1 : Int32)] h16) (fun h18 =>
                some (.inl (some (aI (3 : Int32))), h18)) xT) xT) xT) xT) rfl rfl rfl (fun R E => rfl)
set_option maxRecDepth 100000 in
theorem lf_239_65 (o : Option (Nat × Nat)) (v1 : Int32) (v2 : Int32) (v4 : Int32) (h : Hp) : Ru 239 65 [(0, aR o), (1, aI v1), (2, aI v2), (4, aI v4)] [] h =
    if v4 = 0 then
      if (2500 : Int32) < v2 then
        some (.inl (some (aI (4 : Int32))), h)
      else
        cI (Ex 226 [aR o, aI v1, aI (2 : Int32)] h) (fun x2 h1 =>
        if x2 = (5 : Int32) then
          some (.inl (some (aI (4 : Int32))), h1)
        else
          (gfI h1 o 19 8).bind (fun x3 =>
          if x3 = (200 : Int32) then
            some (.inl (some (aI (5 : Int32))), h1)
          else
            some (.inl (some (aI (0 : Int32))), h1))) xT
    else
      (gfI h o 19 8).bind (fun x4 =>
      if x4 = (200 : Int32) then
        some (.inl (some (aI (5 : Int32))), h)
      else
        some (.inl (some (aI (0 : Int32))), h)) :=
  lift_of (k := 19) (rows := code_239) (cuts := cut_239) (hs := hdl_239) (r := fun R E =>
    if v4 = 0 then
      if (2500 : Int32) < v2 then
        some (.inl (some (aI (4 : Int32))), h)
      else
        cI (E 226 [aR o, aI v1, aI (2 : Int32)] h) (fun x2 h1 =>
        if x2 = (5 : Int32) then
          some (.inl (some (aI (4 : Int32))), h1)
        else
          (gfI h1 o 19 8).bind (fun x3 =>
          if x3 = (200 : Int32) then
            some (.inl (some (aI (5 : Int32))), h1)
          else
            some (.inl (some (aI (0 : Int32))), h1))) xT
    else
      (gfI h o 19 8).bind (fun x4 =>
      if x4 = (200 : Int32) then
        some (.inl (some (aI (5 : Int32))), h)
      else
        some (.inl (some (aI (0 : Int32))), h))) rfl rfl rfl (fun R E => rfl)
-- ChipcardhouseModel$Tills.grants(I)Z
set_option maxRecDepth 100000 in
theorem lf_240_0 (o : Option (Nat × Nat)) (p0 : Int32) (h : Hp) : Ru 240 0 [(0, aR o), (1, aI p0)] [] h =
    cI (Ex 229 [aR o, aI p0, aI (1 : Int32)] h) (fun x2 h1 =>
    cI (Ex 226 [aR o, aI x2, aI (4 : Int32)] h1) (fun x4 h3 =>
    cI (Ex 229 [aR o, aI p0, aI (3 : Int32)] h3) (fun x6 h5 =>
    cI (Ex 226 [aR o, aI x2, aI (3 : Int32)] h5) (fun x8 h7 =>
    cI (Ex 226 [aR o, aI x2, aI (6 : Int32)] h7) (fun x10 h9 =>
    if x10 ≤ x8 then
      some (.inl (some (aI (0 : Int32))), h9)
    else
      cI (Ex 226 [aR o, aI x2, aI (8 : Int32)] h9) (fun x12 h11 =>
      if (x4 + x6) ≤ x12 then
        cV (Ex 228 [aR o, aI x2, aI (3 : Int32), aI (1 : Int32)] h11) (fun h13 =>
        cV (Ex 227 [aR o, aI x2, aI (4 : Int32), aI (x4 + x6)] h13) (fun h14 =>
        cV (Ex 230 [aR o, aI p0, aI (0 : Int32), aI (0 : Int32)] h14) (fun h15 =>
        cI (Ex 237 [aR o, aI p0, aI (1 : Int32)] h15) (fun x17 h16 =>
        cV (Ex 230 [aR o, aI p0, aI (5 : Int32), aI x17] h16) (fun h18 =>
        some (.inl (some (aI (1 : Int32))), h18)) xT) xT) xT) xT) xT
      else
        some (.inl (some (aI (0 : Int32))), h11)) xT) xT) xT) xT) xT) xT :=
  lift_of (k := 56) (rows := code_240) (cuts := cut_240) (hs := hdl_240) (r := fun R E =>
    cI (E 229 [aR o, aI p0, aI (1 : Int32)] h) (fun x2 h1 =>
    cI (E 226 [aR o, aI x2, aI (4 : Int32)] h1) (fun x4 h3 =>
    cI (E 229 [aR o, aI p0, aI (3 : Int32)] h3) (fun x6 h5 =>
    cI (E 226 [aR o, aI x2, aI (3 : Int32)] h5) (fun x8 h7 =>
    cI (E 226 [aR o, aI x2, aI (6 : Int32)] h7) (fun x10 h9 =>
    if x10 ≤ x8 then
      some (.inl (some (aI (0 : Int32))), h9)
    else
      cI (E 226 [aR o, aI x2, aI (8 : Int32)] h9) (fun x12 h11 =>
      if (x4 + x6) ≤ x12 then
        cV (E 228 [aR o, aI x2, aI (3 : Int32), aI (1 : Int32)] h11) (fun h13 =>
        cV (E 227 [aR o, aI x2, aI (4 : Int32), aI (x4 + x6)] h13) (fun h14 =>
        cV (E 230 [aR o, aI p0, aI (0 : Int32), aI (0 : Int32)] h14) (fun h15 =>
        cI (E 237 [aR o, aI p0, aI (1 : Int32)] h15) (fun x17 h16 =>
        cV (E 230 [aR o, aI p0, aI (5 : Int32), aI x17] h16) (fun h18 =>
        some (.inl (some (aI (1 : Int32))), h18)) xT) xT) xT) xT) xT
      else
        some (.inl (some (aI (0 : Int32))), h11)) xT) xT) xT) xT) xT) xT) rfl rfl rfl (fun R E => rfl)
-- ChipcardhouseModel$Tills.mustAsk(II)Z
set_option maxRecDepth 100000 in
theorem lf_241_0 (o : Option (Nat × Nat)) (p0 : Int32) (p1 : Int32) (h : Hp) : Ru 241 0 [(0, aR o), (1, aI p0), (2, aI p1)] [] h =
    (gfR h o 19 3).bind (fun x1 =>
    (gaI h x1 1000 p0).bind (fun x2 =>
    if x2 < p1 then
      some (.inl (some (aI (1 : Int32))), h)
    else
      (gfR h o 19 4).bind (fun x3 =>
      (gaI h x3 1000 p0).bind (fun x4 =>
      if x4 ≤ 0 then
        some (.inl (some (aI (0 : Int32))), h)
      else
        (gfR h o 19 5).bind (fun x5 =>
        (gaI h x5 1000 p0).bind (fun x6 =>
        (gfR h o 19 4).bind (fun x7 =>
        (gaI h x7 1000 p0).bind (fun x8 =>
        if x8 = 0 then none else
        if (imod (x6 + (1 : Int32)) x8) = 0 then
          some (.inl (some (aI (1 : Int32))), h)
        else
          some (.inl (some (aI (0 : Int32))), h))))))))) :=
  lift_of (k := 27) (rows := code_241) (cuts := cut_241) (hs := hdl_241) (r := fun R E =>
    (gfR h o 19 3).bind (fun x1 =>
    (gaI h x1 1000 p0).bind (fun x2 =>
    if x2 < p1 then
      some (.inl (some (aI (1 : Int32))), h)
    else
      (gfR h o 19 4).bind (fun x3 =>
      (gaI h x3 1000 p0).bind (fun x4 =>
      if x4 ≤ 0 then
        some (.inl (some (aI (0 : Int32))), h)
      else
        (gfR h o 19 5).bind (fun x5 =>
        (gaI h x5 1000 p0).bind (fun x6 =>
        (gfR h o 19 4).bind (fun x7 =>
        (gaI h x7 1000 p0).bind (fun x8 =>
        if x8 = 0 then none else
        if (imod (x6 + (1 : Int32)) x8) = 0 then
          some (.inl (some (aI (1 : Int32))), h)
        else
          some (.inl (some (aI (0 : Int32))), h)))))))))) rfl rfl rfl (fun R E => rfl)
-- ChipcardhouseModel$Tills.pay(IIII)I
set_option maxRecDepth 100000 in
theorem lf_242_0 (o : Option (Nat × Nat)) (p0 : Int32) (p1 : Int32) (p2 : Int32) (p3 : Int32) (h : Hp) : Ru 242 0 [(0, aR o), (1, aI p0), (2, aI p1), (3, aI p2), (4, aI p3)] [] h =
    (gfI h o 19 6).bind (fun x1 =>
    cI (Ex 224 [aI p0, aI (0 : Int32), aI (x1 - (1 : Int32))] h) (fun x3 h2 =>
    if x3 = 0 then
      cI (Ex 224 [aI p2, aI (1 : Int32), aI (100000 : Int32)] h2) (fun x5 h4 =>
      if x5 = 0 then
        Ru 242 61 [(0, aR o), (1, aI p0), (2, aI p1), (3, aI p2), (4, aI p3)] [aI (1 : Int32), aI (1 : Int32), aR o] h4
      else
        cI (Ex 224 [aI p3, aI (-1 : Int32), aI (9999 : Int32)] h4) (fun x7 h6 =>
        if x7 = 0 then
          Ru 242 61 [(0, aR o), (1, aI p0), (2, aI p1), (3, aI p2), (4, aI p3)] [aI (1 : Int32), aI (1 : Int32), aR o] h6
        else
          Ru 242 61 [(0, aR o), (1, aI p0), (2, aI p1), (3, aI p2), (4, aI p3)] [aI (0 : Int32), aI (1 : Int32), aR o] h6) xT) xT
    else
      (gfI h2 o 19 7).bind (fun x8 =>
      cI (Ex 224 [aI p1, aI (0 : Int32), aI (x8 - (1 : Int32))] h2) (fun x10 h9 =>
      if x10 = 0 then
        cI (Ex 224 [aI p2, aI (1 : Int32), aI (100000 : Int32)] h9) (fun x12 h11 =>
        if x12 = 0 then
          Ru 242 61 [(0, aR o), (1, aI p0), (2, aI p1), (3, aI p2), (4, aI p3)] [aI (1 : Int32), aI (1 : Int32), aR o] h11
        else
          cI (Ex 224 [aI p3, aI (-1 : Int32), aI (9999 : Int32)] h11) (fun x14 h13 =>
          if x14 = 0 then
            Ru 242 61 [(0, aR o), (1, aI p0), (2, aI p1), (3, aI p2), (4, aI p3)] [aI (1 : Int32), aI (1 : Int32), aR o] h13
          else
            Ru 242 61 [(0, aR o), (1, aI p0), (2, aI p1), (3, aI p2), (4, aI p3)] [aI (0 : Int32), aI (1 : Int32), aR o] h13) xT) xT
      else
        cI (Ex 224 [aI p2, aI (1 : Int32), aI (100000 : Int32)] h9) (fun x16 h15 =>
        if x16 = 0 then
          Ru 242 61 [(0, aR o), (1, aI p0), (2, aI p1), (3, aI p2), (4, aI p3)] [aI (1 : Int32), aI (0 : Int32), aR o] h15
        else
          cI (Ex 224 [aI p3, aI (-1 : Int32), aI (9999 : Int32)] h15) (fun x18 h17 =>
          if x18 = 0 then
            Ru 242 61 [(0, aR o), (1, aI p0), (2, aI p1), (3, aI p2), (4, aI p3)] [aI (1 : Int32), aI (0 : Int32), aR o] h17
          else
            Ru 242 61 [(0, aR o), (1, aI p0), (2, aI p1), (3, aI p2), (4, aI p3)] [aI (0 : Int32), aI (0 : Int32), aR o] h17) xT) xT) xT)) xT) :=
  lift_of (k := 32) (rows := code_242) (cuts := cut_242) (hs := hdl_242) (r := fun R E =>
    (gfI h o 19 6).bind (fun x1 =>
    cI (E 224 [aI p0, aI (0 : Int32), aI (x1 - (1 : Int32))] h) (fun x3 h2 =>
    if x3 = 0 then
      cI (E 224 [aI p2, aI (1 : Int32), aI (100000 : Int32)] h2) (fun x5 h4 =>
      if x5 = 0 then
        R 61 [(0, aR o), (1, aI p0), (2, aI p1), (3, aI p2), (4, aI p3)] [aI (1 : Int32), aI (1 : Int32), aR o] h4
      else
        cI (E 224 [aI p3, aI (-1 : Int32), aI (9999 : Int32)] h4) (fun x7 h6 =>
        if x7 = 0 then
          R 61 [(0, aR o), (1, aI p0), (2, aI p1), (3, aI p2), (4, aI p3)] [aI (1 : Int32), aI (1 : Int32), aR o] h6
        else
          R 61 [(0, aR o), (1, aI p0), (2, aI p1), (3, aI p2), (4, aI p3)] [aI (0 : Int32), aI (1 : Int32), aR o] h6) xT) xT
    else
      (gfI h2 o 19 7).bind (fun x8 =>
      cI (E 224 [aI p1, aI (0 : Int32), aI (x8 - (1 : Int32))] h2) (fun x10 h9 =>
      if x10 = 0 then
        cI (E 224 [aI p2, aI (1 : Int32), aI (100000 : Int32)] h9) (fun x12 h11 =>
        if x12 = 0 then
          R 61 [(0, aR o), (1, aI p0), (2, aI p1), (3, aI p2), (4, aI p3)] [aI (1 : Int32), aI (1 : Int32), aR o] h11
        else
          cI (E 224 [aI p3, aI (-1 : Int32), aI (9999 : Int32)] h11) (fun x14 h13 =>
          if x14 = 0 then
            R 61 [(0, aR o), (1, aI p0), (2, aI p1), (3, aI p2), (4, aI p3)] [aI (1 : Int32), aI (1 : Int32), aR o] h13
          else
            R 61 [(0, aR o), (1, aI p0), (2, aI p1), (3, aI p2), (4, aI p3)] [aI (0 : Int32), aI (1 : Int32), aR o] h13) xT) xT
      else
        cI (E 224 [aI p2, aI (1 : Int32), aI (100000 : Int32)] h9) (fun x16 h15 =>
        if x16 = 0 then
          R 61 [(0, aR o), (1, aI p0), (2, aI p1), (3, aI p2), (4, aI p3)] [aI (1 : Int32), aI (0 : Int32), aR o] h15
        else
          cI (E 224 [aI p3, aI (-1 : Int32), aI (9999 : Int32)] h15) (fun x18 h17 =>
          if x18 = 0 then
            R 61 [(0, aR o), (1, aI p0), (2, aI p1), (3, aI p2), (4, aI p3)] [aI (1 : Int32), aI (0 : Int32), aR o] h17
          else
            R 61 [(0, aR o), (1, aI p0), (2, aI p1), (3, aI p2), (4, aI p3)] [aI (0 : Int32), aI (0 : Int32), aR o] h17) xT) xT) xT)) xT)) rfl rfl rfl (fun R E => rfl)
set_option maxRecDepth 100000 in
theorem lf_242_61 (o : Option (Nat × Nat)) (v1 : Int32) (v2 : Int32) (v3 : Int32) (v4 : Int32) (s0 : Option (Nat × Nat)) (s1 : Int32) (s2 : Int32) (h : Hp) : Ru 242 61 [(0, aR o), (1, aI v1), (2, aI v2), (3, aI v3), (4, aI v4)] [aI s2, aI s1, aR s0] h =
    cI (Ex 225 [aR s0, aI s1, aI s2, aI (0 : Int32)] h) (fun x2 h1 =>
    if x2 = 0 then
      cI (Ex 239 [aR o, aI v1, aI v3, aI v4] h1) (fun x4 h3 =>
      if x4 ≤ 0 then
        if v4 = (-1 : Int32) then
          cV (Ex 228 [aR o, aI v1, aI (2 : Int32), aI (1 : Int32)] h3) (fun h5 =>
          cV (Ex 228 [aR o, aI v1, aI (0 : Int32), aI (1 : Int32)] h5) (fun h6 =>
          (gfI h6 o 19 8).bind (fun x7 =>
          (gfI h6 o 19 8).bind (fun x8 =>
          (pf h6 o 19 8 (aI (x8 + (1 : Int32)))).bind (fun h9 =>
          cV (Ex 230 [aR o, aI x7, aI (1 : Int32), aI v1] h9) (fun h10 =>
          cV (Ex 230 [aR o, aI x7, aI (2 : Int32), aI v2] h10) (fun h11 =>
          cV (Ex 230 [aR o, aI x7, aI (3 : Int32), aI v3] h11) (fun h12 =>
          cI (Ex 226 [aR o, aI v1, aI (0 : Int32)] h12) (fun x14 h13 =>
          cV (Ex 230 [aR o, aI x7, aI (4 : Int32), aI x14] h13) (fun h15 =>
          (gfI h15 o 19 9).bind (fun x16 =>
          cV (Ex 230 [aR o, aI x7, aI (6 : Int32), aI x16] h15) (fun h17 =>
          if v4 = (-1 : Int32) then
            cV (Ex 230 [aR o, aI x7, aI (9 : Int32), aI (1 : Int32)] h17) (fun h18 =>
            cI (Ex 241 [aR o, aI v2, aI v3] h18) (fun x20 h19 =>
            (gfR h19 o 19 5).bind (fun x21 =>
            (gaI h19 x21 1000 v2).bind (fun x22 =>
            (pa h19 x21 1000 v2 (aI (x22 + (1 : Int32)))).bind (fun h23 =>
            if x20 = 0 then
              cI (Ex 240 [aR o, aI x7] h23) (fun x25 h24 =>
              if x25 = 0 then
                cV (Ex 230 [aR o, aI x7, aI (0 : Int32), aI (1 : Int32)] h24) (fun h26 =>
                cI (Ex 237 [aR o, aI x7, aI (2 : Int32)] h26) (fun x28 h27 =>
                cV (Ex 230 [aR o, aI x7, aI (5 : Int32), aI x28] h27) (fun h29 =>
                (gfR h29 o 19 11).bind (fun x30 =>
                cI (Ex 226 [aR o, aI v1, aI (0 : Int32)] h29) (fun x32 h31 =>
                cI (Ex 229 [aR o, aI x7, aI (5 : Int32)] h31) (fun x34 h33 =>
                cV (Ex 196 [aR x30, aI v2, aI x7, aI v1, aI x32, aI v3, aI x34] h33) (fun h35 =>
                some (.inl (some (aI x7)), h35)) xT) xT) xT)) xT) xT) xT
              else
                some (.inl (some (aI x7)), h24)) xT
            else
              cV (Ex 230 [aR o, aI x7, aI (0 : Int32), aI (1 : Int32)] h23) (fun h36 =>
              cI (Ex 237 [aR o, aI x7, aI (2 : Int32)] h36) (fun x38 h37 =>
              cV (Ex 230 [aR o, aI x7, aI (5 : Int32), aI x38] h37) (fun h39 =>
              (gfR h39 o 19 11).bind (fun x40 =>
              cI (Ex 226 [aR o, aI v1, aI (0 : Int32)] h39) (fun x42 h41 =>
              cI (Ex 229 [aR o, aI x7, aI (5 : Int32)] h41) (fun x44 h43 =>
              cV (Ex 196 [aR x40, aI v2, aI x7, aI v1, aI x42, aI v3, aI x44] h43) (fun h45 =>
              some (.inl (some (aI x7)), h45)) xT) xT) xT)) xT) xT) xT)))) xT) xT
          else
            cV (Ex 230 [aR o, aI x7, aI (9 : Int32), aI (0 : Int32)] h17) (fun h46 =>
            cI (Ex 241 [aR o, aI v2, aI v3] h46) (fun x48 h47 =>
            (gfR h47 o 19 5).bind (fun x49 =>
            (gaI h47 x49 1000 v2).bind (fun x50 =>
            (pa h47 x49 1000 v2 (aI (x50 + (1 : Int32)))).bind (fun h51 =>
            if x48 = 0 then
              cI (Ex 240 [aR o, aI x7] h51) (fun x53 h52 =>
              if x53 = 0 then
                cV (Ex 230 [aR o, aI x7, aI (0 : Int32), aI (1 : Int32)] h52) (fun h54 =>
                cI (Ex 237 [aR o, aI x7, aI (2 : Int32)] h54) (fun x56 h55 =>
                cV (Ex 230 [aR o, aI x7, aI (5 : Int32), aI x56] h55) (fun h57 =>
                (gfR h57 o 19 11).bind (fun x58 =>
                cI (Ex 226 [aR o, aI v1, aI (0 : Int32)] h57) (fun x60 h59 =>
                cI (Ex 229 [aR o, aI x7, aI (5 : Int32)] h59) (fun x62 h61 =>
                cV (Ex 196 [aR x58, aI v2, aI x7, aI v1, aI x60, aI v3, aI x62] h61) (fun h63 =>
                some (.inl (some (aI x7)), h63)) xT) xT) xT)) xT) xT) xT
              else
                some (.inl (some (aI x7)), h52)) xT
            else
              cV (Ex 230 [aR o, aI x7, aI (0 : Int32), aI (1 : Int32)] h51) (fun h64 =>
              cI (Ex 237 [aR o, aI x7, aI (2 : Int32)] h64) (fun x66 h65 =>
              cV (Ex 230 [aR o, aI x7, aI (5 : Int32), aI x66] h65) (fun h67 =>
              (gfR h67 o 19 11).bind (fun x68 =>
              cI (Ex 226 [aR o, aI v1, aI (0 : Int32)] h67) (fun x70 h69 =>
              cI (Ex 229 [aR o, aI x7, aI (5 : Int32)] h69) (fun x72 h71 =>
              cV (Ex 196 [aR x68, aI v2, aI x7, aI v1, aI x70, aI v3, aI x72] h71) (fun h73 =>
              some (.inl (some (aI x7)), h73)) xT) xT) xT)) xT) xT) xT)))) xT) xT) xT)) xT) xT) xT) xT) xT)))) xT) xT
        else
          cV (Ex 227 [aR o, aI v1, aI (1 : Int32), aI (3 : Int32)] h3) (fun h74 =>
          cV (Ex 227 [aR o, aI v1, aI (2 : Int32), aI (0 : Int32)] h74) (fun h75 =>
          cV (Ex 228 [aR o, aI v1, aI (0 : Int32), aI (1 : Int32)] h75) (fun h76 =>
          (gfI h76 o 19 8).bind (fun x77 =>
          (gfI h76 o 19 8).bind (fun x78 =>
          (pf h76 o 19 8 (aI (x78 + (1 : Int32)))).bind (fun h79 =>
          cV (Ex 230 [aR o, aI x77, aI (1 : Int32), aI v1] h79) (fun h80 =>
          cV (Ex 230 [aR o, aI x77, aI (2 : Int32), aI v2] h80) (fun h81 =>
          cV (Ex 230 [aR o, aI x77, aI (3 : Int32), aI v3] h81) (fun h82 =>
          cI (Ex 226 [aR o, aI v1, aI (0 : Int32)] h82) (fun x84 h83 =>
          cV (Ex 230 [aR o, aI x77, aI (4 : Int32), aI x84] h83) (fun h85 =>
          (gfI h85 o 19 9).bind (fun x86 =>
          cV (Ex 230 [aR o, aI x77, aI (6 : Int32), aI x86] h85) (fun h87 =>
          if v4 = (-1 : Int32) then
            cV (Ex 230 [aR o, aI x77, aI (9 : Int32), aI (1 : Int32)] h87) (fun h88 =>
            cI (Ex 241 [aR o, aI v2, aI v3] h88) (fun x90 h89 =>
            (gfR h89 o 19 5).bind (fun x91 =>
            (gaI h89 x91 1000 v2).bind (fun x92 =>
            (pa h89 x91 1000 v2 (aI (x92 + (1 : Int32)))).bind (fun h93 =>
            if x90 = 0 then
              cI (Ex 240 [aR o, aI x77] h93) (fun x95 h94 =>
              if x95 = 0 then
                cV (Ex 230 [aR o, aI x77, aI (0 : Int32), aI (1 : Int32)] h94) (fun h96 =>
                cI (Ex 237 [aR o, aI x77, aI (2 : Int32)] h96) (fun x98 h97 =>
                cV (Ex 230 [aR o, aI x77, aI (5 : Int32), aI x98] h97) (fun h99 =>
                (gfR h99 o 19 11).bind (fun x100 =>
                cI (Ex 226 [aR o, aI v1, aI (0 : Int32)] h99) (fun x102 h101 =>
                cI (Ex 229 [aR o, aI x77, aI (5 : Int32)] h101) (fun x104 h103 =>
                cV (Ex 196 [aR x100, aI v2, aI x77, aI v1, aI x102, aI v3, aI x104] h103) (fun h105 =>
                some (.inl (some (aI x77)), h105)) xT) xT) xT)) xT) xT) xT
              else
                some (.inl (some (aI x77)), h94)) xT
            else
              cV (Ex 230 [aR o, aI x77, aI (0 : Int32), aI (1 : Int32)] h93) (fun h106 =>
              cI (Ex 237 [aR o, aI x77, aI (2 : Int32)] h106) (fun x108 h107 =>
              cV (Ex 230 [aR o, aI x77, aI (5 : Int32), aI x108] h107) (fun h109 =>
              (gfR h109 o 19 11).bind (fun x110 =>
              cI (Ex 226 [aR o, aI v1, aI (0 : Int32)] h109) (fun x112 h111 =>
              cI (Ex 229 [aR o, aI x77, aI (5 : Int32)] h111) (fun x114 h113 =>
              cV (Ex 196 [aR x110, aI v2, aI x77, aI v1, aI x112, aI v3, aI x114] h113) (fun h115 =>
              some (.inl (some (aI x77)), h115)) xT) xT) xT)) xT) xT) xT)))) xT) xT
          else
            cV (Ex 230 [aR o, aI x77, aI (9 : Int32), aI (0 : Int32)] h87) (fun h116 =>
            cI (Ex 241 [aR o, aI v2, aI v3] h116) (fun x118 h117 =>
            (gfR h117 o 19 5).bind (fun x119 =>
            (gaI h117 x119 1000 v2).bind (fun x120 =>
            (pa h117 x119 1000 v2 (aI (x120 + (1 : Int32)))).bind (fun h121 =>
            if x118 = 0 then
              cI (Ex 240 [aR o, aI x77] h121) (fun x123 h122 =>
              if x123 = 0 then
                cV (Ex 230 [aR o, aI x77, aI (0 : Int32), aI (1 : Int32)] h122) (fun h124 =>
                cI (Ex 237 [aR o, aI x77, aI (2 : Int32)] h124) (fun x126 h125 =>
                cV (Ex 230 [aR o, aI x77, aI (5 : Int32), aI x126] h125) (fun h127 =>
                (gfR h127 o 19 11).bind (fun x128 =>
                cI (Ex 226 [aR o, aI v1, aI (0 : Int32)] h127) (fun x130 h129 =>
                cI (Ex 229 [aR o, aI x77, aI (5 : Int32)] h129) (fun x132 h131 =>
                cV (Ex 196 [aR x128, aI v2, aI x77, aI v1, aI x130, aI v3, aI x132] h131) (fun h133 =>
                some (.inl (some (aI x77)), h133)) xT) xT) xT)) xT) xT) xT
              else
                some (.inl (some (aI x77)), h122)) xT
            else
              cV (Ex 230 [aR o, aI x77, aI (0 : Int32), aI (1 : Int32)] h121) (fun h134 =>
              cI (Ex 237 [aR o, aI x77, aI (2 : Int32)] h134) (fun x136 h135 =>
              cV (Ex 230 [aR o, aI x77, aI (5 : Int32), aI x136] h135) (fun h137 =>
              (gfR h137 o 19 11).bind (fun x138 =>
              cI (Ex 226 [aR o, aI v1, aI (0 : Int32)] h137) (fun x140 h139 =>
              cI (Ex 229 [aR o, aI x77, aI (5 : Int32)] h139) (fun x142 h141 =>
              cV (Ex 196 [aR x138, aI v2, aI x77, aI v1, aI x140, aI v3, aI x142] h141) (fun h143 =>
              some (.inl (some (aI x77)), h143)) xT) xT) xT)) xT) xT) xT)))) xT) xT) xT)) xT) xT) xT) xT) xT)))) xT) xT) xT
      else
        some (.inl (some (aI (-x4))), h3)) xT
    else
      some (.inl (some (aI (0 : Int32))), h1)) xT :=
  lift_of (k := 126) (rows := code_242) (cuts := cut_242) (hs := hdl_242) (r := fun R E =>
    cI (E 225 [aR s0, aI s1, aI s2, aI (0 : Int32)] h) (fun x2 h1 =>
    if x2 = 0 then
      cI (E 239 [aR o, aI v1, aI v3, aI v4] h1) (fun x4 h3 =>
      if x4 ≤ 0 then
        if v4 = (-1 : Int32) then
          cV (E 228 [aR o, aI v1, aI (2 : Int32), aI (1 : Int32)] h3) (fun h5 =>
          cV (E 228 [aR o, aI v1, aI (0 : Int32), aI (1 : Int32)] h5) (fun h6 =>
          (gfI h6 o 19 8).bind (fun x7 =>
          (gfI h6 o 19 8).bind (fun x8 =>
          (pf h6 o 19 8 (aI (x8 + (1 : Int32)))).bind (fun h9 =>
          cV (E 230 [aR o, aI x7, aI (1 : Int32), aI v1] h9) (fun h10 =>
          cV (E 230 [aR o, aI x7, aI (2 : Int32), aI v2] h10) (fun h11 =>
          cV (E 230 [aR o, aI x7, aI (3 : Int32), aI v3] h11) (fun h12 =>
          cI (E 226 [aR o, aI v1, aI (0 : Int32)] h12) (fun x14 h13 =>
          cV (E 230 [aR o, aI x7, aI (4 : Int32), aI x14] h13) (fun h15 =>
          (gfI h15 o 19 9).bind (fun x16 =>
          cV (E 230 [aR o, aI x7, aI (6 : Int32), aI x16] h15) (fun h17 =>
          if v4 = (-1 : Int32) then
            cV (E 230 [aR o, aI x7, aI (9 : Int32), aI (1 : Int32)] h17) (fun h18 =>
            cI (E 241 [aR o, aI v2, aI v3] h18) (fun x20 h19 =>
            (gfR h19 o 19 5).bind (fun x21 =>
            (gaI h19 x21 1000 v2).bind (fun x22 =>
            (pa h19 x21 1000 v2 (aI (x22 + (1 : Int32)))).bind (fun h23 =>
            if x20 = 0 then
              cI (E 240 [aR o, aI x7] h23) (fun x25 h24 =>
              if x25 = 0 then
                cV (E 230 [aR o, aI x7, aI (0 : Int32), aI (1 : Int32)] h24) (fun h26 =>
                cI (E 237 [aR o, aI x7, aI (2 : Int32)] h26) (fun x28 h27 =>
                cV (E 230 [aR o, aI x7, aI (5 : Int32), aI x28] h27) (fun h29 =>
                (gfR h29 o 19 11).bind (fun x30 =>
                cI (E 226 [aR o, aI v1, aI (0 : Int32)] h29) (fun x32 h31 =>
                cI (E 229 [aR o, aI x7, aI (5 : Int32)] h31) (fun x34 h33 =>
                cV (E 196 [aR x30, aI v2, aI x7, aI v1, aI x32, aI v3, aI x34] h33) (fun h35 =>
                some (.inl (some (aI x7)), h35)) xT) xT) xT)) xT) xT) xT
              else
                some (.inl (some (aI x7)), h24)) xT
            else
              cV (E 230 [aR o, aI x7, aI (0 : Int32), aI (1 : Int32)] h23) (fun h36 =>
              cI (E 237 [aR o, aI x7, aI (2 : Int32)] h36) (fun x38 h37 =>
              cV (E 230 [aR o, aI x7, aI (5 : Int32), aI x38] h37) (fun h39 =>
              (gfR h39 o 19 11).bind (fun x40 =>
              cI (E 226 [aR o, aI v1, aI (0 : Int32)] h39) (fun x42 h41 =>
              cI (E 229 [aR o, aI x7, aI (5 : Int32)] h41) (fun x44 h43 =>
              cV (E 196 [aR x40, aI v2, aI x7, aI v1, aI x42, aI v3, aI x44] h43) (fun h45 =>
              some (.inl (some (aI x7)), h45)) xT) xT) xT)) xT) xT) xT)))) xT) xT
          else
            cV (E 230 [aR o, aI x7, aI (9 : Int32), aI (0 : Int32)] h17) (fun h46 =>
            cI (E 241 [aR o, aI v2, aI v3] h46) (fun x48 h47 =>
            (gfR h47 o 19 5).bind (fun x49 =>
            (gaI h47 x49 1000 v2).bind (fun x50 =>
            (pa h47 x49 1000 v2 (aI (x50 + (1 : Int32)))).bind (fun h51 =>
            if x48 = 0 then
              cI (E 240 [aR o, aI x7] h51) (fun x53 h52 =>
              if x53 = 0 then
                cV (E 230 [aR o, aI x7, aI (0 : Int32), aI (1 : Int32)] h52) (fun h54 =>
                cI (E 237 [aR o, aI x7, aI (2 : Int32)] h54) (fun x56 h55 =>
                cV (E 230 [aR o, aI x7, aI (5 : Int32), aI x56] h55) (fun h57 =>
                (gfR h57 o 19 11).bind (fun x58 =>
                cI (E 226 [aR o, aI v1, aI (0 : Int32)] h57) (fun x60 h59 =>
                cI (E 229 [aR o, aI x7, aI (5 : Int32)] h59) (fun x62 h61 =>
                cV (E 196 [aR x58, aI v2, aI x7, aI v1, aI x60, aI v3, aI x62] h61) (fun h63 =>
                some (.inl (some (aI x7)), h63)) xT) xT) xT)) xT) xT) xT
              else
                some (.inl (some (aI x7)), h52)) xT
            else
              cV (E 230 [aR o, aI x7, aI (0 : Int32), aI (1 : Int32)] h51) (fun h64 =>
              cI (E 237 [aR o, aI x7, aI (2 : Int32)] h64) (fun x66 h65 =>
              cV (E 230 [aR o, aI x7, aI (5 : Int32), aI x66] h65) (fun h67 =>
              (gfR h67 o 19 11).bind (fun x68 =>
              cI (E 226 [aR o, aI v1, aI (0 : Int32)] h67) (fun x70 h69 =>
              cI (E 229 [aR o, aI x7, aI (5 : Int32)] h69) (fun x72 h71 =>
              cV (E 196 [aR x68, aI v2, aI x7, aI v1, aI x70, aI v3, aI x72] h71) (fun h73 =>
              some (.inl (some (aI x7)), h73)) xT) xT) xT)) xT) xT) xT)))) xT) xT) xT)) xT) xT) xT) xT) xT)))) xT) xT
        else
          cV (E 227 [aR o, aI v1, aI (1 : Int32), aI (3 : Int32)] h3) (fun h74 =>
          cV (E 227 [aR o, aI v1, aI (2 : Int32), aI (0 : Int32)] h74) (fun h75 =>
          cV (E 228 [aR o, aI v1, aI (0 : Int32), aI (1 : Int32)] h75) (fun h76 =>
          (gfI h76 o 19 8).bind (fun x77 =>
          (gfI h76 o 19 8).bind (fun x78 =>
          (pf h76 o 19 8 (aI (x78 + (1 : Int32)))).bind (fun h79 =>
          cV (E 230 [aR o, aI x77, aI (1 : Int32), aI v1] h79) (fun h80 =>
          cV (E 230 [aR o, aI x77, aI (2 : Int32), aI v2] h80) (fun h81 =>
          cV (E 230 [aR o, aI x77, aI (3 : Int32), aI v3] h81) (fun h82 =>
          cI (E 226 [aR o, aI v1, aI (0 : Int32)] h82) (fun x84 h83 =>
          cV (E 230 [aR o, aI x77, aI (4 : Int32), aI x84] h83) (fun h85 =>
          (gfI h85 o 19 9).bind (fun x86 =>
          cV (E 230 [aR o, aI x77, aI (6 : Int32), aI x86] h85) (fun h87 =>
          if v4 = (-1 : Int32) then
            cV (E 230 [aR o, aI x77, aI (9 : Int32), aI (1 : Int32)] h87) (fun h88 =>
            cI (E 241 [aR o, aI v2, aI v3] h88) (fun x90 h89 =>
            (gfR h89 o 19 5).bind (fun x91 =>
            (gaI h89 x91 1000 v2).bind (fun x92 =>
            (pa h89 x91 1000 v2 (aI (x92 + (1 : Int32)))).bind (fun h93 =>
            if x90 = 0 then
              cI (E 240 [aR o, aI x77] h93) (fun x95 h94 =>
              if x95 = 0 then
                cV (E 230 [aR o, aI x77, aI (0 : Int32), aI (1 : Int32)] h94) (fun h96 =>
                cI (E 237 [aR o, aI x77, aI (2 : Int32)] h96) (fun x98 h97 =>
                cV (E 230 [aR o, aI x77, aI (5 : Int32), aI x98] h97) (fun h99 =>
                (gfR h99 o 19 11).bind (fun x100 =>
                cI (E 226 [aR o, aI v1, aI (0 : Int32)] h99) (fun x102 h101 =>
                cI (E 229 [aR o, aI x77, aI (5 : Int32)] h101) (fun x104 h103 =>
                cV (E 196 [aR x100, aI v2, aI x77, aI v1, aI x102, aI v3, aI x104] h103) (fun h105 =>
                some (.inl (some (aI x77)), h105)) xT) xT) xT)) xT) xT) xT
              else
                some (.inl (some (aI x77)), h94)) xT
            else
              cV (E 230 [aR o, aI x77, aI (0 : Int32), aI (1 : Int32)] h93) (fun h106 =>
              cI (E 237 [aR o, aI x77, aI (2 : Int32)] h106) (fun x108 h107 =>
              cV (E 230 [aR o, aI x77, aI (5 : Int32), aI x108] h107) (fun h109 =>
              (gfR h109 o 19 11).bind (fun x110 =>
              cI (E 226 [aR o, aI v1, aI (0 : Int32)] h109) (fun x112 h111 =>
              cI (E 229 [aR o, aI x77, aI (5 : Int32)] h111) (fun x114 h113 =>
              cV (E 196 [aR x110, aI v2, aI x77, aI v1, aI x112, aI v3, aI x114] h113) (fun h115 =>
              some (.inl (some (aI x77)), h115)) xT) xT) xT)) xT) xT) xT)))) xT) xT
          else
            cV (E 230 [aR o, aI x77, aI (9 : Int32), aI (0 : Int32)] h87) (fun h116 =>
            cI (E 241 [aR o, aI v2, aI v3] h116) (fun x118 h117 =>
            (gfR h117 o 19 5).bind (fun x119 =>
            (gaI h117 x119 1000 v2).bind (fun x120 =>
            (pa h117 x119 1000 v2 (aI (x120 + (1 : Int32)))).bind (fun h121 =>
            if x118 = 0 then
              cI (E 240 [aR o, aI x77] h121) (fun x123 h122 =>
              if x123 = 0 then
                cV (E 230 [aR o, aI x77, aI (0 : Int32), aI (1 : Int32)] h122) (fun h124 =>
                cI (E 237 [aR o, aI x77, aI (2 : Int32)] h124) (fun x126 h125 =>
                cV (E 230 [aR o, aI x77, aI (5 : Int32), aI x126] h125) (fun h127 =>
                (gfR h127 o 19 11).bind (fun x128 =>
                cI (E 226 [aR o, aI v1, aI (0 : Int32)] h127) (fun x130 h129 =>
                cI (E 229 [aR o, aI x77, aI (5 : Int32)] h129) (fun x132 h131 =>
                cV (E 196 [aR x128, aI v2, aI x77, aI v1, aI x130, aI v3, aI x132] h131) (fun h133 =>
                some (.inl (some (aI x77)), h133)) xT) xT) xT)) xT) xT) xT
              else
                some (.inl (some (aI x77)), h122)) xT
            else
              cV (E 230 [aR o, aI x77, aI (0 : Int32), aI (1 : Int32)] h121) (fun h134 =>
              cI (E 237 [aR o, aI x77, aI (2 : Int32)] h134) (fun x136 h135 =>
              cV (E 230 [aR o, aI x77, aI (5 : Int32), aI x136] h135) (fun h137 =>
              (gfR h137 o 19 11).bind (fun x138 =>
              cI (E 226 [aR o, aI v1, aI (0 : Int32)] h137) (fun x140 h139 =>
              cI (E 229 [aR o, aI x77, aI (5 : Int32)] h139) (fun x142 h141 =>
              cV (E 196 [aR x138, aI v2, aI x77, aI v1, aI x140, aI v3, aI x142] h141) (fun h143 =>
              some (.inl (some (aI x77)), h143)) xT) xT) xT)) xT) xT) xT)))) xT) xT) xT)) xT) xT) xT) xT) xT)))) xT) xT) xT
      else
        some (.inl (some (aI (-x4))), h3)) xT
    else
      some (.inl (some (aI (0 : Int32))), h1)) xT) rfl rfl rfl (fun R E => rfl)
-- ChipcardhouseModel$Tills.isTold(II)V
set_option maxRecDepth 100000 in
theorem lf_243_0 (o : Option (Nat × Nat)) (p0 : Int32) (p1 : Int32) (h : Hp) : Ru 243 0 [(0, aR o), (1, aI p0), (2, aI p1)] [] h =
    if ((p1 >>> ((1 : Int32) &&& 31)) &&& (1 : Int32)) = (1 : Int32) then
      cV (Ex 227 [aR o, aI p0, aI (1 : Int32), aI (3 : Int32)] h) (fun h1 =>
      if ((p1 >>> ((2 : Int32) &&& 31)) &&& (1 : Int32)) = (1 : Int32) then
        cV (Ex 227 [aR o, aI p0, aI (5 : Int32), aI (1 : Int32)] h1) (fun h2 =>
        if ((p1 >>> ((3 : Int32) &&& 31)) &&& (1 : Int32)) = (1 : Int32) then
          cV (Ex 227 [aR o, aI p0, aI (6 : Int32), aI (0 : Int32)] h2) (fun h3 =>
          some (.inl none, h3)) xT
        else
          some (.inl none, h2)) xT
      else
        if ((p1 >>> ((3 : Int32) &&& 31)) &&& (1 : Int32)) = (1 : Int32) then
          cV (Ex 227 [aR o, aI p0, aI (6 : Int32), aI (0 : Int32)] h1) (fun h4 =>
          some (.inl none, h4)) xT
        else
          some (.inl none, h1)) xT
    else
      if ((p1 >>> ((2 : Int32) &&& 31)) &&& (1 : Int32)) = (1 : Int32) then
        cV (Ex 227 [aR o, aI p0, aI (5 : Int32), aI (1 : Int32)] h) (fun h5 =>
        if ((p1 >>> ((3 : Int32) &&& 31)) &&& (1 : Int32)) = (1 : Int32) then
          cV (Ex 227 [aR o, aI p0, aI (6 : Int32), aI (0 : Int32)] h5) (fun h6 =>
          some (.inl none, h6)) xT
        else
          some (.inl none, h5)) xT
      else
        if ((p1 >>> ((3 : Int32) &&& 31)) &&& (1 : Int32)) = (1 : Int32) then
          cV (Ex 227 [aR o, aI p0, aI (6 : Int32), aI (0 : Int32)] h) (fun h7 =>
          some (.inl none, h7)) xT
        else
          some (.inl none, h) :=
  lift_of (k := 38) (rows := code_243) (cuts := cut_243) (hs := hdl_243) (r := fun R E =>
    if ((p1 >>> ((1 : Int32) &&& 31)) &&& (1 : Int32)) = (1 : Int32) then
      cV (E 227 [aR o, aI p0, aI (1 : Int32), aI (3 : Int32)] h) (fun h1 =>
      if ((p1 >>> ((2 : Int32) &&& 31)) &&& (1 : Int32)) = (1 : Int32) then
        cV (E 227 [aR o, aI p0, aI (5 : Int32), aI (1 : Int32)] h1) (fun h2 =>
        if ((p1 >>> ((3 : Int32) &&& 31)) &&& (1 : Int32)) = (1 : Int32) then
          cV (E 227 [aR o, aI p0, aI (6 : Int32), aI (0 : Int32)] h2) (fun h3 =>
          some (.inl none, h3)) xT
        else
          some (.inl none, h2)) xT
      else
        if ((p1 >>> ((3 : Int32) &&& 31)) &&& (1 : Int32)) = (1 : Int32) then
          cV (E 227 [aR o, aI p0, aI (6 : Int32), aI (0 : Int32)] h1) (fun h4 =>
          some (.inl none, h4)) xT
        else
          some (.inl none, h1)) xT
    else
      if ((p1 >>> ((2 : Int32) &&& 31)) &&& (1 : Int32)) = (1 : Int32) then
        cV (E 227 [aR o, aI p0, aI (5 : Int32), aI (1 : Int32)] h) (fun h5 =>
        if ((p1 >>> ((3 : Int32) &&& 31)) &&& (1 : Int32)) = (1 : Int32) then
          cV (E 227 [aR o, aI p0, aI (6 : Int32), aI (0 : Int32)] h5) (fun h6 =>
          some (.inl none, h6)) xT
        else
          some (.inl none, h5)) xT
      else
        if ((p1 >>> ((3 : Int32) &&& 31)) &&& (1 : Int32)) = (1 : Int32) then
          cV (E 227 [aR o, aI p0, aI (6 : Int32), aI (0 : Int32)] h) (fun h7 =>
          some (.inl none, h7)) xT
        else
          some (.inl none, h)) rfl rfl rfl (fun R E => rfl)
-- ChipcardhouseModel$Tills.answers(IZZIII)V
set_option maxRecDepth 100000 in
theorem lf_244_0 (o : Option (Nat × Nat)) (p0 : Int32) (p1 : Int32) (p2 : Int32) (p3 : Int32) (p4 : Int32) (p5 : Int32) (h : Hp) : Ru 244 0 [(0, aR o), (1, aI p0), (2, aI p1), (3, aI p2), (4, aI p3), (5, aI p4), (6, aI p5)] [] h =
    (gfI h o 19 8).bind (fun x1 =>
    cI (Ex 224 [aI p0, aI (0 : Int32), aI (x1 - (1 : Int32))] h) (fun x3 h2 =>
    if x3 = 0 then
      some (.inl none, h2)
    else
      cI (Ex 229 [aR o, aI p0, aI (0 : Int32)] h2) (fun x5 h4 =>
      if x5 = (1 : Int32) then
        cI (Ex 229 [aR o, aI p0, aI (1 : Int32)] h4) (fun x7 h6 =>
        if p1 = 0 then
          if p2 = 0 then
            if p2 = 0 then
              Ru 244 81 [(0, aR o), (1, aI p0), (2, aI p1), (3, aI p2), (4, aI p3), (6, aI p5), (7, aI x7), (8, aI (0 : Int32))] [aI (3 : Int32), aI (0 : Int32), aI p0, aR o] h6
            else
              Ru 244 81 [(0, aR o), (1, aI p0), (2, aI p1), (3, aI p2), (4, aI p3), (6, aI p5), (7, aI x7), (8, aI (0 : Int32))] [aI (2 : Int32), aI (0 : Int32), aI p0, aR o] h6
          else
            if p1 = 0 then
              if p2 = 0 then
                Ru 244 81 [(0, aR o), (1, aI p0), (2, aI p1), (3, aI p2), (4, aI p3), (6, aI p5), (7, aI x7), (8, aI (0 : Int32))] [aI (3 : Int32), aI (0 : Int32), aI p0, aR o] h6
              else
                Ru 244 81 [(0, aR o), (1, aI p0), (2, aI p1), (3, aI p2), (4, aI p3), (6, aI p5), (7, aI x7), (8, aI (0 : Int32))] [aI (2 : Int32), aI (0 : Int32), aI p0, aR o] h6
            else
              if (0 : Int32) = 0 then
                some (.inl none, h6)
              else
                if p2 = 0 then
                  Ru 244 81 [(0, aR o), (1, aI p0), (2, aI p1), (3, aI p2), (4, aI p3), (6, aI p5), (7, aI x7), (8, aI (0 : Int32))] [aI (3 : Int32), aI (0 : Int32), aI p0, aR o] h6
                else
                  Ru 244 81 [(0, aR o), (1, aI p0), (2, aI p1), (3, aI p2), (4, aI p3), (6, aI p5), (7, aI x7), (8, aI (0 : Int32))] [aI (2 : Int32), aI (0 : Int32), aI p0, aR o] h6
        else
          cI (Ex 237 [aR o, aI p0, aI (3 : Int32)] h6) (fun x9 h8 =>
          if p4 = x9 then
            if p2 = 0 then
              if p2 = 0 then
                Ru 244 81 [(0, aR o), (1, aI p0), (2, aI p1), (3, aI p2), (4, aI p3), (6, aI p5), (7, aI x7), (8, aI (1 : Int32))] [aI (3 : Int32), aI (0 : Int32), aI p0, aR o] h8
              else
                Ru 244 81 [(0, aR o), (1, aI p0), (2, aI p1), (3, aI p2), (4, aI p3), (6, aI p5), (7, aI x7), (8, aI (1 : Int32))] [aI (2 : Int32), aI (0 : Int32), aI p0, aR o] h8
            else
              if p1 = 0 then
                if p2 = 0 then
                  Ru 244 81 [(0, aR o), (1, aI p0), (2, aI p1), (3, aI p2), (4, aI p3), (6, aI p5), (7, aI x7), (8, aI (1 : Int32))] [aI (3 : Int32), aI (0 : Int32), aI p0, aR o] h8
                else
                  Ru 244 81 [(0, aR o), (1, aI p0), (2, aI p1), (3, aI p2), (4, aI p3), (6, aI p5), (7, aI x7), (8, aI (1 : Int32))] [aI (2 : Int32), aI (0 : Int32), aI p0, aR o] h8
              else
                if (1 : Int32) = 0 then
                  some (.inl none, h8)
                else
                  if p2 = 0 then
                    Ru 244 81 [(0, aR o), (1, aI p0), (2, aI p1), (3, aI p2), (4, aI p3), (6, aI p5), (7, aI x7), (8, aI (1 : Int32))] [aI (3 : Int32), aI (0 : Int32), aI p0, aR o] h8
                  else
                    Ru 244 81 [(0, aR o), (1, aI p0), (2, aI p1), (3, aI p2), (4, aI p3), (6, aI p5), (7, aI x7), (8, aI (1 : Int32))] [aI (2 : Int32), aI (0 : Int32), aI p0, aR o] h8
          else
            if p2 = 0 then
              if p2 = 0 then
                Ru 244 81 [(0, aR o), (1, aI p0), (2, aI p1), (3, aI p2), (4, aI p3), (6, aI p5), (7, aI x7), (8, aI (0 : Int32))] [aI (3 : Int32), aI (0 : Int32), aI p0, aR o] h8
              else
                Ru 244 81 [(0, aR o), (1, aI p0), (2, aI p1), (3, aI p2), (4, aI p3), (6, aI p5), (7, aI x7), (8, aI (0 : Int32))] [aI (2 : Int32), aI (0 : Int32), aI p0, aR o] h8
            else
              if p1 = 0 then
                if p2 = 0 then
                  Ru 244 81 [(0, aR o), (1, aI p0), (2, aI p1), (3, aI p2), (4, aI p3), (6, aI p5), (7, aI x7), (8, aI (0 : Int32))] [aI (3 : Int32), aI (0 : Int32), aI p0, aR o] h8
                else
                  Ru 244 81 [(0, aR o), (1, aI p0), (2, aI p1), (3, aI p2), (4, aI p3), (6, aI p5), (7, aI x7), (8, aI (0 : Int32))] [aI (2 : Int32), aI (0 : Int32), aI p0, aR o] h8
              else
                if (0 : Int32) = 0 then
                  some (.inl none, h8)
                else
                  if p2 = 0 then
                    Ru 244 81 [(0, aR o), (1, aI p0), (2, aI p1), (3, aI p2), (4, aI p3), (6, aI p5), (7, aI x7), (8, aI (0 : Int32))] [aI (3 : Int32), aI (0 : Int32), aI p0, aR o] h8
                  else
                    Ru 244 81 [(0, aR o), (1, aI p0), (2, aI p1), (3, aI p2), (4, aI p3), (6, aI p5), (7, aI x7), (8, aI (0 : Int32))] [aI (2 : Int32), aI (0 : Int32), aI p0, aR o] h8) xT) xT
      else
        some (.inl none, h4)) xT) xT) :=
  lift_of (k := 44) (rows := code_244) (cuts := cut_244) (hs := hdl_244) (r := fun R E =>
    (gfI h o 19 8).bind (fun x1 =>
    cI (E 224 [aI p0, aI (0 : Int32), aI (x1 - (1 : Int32))] h) (fun x3 h2 =>
    if x3 = 0 then
      some (.inl none, h2)
    else
      cI (E 229 [aR o, aI p0, aI (0 : Int32)] h2) (fun x5 h4 =>
      if x5 = (1 : Int32) then
        cI (E 229 [aR o, aI p0, aI (1 : Int32)] h4) (fun x7 h6 =>
        if p1 = 0 then
          if p2 = 0 then
            if p2 = 0 then
              R 81 [(0, aR o), (1, aI p0), (2, aI p1), (3, aI p2), (4, aI p3), (6, aI p5), (7, aI x7), (8, aI (0 : Int32))] [aI (3 : Int32), aI (0 : Int32), aI p0, aR o] h6
            else
              R 81 [(0, aR o), (1, aI p0), (2, aI p1), (3, aI p2), (4, aI p3), (6, aI p5), (7, aI x7), (8, aI (0 : Int32))] [aI (2 : Int32), aI (0 : Int32), aI p0, aR o] h6
          else
            if p1 = 0 then
              if p2 = 0 then
                R 81 [(0, aR o), (1, aI p0), (2, aI p1), (3, aI p2), (4, aI p3), (6, aI p5), (7, aI x7), (8, aI (0 : Int32))] [aI (3 : Int32), aI (0 : Int32), aI p0, aR o] h6
              else
                R 81 [(0, aR o), (1, aI p0), (2, aI p1), (3, aI p2), (4, aI p3), (6, aI p5), (7, aI x7), (8, aI (0 : Int32))] [aI (2 : Int32), aI (0 : Int32), aI p0, aR o] h6
            else
              if (0 : Int32) = 0 then
                some (.inl none, h6)
              else
                if p2 = 0 then
                  R 81 [(0, aR o), (1, aI p0), (2, aI p1), (3, aI p2), (4, aI p3), (6, aI p5), (7, aI x7), (8, aI (0 : Int32))] [aI (3 : Int32), aI (0 : Int32), aI p0, aR o] h6
                else
                  R 81 [(0, aR o), (1, aI p0), (2, aI p1), (3, aI p2), (4, aI p3), (6, aI p5), (7, aI x7), (8, aI (0 : Int32))] [aI (2 : Int32), aI (0 : Int32), aI p0, aR o] h6
        else
          cI (E 237 [aR o, aI p0, aI (3 : Int32)] h6) (fun x9 h8 =>
          if p4 = x9 then
            if p2 = 0 then
              if p2 = 0 then
                R 81 [(0, aR o), (1, aI p0), (2, aI p1), (3, aI p2), (4, aI p3), (6, aI p5), (7, aI x7), (8, aI (1 : Int32))] [aI (3 : Int32), aI (0 : Int32), aI p0, aR o] h8
              else
                R 81 [(0, aR o), (1, aI p0), (2, aI p1), (3, aI p2), (4, aI p3), (6, aI p5), (7, aI x7), (8, aI (1 : Int32))] [aI (2 : Int32), aI (0 : Int32), aI p0, aR o] h8
            else
              if p1 = 0 then
                if p2 = 0 then
                  R 81 [(0, aR o), (1, aI p0), (2, aI p1), (3, aI p2), (4, aI p3), (6, aI p5), (7, aI x7), (8, aI (1 : Int32))] [aI (3 : Int32), aI (0 : Int32), aI p0, aR o] h8
                else
                  R 81 [(0, aR o), (1, aI p0), (2, aI p1), (3, aI p2), (4, aI p3), (6, aI p5), (7, aI x7), (8, aI (1 : Int32))] [aI (2 : Int32), aI (0 : Int32), aI p0, aR o] h8
              else
                if (1 : Int32) = 0 then
                  some (.inl none, h8)
                else
                  if p2 = 0 then
                    R 81 [(0, aR o), (1, aI p0), (2, aI p1), (3, aI p2), (4, aI p3), (6, aI p5), (7, aI x7), (8, aI (1 : Int32))] [aI (3 : Int32), aI (0 : Int32), aI p0, aR o] h8
                  else
                    R 81 [(0, aR o), (1, aI p0), (2, aI p1), (3, aI p2), (4, aI p3), (6, aI p5), (7, aI x7), (8, aI (1 : Int32))] [aI (2 : Int32), aI (0 : Int32), aI p0, aR o] h8
          else
            if p2 = 0 then
              if p2 = 0 then
                R 81 [(0, aR o), (1, aI p0), (2, aI p1), (3, aI p2), (4, aI p3), (6, aI p5), (7, aI x7), (8, aI (0 : Int32))] [aI (3 : Int32), aI (0 : Int32), aI p0, aR o] h8
              else
                R 81 [(0, aR o), (1, aI p0), (2, aI p1), (3, aI p2), (4, aI p3), (6, aI p5), (7, aI x7), (8, aI (0 : Int32))] [aI (2 : Int32), aI (0 : Int32), aI p0, aR o] h8
            else
              if p1 = 0 then
                if p2 = 0 then
                  R 81 [(0, aR o), (1, aI p0), (2, aI p1), (3, aI p2), (4, aI p3), (6, aI p5), (7, aI x7), (8, aI (0 : Int32))] [aI (3 : Int32), aI (0 : Int32), aI p0, aR o] h8
                else
                  R 81 [(0, aR o), (1, aI p0), (2, aI p1), (3, aI p2), (4, aI p3), (6, aI p5), (7, aI x7), (8, aI (0 : Int32))] [aI (2 : Int32), aI (0 : Int32), aI p0, aR o] h8
              else
                if (0 : Int32) = 0 then
                  some (.inl none, h8)
                else
                  if p2 = 0 then
                    R 81 [(0, aR o), (1, aI p0), (2, aI p1), (3, aI p2), (4, aI p3), (6, aI p5), (7, aI x7), (8, aI (0 : Int32))] [aI (3 : Int32), aI (0 : Int32), aI p0, aR o] h8
                  else
                    R 81 [(0, aR o), (1, aI p0), (2, aI p1), (3, aI p2), (4, aI p3), (6, aI p5), (7, aI x7), (8, aI (0 : Int32))] [aI (2 : Int32), aI (0 : Int32), aI p0, aR o] h8) xT) xT
      else
        some (.inl none, h4)) xT) xT)) rfl rfl rfl (fun R E => rfl)
set_option maxRecDepth 100000 in
theorem lf_244_81 (o : Option (Nat × Nat)) (v1 : Int32) (v2 : Int32) (v3 : Int32) (v4 : Int32) (v6 : Int32) (v7 : Int32) (v8 : Int32) (s0 : Option (Nat × Nat)) (s1 : Int32) (s2 : Int32) (s3 : Int32) (h : Hp) : Ru 244 81 [(0, aR o), (1, aI v1), (2, aI v2), (3, aI v3), (4, aI v4), (6, aI v6), (7, aI v7), (8, aI v8)] [aI s3, aI s2, aI s1, aR s0] h =
    cV (Ex 230 [aR s0, aI s1, aI s2, aI s3] h) (fun h1 =>
    if v3 = 0 then
      cV (Ex 230 [aR o, aI v1, aI (7 : Int32), aI v4] h1) (fun h2 =>
      if v8 = 0 then
        some (.inl none, h2)
      else
        if v3 = 0 then
          cV (Ex 243 [aR o, aI v7, aI v6] h2) (fun h3 =>
          some (.inl none, h3)) xT
        else
          cV (Ex 227 [aR o, aI v7, aI (3 : Int32), aI (0 : Int32)] h2) (fun h4 =>
          cV (Ex 227 [aR o, aI v7, aI (4 : Int32), aI (0 : Int32)] h4) (fun h5 =>
          cV (Ex 227 [aR o, aI v7, aI (2 : Int32), aI (0 : Int32)] h5) (fun h6 =>
          cV (Ex 243 [aR o, aI v7, aI v6] h6) (fun h7 =>
          some (.inl none, h7)) xT) xT) xT) xT) xT
    else
      if v2 = 0 then
        cV (Ex 230 [aR o, aI v1, aI (8 : Int32), aI (2 : Int32)] h1) (fun h8 =>
        if v8 = 0 then
          some (.inl none, h8)
        else
          if v3 = 0 then
            cV (Ex 243 [aR o, aI v7, aI v6] h8) (fun h9 =>
            some (.inl none, h9)) xT
          else
            cV (Ex 227 [aR o, aI v7, aI (3 : Int32), aI (0 : Int32)] h8) (fun h10 =>
            cV (Ex 227 [aR o, aI v7, aI (4 : Int32), aI (0 : Int32)] h10) (fun h11 =>
            cV (Ex 227 [aR o, aI v7, aI (2 : Int32), aI (0 : Int32)] h11) (fun h12 =>
            cV (Ex 243 [aR o, aI v7, aI v6] h12) (fun h13 =>
            some (.inl none, h13)) xT) xT) xT) xT) xT
      else
        cV (Ex 230 [aR o, aI v1, aI (8 : Int32), aI (1 : Int32)] h1) (fun h14 =>
        if v8 = 0 then
          some (.inl none, h14)
        else
          if v3 = 0 then
            cV (Ex 243 [aR o, aI v7, aI v6] h14) (fun h15 =>
            some (.inl none, h15)) xT
          else
            cV (Ex 227 [aR o, aI v7, aI (3 : Int32), aI (0 : Int32)] h14) (fun h16 =>
            cV (Ex 227 [aR o, aI v7, aI (4 : Int32), aI (0 : Int32)] h16) (fun h17 =>
            cV (Ex 227 [aR o, aI v7, aI (2 : Int32), aI (0 : Int32)] h17) (fun h18 =>
            cV (Ex 243 [aR o, aI v7, aI v6] h18) (fun h19 =>
            some (.inl none, h19)) xT) xT) xT) xT) xT) xT :=
  lift_of (k := 36) (rows := code_244) (cuts := cut_244) (hs := hdl_244) (r := fun R E =>
    cV (E 230 [aR s0, aI s1, aI s2, aI s3] h) (fun h1 =>
    if v3 = 0 then
      cV (E 230 [aR o, aI v1, aI (7 : Int32), aI v4] h1) (fun h2 =>
      if v8 = 0 then
        some (.inl none, h2)
      else
        if v3 = 0 then
          cV (E 243 [aR o, aI v7, aI v6] h2) (fun h3 =>
          some (.inl none, h3)) xT
        else
          cV (E 227 [aR o, aI v7, aI (3 : Int32), aI (0 : Int32)] h2) (fun h4 =>
          cV (E 227 [aR o, aI v7, aI (4 : Int32), aI (0 : Int32)] h4) (fun h5 =>
          cV (E 227 [aR o, aI v7, aI (2 : Int32), aI (0 : Int32)] h5) (fun h6 =>
          cV (E 243 [aR o, aI v7, aI v6] h6) (fun h7 =>
          some (.inl none, h7)) xT) xT) xT) xT) xT
    else
      if v2 = 0 then
        cV (E 230 [aR o, aI v1, aI (8 : Int32), aI (2 : Int32)] h1) (fun h8 =>
        if v8 = 0 then
          some (.inl none, h8)
        else
          if v3 = 0 then
            cV (E 243 [aR o, aI v7, aI v6] h8) (fun h9 =>
            some (.inl none, h9)) xT
          else
            cV (E 227 [aR o, aI v7, aI (3 : Int32), aI (0 : Int32)] h8) (fun h10 =>
            cV (E 227 [aR o, aI v7, aI (4 : Int32), aI (0 : Int32)] h10) (fun h11 =>
            cV (E 227 [aR o, aI v7, aI (2 : Int32), aI (0 : Int32)] h11) (fun h12 =>
            cV (E 243 [aR o, aI v7, aI v6] h12) (fun h13 =>
            some (.inl none, h13)) xT) xT) xT) xT) xT
      else
        cV (E 230 [aR o, aI v1, aI (8 : Int32), aI (1 : Int32)] h1) (fun h14 =>
        if v8 = 0 then
          some (.inl none, h14)
        else
          if v3 = 0 then
            cV (E 243 [aR o, aI v7, aI v6] h14) (fun h15 =>
            some (.inl none, h15)) xT
          else
            cV (E 227 [aR o, aI v7, aI (3 : Int32), aI (0 : Int32)] h14) (fun h16 =>
            cV (E 227 [aR o, aI v7, aI (4 : Int32), aI (0 : Int32)] h16) (fun h17 =>
            cV (E 227 [aR o, aI v7, aI (2 : Int32), aI (0 : Int32)] h17) (fun h18 =>
            cV (E 243 [aR o, aI v7, aI v6] h18) (fun h19 =>
            some (.inl none, h19)) xT) xT) xT) xT) xT) xT) rfl rfl rfl (fun R E => rfl)
-- ChipcardhouseModel$Tills.looks(I)V
set_option maxRecDepth 100000 in
theorem lf_245_0 (o : Option (Nat × Nat)) (p0 : Int32) (h : Hp) : Ru 245 0 [(0, aR o), (1, aI p0)] [] h =
    Ru 245 2 [(0, aR o), (1, aI p0), (2, aI (0 : Int32))] [] h :=
  lift_of (k := 3) (rows := code_245) (cuts := cut_245) (hs := hdl_245) (r := fun R E =>
    R 2 [(0, aR o), (1, aI p0), (2, aI (0 : Int32))] [] h) rfl rfl rfl (fun R E => rfl)
set_option maxRecDepth 100000 in
theorem lf_245_2 (o : Option (Nat × Nat)) (v1 : Int32) (v2 : Int32) (h : Hp) : Ru 245 2 [(0, aR o), (1, aI v1), (2, aI v2)] [] h =
    (gfI h o 19 8).bind (fun x1 =>
    if x1 ≤ v2 then
      some (.inl none, h)
    else
      cI (Ex 229 [aR o, aI v2, aI (2 : Int32)] h) (fun x3 h2 =>
      if x3 = v1 then
        cI (Ex 229 [aR o, aI v2, aI (0 : Int32)] h2) (fun x5 h4 =>
        if x5 = (1 : Int32) then
          (gfI h4 o 19 9).bind (fun x6 =>
          cI (Ex 229 [aR o, aI v2, aI (6 : Int32)] h4) (fun x8 h7 =>
          if (8 : Int32) ≤ (x6 - x8) then
            cI (Ex 229 [aR o, aI v2, aI (3 : Int32)] h7) (fun x10 h9 =>
            (gfR h9 o 19 3).bind (fun x11 =>
            (gaI h9 x11 1000 v1).bind (fun x12 =>
            if x12 < x10 then
              if (0 : Int32) = 0 then
                cV (Ex 230 [aR o, aI v2, aI (0 : Int32), aI (4 : Int32)] h9) (fun h13 =>
                (gfR h13 o 19 11).bind (fun x14 =>
                cV (Ex 197 [aR x14, aI v1, aI v2] h13) (fun h15 =>
                Ru 245 2 [(0, aR o), (1, aI v1), (2, aI (v2 + (1 : Int32)))] [] h15) xT)) xT
              else
                cI (Ex 240 [aR o, aI v2] h9) (fun x17 h16 =>
                if x17 = 0 then
                  cV (Ex 230 [aR o, aI v2, aI (0 : Int32), aI (4 : Int32)] h16) (fun h18 =>
                  (gfR h18 o 19 11).bind (fun x19 =>
                  cV (Ex 197 [aR x19, aI v1, aI v2] h18) (fun h20 =>
                  Ru 245 2 [(0, aR o), (1, aI v1), (2, aI (v2 + (1 : Int32)))] [] h20) xT)) xT
                else
                  (gfR h16 o 19 11).bind (fun x21 =>
                  cV (Ex 197 [aR x21, aI v1, aI v2] h16) (fun h22 =>
                  Ru 245 2 [(0, aR o), (1, aI v1), (2, aI (v2 + (1 : Int32)))] [] h22) xT)) xT
            else
              cI (Ex 229 [aR o, aI v2, aI (1 : Int32)] h9) (fun x24 h23 =>
              cI (Ex 226 [aR o, aI x24, aI (5 : Int32)] h23) (fun x26 h25 =>
              if x26 = 0 then
                if (1 : Int32) = 0 then
                  cV (Ex 230 [aR o, aI v2, aI (0 : Int32), aI (4 : Int32)] h25) (fun h27 =>
                  (gfR h27 o 19 11).bind (fun x28 =>
                  cV (Ex 197 [aR x28, aI v1, aI v2] h27) (fun h29 =>
                  Ru 245 2 [(0, aR o), (1, aI v1), (2, aI (v2 + (1 : Int32)))] [] h29) xT)) xT
                else
                  cI (Ex 240 [aR o, aI v2] h25) (fun x31 h30 =>
                  if x31 = 0 then
                    cV (Ex 230 [aR o, aI v2, aI (0 : Int32), aI (4 : Int32)] h30) (fun h32 =>
                    (gfR h32 o 19 11).bind (fun x33 =>
                    cV (Ex 197 [aR x33, aI v1, aI v2] h32) (fun h34 =>
                    Ru 245 2 [(0, aR o), (1, aI v1), (2, aI (v2 + (1 : Int32)))] [] h34) xT)) xT
                  else
                    (gfR h30 o 19 11).bind (fun x35 =>
                    cV (Ex 197 [aR x35, aI v1, aI v2] h30) (fun h36 =>
                    Ru 245 2 [(0, aR o), (1, aI v1), (2, aI (v2 + (1 : Int32)))] [] h36) xT)) xT
              else
                if (0 : Int32) = 0 then
                  cV (Ex 230 [aR o, aI v2, aI (0 : Int32), aI (4 : Int32)] h25) (fun h37 =>
                  (gfR h37 o 19 11).bind (fun x38 =>
                  cV (Ex 197 [aR x38, aI v1, aI v2] h37) (fun h39 =>
                  Ru 245 2 [(0, aR o), (1, aI v1), (2, aI (v2 + (1 : Int32)))] [] h39) xT)) xT
                else
                  cI (Ex 240 [aR o, aI v2] h25) (fun x41 h40 =>
                  if x41 = 0 then
                    cV (Ex 230 [aR o, aI v2, aI (0 : Int32), aI (4 : Int32)] h40) (fun h42 =>
                    (gfR h42 o 19 11).bind (fun x43 =>
                    cV (Ex 197 [aR x43, aI v1, aI v2] h42) (fun h44 =>
                    Ru 245 2 [(0, aR o), (1, aI v1), (2, aI (v2 + (1 : Int32)))] [] h44) xT)) xT
                  else
                    (gfR h40 o 19 11).bind (fun x45 =>
                    cV (Ex 197 [aR x45, aI v1, aI v2] h40) (fun h46 =>
                    Ru 245 2 [(0, aR o), (1, aI v1), (2, aI (v2 + (1 : Int32)))] [] h46) xT)) xT) xT) xT))) xT
          else
            Ru 245 2 [(0, aR o), (1, aI v1), (2, aI (v2 + (1 : Int32)))] [] h7) xT)
        else
          Ru 245 2 [(0, aR o), (1, aI v1), (2, aI (v2 + (1 : Int32)))] [] h4) xT
      else
        Ru 245 2 [(0, aR o), (1, aI v1), (2, aI (v2 + (1 : Int32)))] [] h2) xT) :=
  lift_of (k := 64) (rows := code_245) (cuts := cut_245) (hs := hdl_245) (r := fun R E =>
    (gfI h o 19 8).bind (fun x1 =>
    if x1 ≤ v2 then
      some (.inl none, h)
    else
      cI (E 229 [aR o, aI v2, aI (2 : Int32)] h) (fun x3 h2 =>
      if x3 = v1 then
        cI (E 229 [aR o, aI v2, aI (0 : Int32)] h2) (fun x5 h4 =>
        if x5 = (1 : Int32) then
          (gfI h4 o 19 9).bind (fun x6 =>
          cI (E 229 [aR o, aI v2, aI (6 : Int32)] h4) (fun x8 h7 =>
          if (8 : Int32) ≤ (x6 - x8) then
            cI (E 229 [aR o, aI v2, aI (3 : Int32)] h7) (fun x10 h9 =>
            (gfR h9 o 19 3).bind (fun x11 =>
            (gaI h9 x11 1000 v1).bind (fun x12 =>
            if x12 < x10 then
              if (0 : Int32) = 0 then
                cV (E 230 [aR o, aI v2, aI (0 : Int32), aI (4 : Int32)] h9) (fun h13 =>
                (gfR h13 o 19 11).bind (fun x14 =>
                cV (E 197 [aR x14, aI v1, aI v2] h13) (fun h15 =>
                R 2 [(0, aR o), (1, aI v1), (2, aI (v2 + (1 : Int32)))] [] h15) xT)) xT
              else
                cI (E 240 [aR o, aI v2] h9) (fun x17 h16 =>
                if x17 = 0 then
                  cV (E 230 [aR o, aI v2, aI (0 : Int32), aI (4 : Int32)] h16) (fun h18 =>
                  (gfR h18 o 19 11).bind (fun x19 =>
                  cV (E 197 [aR x19, aI v1, aI v2] h18) (fun h20 =>
                  R 2 [(0, aR o), (1, aI v1), (2, aI (v2 + (1 : Int32)))] [] h20) xT)) xT
                else
                  (gfR h16 o 19 11).bind (fun x21 =>
                  cV (E 197 [aR x21, aI v1, aI v2] h16) (fun h22 =>
                  R 2 [(0, aR o), (1, aI v1), (2, aI (v2 + (1 : Int32)))] [] h22) xT)) xT
            else
              cI (E 229 [aR o, aI v2, aI (1 : Int32)] h9) (fun x24 h23 =>
              cI (E 226 [aR o, aI x24, aI (5 : Int32)] h23) (fun x26 h25 =>
              if x26 = 0 then
                if (1 : Int32) = 0 then
                  cV (E 230 [aR o, aI v2, aI (0 : Int32), aI (4 : Int32)] h25) (fun h27 =>
                  (gfR h27 o 19 11).bind (fun x28 =>
                  cV (E 197 [aR x28, aI v1, aI v2] h27) (fun h29 =>
                  R 2 [(0, aR o), (1, aI v1), (2, aI (v2 + (1 : Int32)))] [] h29) xT)) xT
                else
                  cI (E 240 [aR o, aI v2] h25) (fun x31 h30 =>
                  if x31 = 0 then
                    cV (E 230 [aR o, aI v2, aI (0 : Int32), aI (4 : Int32)] h30) (fun h32 =>
                    (gfR h32 o 19 11).bind (fun x33 =>
                    cV (E 197 [aR x33, aI v1, aI v2] h32) (fun h34 =>
                    R 2 [(0, aR o), (1, aI v1), (2, aI (v2 + (1 : Int32)))] [] h34) xT)) xT
                  else
                    (gfR h30 o 19 11).bind (fun x35 =>
                    cV (E 197 [aR x35, aI v1, aI v2] h30) (fun h36 =>
                    R 2 [(0, aR o), (1, aI v1), (2, aI (v2 + (1 : Int32)))] [] h36) xT)) xT
              else
                if (0 : Int32) = 0 then
                  cV (E 230 [aR o, aI v2, aI (0 : Int32), aI (4 : Int32)] h25) (fun h37 =>
                  (gfR h37 o 19 11).bind (fun x38 =>
                  cV (E 197 [aR x38, aI v1, aI v2] h37) (fun h39 =>
                  R 2 [(0, aR o), (1, aI v1), (2, aI (v2 + (1 : Int32)))] [] h39) xT)) xT
                else
                  cI (E 240 [aR o, aI v2] h25) (fun x41 h40 =>
                  if x41 = 0 then
                    cV (E 230 [aR o, aI v2, aI (0 : Int32), aI (4 : Int32)] h40) (fun h42 =>
                    (gfR h42 o 19 11).bind (fun x43 =>
                    cV (E 197 [aR x43, aI v1, aI v2] h42) (fun h44 =>
                    R 2 [(0, aR o), (1, aI v1), (2, aI (v2 + (1 : Int32)))] [] h44) xT)) xT
                  else
                    (gfR h40 o 19 11).bind (fun x45 =>
                    cV (E 197 [aR x45, aI v1, aI v2] h40) (fun h46 =>
                    R 2 [(0, aR o), (1, aI v1), (2, aI (v2 + (1 : Int32)))] [] h46) xT)) xT) xT) xT))) xT
          else
            R 2 [(0, aR o), (1, aI v1), (2, aI (v2 + (1 : Int32)))] [] h7) xT)
        else
          R 2 [(0, aR o), (1, aI v1), (2, aI (v2 + (1 : Int32)))] [] h4) xT
      else
        R 2 [(0, aR o), (1, aI v1), (2, aI (v2 + (1 : Int32)))] [] h2) xT)) rfl rfl rfl (fun R E => rfl)
-- ChipcardhouseModel$Tills.cardAt(II)I
set_option maxRecDepth 100000 in
theorem lf_246_0 (o : Option (Nat × Nat)) (p0 : Int32) (p1 : Int32) (h : Hp) : Ru 246 0 [(0, aR o), (1, aI p0), (2, aI p1)] [] h =
    (gfI h o 19 6).bind (fun x1 =>
    cI (Ex 224 [aI p0, aI (0 : Int32), aI (x1 - (1 : Int32))] h) (fun x3 h2 =>
    if x3 = 0 then
      cI (Ex 224 [aI p1, aI (0 : Int32), aI (8 : Int32)] h2) (fun x5 h4 =>
      if x5 = 0 then
        cI (Ex 225 [aR o, aI (1 : Int32), aI (1 : Int32), aI (0 : Int32)] h4) (fun x7 h6 =>
        if x7 = 0 then
          if (7 : Int32) ≤ p1 then
            if p1 = (7 : Int32) then
              cL (Ex 234 [aR o, aI p0] h6) (fun x9 h8 =>
              some (.inl (some (aI x9.toInt32)), h8)) xT
            else
              some (.inl (some (aI (0 : Int32))), h6)
          else
            cI (Ex 226 [aR o, aI p0, aI p1] h6) (fun x11 h10 =>
            some (.inl (some (aI x11)), h10)) xT
        else
          some (.inl (some (aI (0 : Int32))), h6)) xT
      else
        cI (Ex 225 [aR o, aI (1 : Int32), aI (0 : Int32), aI (0 : Int32)] h4) (fun x13 h12 =>
        if x13 = 0 then
          if (7 : Int32) ≤ p1 then
            if p1 = (7 : Int32) then
              cL (Ex 234 [aR o, aI p0] h12) (fun x15 h14 =>
              some (.inl (some (aI x15.toInt32)), h14)) xT
            else
              some (.inl (some (aI (0 : Int32))), h12)
          else
            cI (Ex 226 [aR o, aI p0, aI p1] h12) (fun x17 h16 =>
            some (.inl (some (aI x17)), h16)) xT
        else
          some (.inl (some (aI (0 : Int32))), h12)) xT) xT
    else
      cI (Ex 224 [aI p1, aI (0 : Int32), aI (8 : Int32)] h2) (fun x19 h18 =>
      if x19 = 0 then
        cI (Ex 225 [aR o, aI (0 : Int32), aI (1 : Int32), aI (0 : Int32)] h18) (fun x21 h20 =>
        if x21 = 0 then
          if (7 : Int32) ≤ p1 then
            if p1 = (7 : Int32) then
              cL (Ex 234 [aR o, aI p0] h20) (fun x23 h22 =>
              some (.inl (some (aI x23.toInt32)), h22)) xT
            else
              some (.inl (some (aI (0 : Int32))), h20)
          else
            cI (Ex 226 [aR o, aI p0, aI p1] h20) (fun x25 h24 =>
            some (.inl (some (aI x25)), h24)) xT
        else
          some (.inl (some (aI (0 : Int32))), h20)) xT
      else
        cI (Ex 225 [aR o, aI (0 : Int32), aI (0 : Int32), aI (0 : Int32)] h18) (fun x27 h26 =>
        if x27 = 0 then
          if (7 : Int32) ≤ p1 then
            if p1 = (7 : Int32) then
              cL (Ex 234 [aR o, aI p0] h26) (fun x29 h28 =>
              some (.inl (some (aI x29.toInt32)), h28)) xT
            else
              some (.inl (some (aI (0 : Int32))), h26)
          else
            cI (Ex 226 [aR o, aI p0, aI p1] h26) (fun x31 h30 =>
            some (.inl (some (aI x31)), h30)) xT
        else
          some (.inl (some (aI (0 : Int32))), h26)) xT) xT) xT) :=
  lift_of (k := 34) (rows := code_246) (cuts := cut_246) (hs := hdl_246) (r := fun R E =>
    (gfI h o 19 6).bind (fun x1 =>
    cI (E 224 [aI p0, aI (0 : Int32), aI (x1 - (1 : Int32))] h) (fun x3 h2 =>
    if x3 = 0 then
      cI (E 224 [aI p1, aI (0 : Int32), aI (8 : Int32)] h2) (fun x5 h4 =>
      if x5 = 0 then
        cI (E 225 [aR o, aI (1 : Int32), aI (1 : Int32), aI (0 : Int32)] h4) (fun x7 h6 =>
        if x7 = 0 then
          if (7 : Int32) ≤ p1 then
            if p1 = (7 : Int32) then
              cL (E 234 [aR o, aI p0] h6) (fun x9 h8 =>
              some (.inl (some (aI x9.toInt32)), h8)) xT
            else
              some (.inl (some (aI (0 : Int32))), h6)
          else
            cI (E 226 [aR o, aI p0, aI p1] h6) (fun x11 h10 =>
            some (.inl (some (aI x11)), h10)) xT
        else
          some (.inl (some (aI (0 : Int32))), h6)) xT
      else
        cI (E 225 [aR o, aI (1 : Int32), aI (0 : Int32), aI (0 : Int32)] h4) (fun x13 h12 =>
        if x13 = 0 then
          if (7 : Int32) ≤ p1 then
            if p1 = (7 : Int32) then
              cL (E 234 [aR o, aI p0] h12) (fun x15 h14 =>
              some (.inl (some (aI x15.toInt32)), h14)) xT
            else
              some (.inl (some (aI (0 : Int32))), h12)
          else
            cI (E 226 [aR o, aI p0, aI p1] h12) (fun x17 h16 =>
            some (.inl (some (aI x17)), h16)) xT
        else
          some (.inl (some (aI (0 : Int32))), h12)) xT) xT
    else
      cI (E 224 [aI p1, aI (0 : Int32), aI (8 : Int32)] h2) (fun x19 h18 =>
      if x19 = 0 then
        cI (E 225 [aR o, aI (0 : Int32), aI (1 : Int32), aI (0 : Int32)] h18) (fun x21 h20 =>
        if x21 = 0 then
          if (7 : Int32) ≤ p1 then
            if p1 = (7 : Int32) then
              cL (E 234 [aR o, aI p0] h20) (fun x23 h22 =>
              some (.inl (some (aI x23.toInt32)), h22)) xT
            else
              some (.inl (some (aI (0 : Int32))), h20)
          else
            cI (E 226 [aR o, aI p0, aI p1] h20) (fun x25 h24 =>
            some (.inl (some (aI x25)), h24)) xT
        else
          some (.inl (some (aI (0 : Int32))), h20)) xT
      else
        cI (E 225 [aR o, aI (0 : Int32), aI (0 : Int32), aI (0 : Int32)] h18) (fun x27 h26 =>
        if x27 = 0 then
          if (7 : Int32) ≤ p1 then
            if p1 = (7 : Int32) then
              cL (E 234 [aR o, aI p0] h26) (fun x29 h28 =>
              some (.inl (some (aI x29.toInt32)), h28)) xT
            else
              some (.inl (some (aI (0 : Int32))), h26)
          else
            cI (E 226 [aR o, aI p0, aI p1] h26) (fun x31 h30 =>
            some (.inl (some (aI x31)), h30)) xT
        else
          some (.inl (some (aI (0 : Int32))), h26)) xT) xT) xT)) rfl rfl rfl (fun R E => rfl)
-- ChipcardhouseModel$Tills.paymentAt(II)I
set_option maxRecDepth 100000 in
theorem lf_247_0 (o : Option (Nat × Nat)) (p0 : Int32) (p1 : Int32) (h : Hp) : Ru 247 0 [(0, aR o), (1, aI p0), (2, aI p1)] [] h =
    (gfI h o 19 8).bind (fun x1 =>
    cI (Ex 224 [aI p0, aI (0 : Int32), aI (x1 - (1 : Int32))] h) (fun x3 h2 =>
    if x3 = 0 then
      cI (Ex 224 [aI p1, aI (0 : Int32), aI (9 : Int32)] h2) (fun x5 h4 =>
      if x5 = 0 then
        cI (Ex 225 [aR o, aI (1 : Int32), aI (1 : Int32), aI (0 : Int32)] h4) (fun x7 h6 =>
        if x7 = 0 then
          if p1 = (9 : Int32) then
            some (.inl (some (aI (0 : Int32))), h6)
          else
            cI (Ex 229 [aR o, aI p0, aI p1] h6) (fun x9 h8 =>
            some (.inl (some (aI x9)), h8)) xT
        else
          some (.inl (some (aI (0 : Int32))), h6)) xT
      else
        cI (Ex 225 [aR o, aI (1 : Int32), aI (0 : Int32), aI (0 : Int32)] h4) (fun x11 h10 =>
        if x11 = 0 then
          if p1 = (9 : Int32) then
            some (.inl (some (aI (0 : Int32))), h10)
          else
            cI (Ex 229 [aR o, aI p0, aI p1] h10) (fun x13 h12 =>
            some (.inl (some (aI x13)), h12)) xT
        else
          some (.inl (some (aI (0 : Int32))), h10)) xT) xT
    else
      cI (Ex 224 [aI p1, aI (0 : Int32), aI (9 : Int32)] h2) (fun x15 h14 =>
      if x15 = 0 then
        cI (Ex 225 [aR o, aI (0 : Int32), aI (1 : Int32), aI (0 : Int32)] h14) (fun x17 h16 =>
        if x17 = 0 then
          if p1 = (9 : Int32) then
            some (.inl (some (aI (0 : Int32))), h16)
          else
            cI (Ex 229 [aR o, aI p0, aI p1] h16) (fun x19 h18 =>
            some (.inl (some (aI x19)), h18)) xT
        else
          some (.inl (some (aI (0 : Int32))), h16)) xT
      else
        cI (Ex 225 [aR o, aI (0 : Int32), aI (0 : Int32), aI (0 : Int32)] h14) (fun x21 h20 =>
        if x21 = 0 then
          if p1 = (9 : Int32) then
            some (.inl (some (aI (0 : Int32))), h20)
          else
            cI (Ex 229 [aR o, aI p0, aI p1] h20) (fun x23 h22 =>
            some (.inl (some (aI x23)), h22)) xT
        else
          some (.inl (some (aI (0 : Int32))), h20)) xT) xT) xT) :=
  lift_of (k := 30) (rows := code_247) (cuts := cut_247) (hs := hdl_247) (r := fun R E =>
    (gfI h o 19 8).bind (fun x1 =>
    cI (E 224 [aI p0, aI (0 : Int32), aI (x1 - (1 : Int32))] h) (fun x3 h2 =>
    if x3 = 0 then
      cI (E 224 [aI p1, aI (0 : Int32), aI (9 : Int32)] h2) (fun x5 h4 =>
      if x5 = 0 then
        cI (E 225 [aR o, aI (1 : Int32), aI (1 : Int32), aI (0 : Int32)] h4) (fun x7 h6 =>
        if x7 = 0 then
          if p1 = (9 : Int32) then
            some (.inl (some (aI (0 : Int32))), h6)
          else
            cI (E 229 [aR o, aI p0, aI p1] h6) (fun x9 h8 =>
            some (.inl (some (aI x9)), h8)) xT
        else
          some (.inl (some (aI (0 : Int32))), h6)) xT
      else
        cI (E 225 [aR o, aI (1 : Int32), aI (0 : Int32), aI (0 : Int32)] h4) (fun x11 h10 =>
        if x11 = 0 then
          if p1 = (9 : Int32) then
            some (.inl (some (aI (0 : Int32))), h10)
          else
            cI (E 229 [aR o, aI p0, aI p1] h10) (fun x13 h12 =>
            some (.inl (some (aI x13)), h12)) xT
        else
          some (.inl (some (aI (0 : Int32))), h10)) xT) xT
    else
      cI (E 224 [aI p1, aI (0 : Int32), aI (9 : Int32)] h2) (fun x15 h14 =>
      if x15 = 0 then
        cI (E 225 [aR o, aI (0 : Int32), aI (1 : Int32), aI (0 : Int32)] h14) (fun x17 h16 =>
        if x17 = 0 then
          if p1 = (9 : Int32) then
            some (.inl (some (aI (0 : Int32))), h16)
          else
            cI (E 229 [aR o, aI p0, aI p1] h16) (fun x19 h18 =>
            some (.inl (some (aI x19)), h18)) xT
        else
          some (.inl (some (aI (0 : Int32))), h16)) xT
      else
        cI (E 225 [aR o, aI (0 : Int32), aI (0 : Int32), aI (0 : Int32)] h14) (fun x21 h20 =>
        if x21 = 0 then
          if p1 = (9 : Int32) then
            some (.inl (some (aI (0 : Int32))), h20)
          else
            cI (E 229 [aR o, aI p0, aI p1] h20) (fun x23 h22 =>
            some (.inl (some (aI x23)), h22)) xT
        else
          some (.inl (some (aI (0 : Int32))), h20)) xT) xT) xT)) rfl rfl rfl (fun R E => rfl)
-- ChipcardhouseModel.<init>()V
set_option maxRecDepth 100000 in
theorem lf_248_0 (o : Option (Nat × Nat)) (h : Hp) : Ru 248 0 [(0, aR o)] [] h =
    cV (Ex 420 [aR o] h) (fun h1 =>
    cV (Ex 143 [aR (nob h1 91 12 [4, 4, 4, 4, 4, 0, 0, 1, 1]).1] (nob h1 91 12 [4, 4, 4, 4, 4, 0, 0, 1, 1]).2) (fun h2 =>
    (pf h2 o 20 0 (aR (nob h1 91 12 [4, 4, 4, 4, 4, 0, 0, 1, 1]).1)).bind (fun h3 =>
    cV (Ex 215 [aR (nob h3 92 18 [4, 4, 4, 0, 0, 0, 0, 0, 0, 4, 0]).1] (nob h3 92 18 [4, 4, 4, 0, 0, 0, 0, 0, 0, 4, 0]).2) (fun h4 =>
    (pf h4 o 20 1 (aR (nob h3 92 18 [4, 4, 4, 0, 0, 0, 0, 0, 0, 4, 0]).1)).bind (fun h5 =>
    (gfR (nob h5 93 19 [4, 4, 4, 4, 4, 4, 0, 0, 0, 0, 0, 4]).2 o 20 0).bind (fun x6 =>
    cV (Ex 223 [aR (nob h5 93 19 [4, 4, 4, 4, 4, 4, 0, 0, 0, 0, 0, 4]).1, aR x6] (nob h5 93 19 [4, 4, 4, 4, 4, 4, 0, 0, 0, 0, 0, 4]).2) (fun h7 =>
    (pf h7 o 20 2 (aR (nob h5 93 19 [4, 4, 4, 4, 4, 4, 0, 0, 0, 0, 0, 4]).1)).bind (fun h8 =>
    (gfR (nob h8 94 14 [4, 4, 4, 4, 4, 4, 0, 4, 4, 4, 0, 0, 0, 0, 0, 0, 0, 0]).2 o 20 2).bind (fun x9 =>
    (gfR (nob h8 94 14 [4, 4, 4, 4, 4, 4, 0, 4, 4, 4, 0, 0, 0, 0, 0, 0, 0, 0]).2 o 20 0).bind (fun x10 =>
    cV (Ex 157 [aR (nob h8 94 14 [4, 4, 4, 4, 4, 4, 0, 4, 4, 4, 0, 0, 0, 0, 0, 0, 0, 0]).1, aR x9, aR x10] (nob h8 94 14 [4, 4, 4, 4, 4, 4, 0, 4, 4, 4, 0, 0, 0, 0, 0, 0, 0, 0]).2) (fun h11 =>
    (pf h11 o 20 3 (aR (nob h8 94 14 [4, 4, 4, 4, 4, 4, 0, 4, 4, 4, 0, 0, 0, 0, 0, 0, 0, 0]).1)).bind (fun h12 =>
    (gfR (nob h12 95 16 [0, 0, 0, 0, 0, 0, 0, 4, 4, 0, 4, 4, 4, 4, 4, 4, 4, 4, 4]).2 o 20 2).bind (fun x13 =>
    (gfR (nob h12 95 16 [0, 0, 0, 0, 0, 0, 0, 4, 4, 0, 4, 4, 4, 4, 4, 4, 4, 4, 4]).2 o 20 3).bind (fun x14 =>
    cV (Ex 188 [aR (nob h12 95 16 [0, 0, 0, 0, 0, 0, 0, 4, 4, 0, 4, 4, 4, 4, 4, 4, 4, 4, 4]).1, aR x13, aR x14] (nob h12 95 16 [0, 0, 0, 0, 0, 0, 0, 4, 4, 0, 4, 4, 4, 4, 4, 4, 4, 4, 4]).2) (fun h15 =>
    (pf h15 o 20 4 (aR (nob h12 95 16 [0, 0, 0, 0, 0, 0, 0, 4, 4, 0, 4, 4, 4, 4, 4, 4, 4, 4, 4]).1)).bind (fun h16 =>
    (pf h16 o 20 7 (aI (100 : Int32))).bind (fun h17 =>
    (gfR h17 o 20 2).bind (fun x18 =>
    (gfR h17 o 20 4).bind (fun x19 =>
    (pf h17 x18 19 11 (aR x19)).bind (fun h20 =>
    (gfR h20 o 20 4).bind (fun x21 =>
    (pf h20 x21 16 2 (aI (1 : Int32))).bind (fun h22 =>
    (gfR h22 o 20 4).bind (fun x23 =>
    (pf h22 x23 16 3 (aI (1000 : Int32))).bind (fun h24 =>
    (gfR h24 o 20 4).bind (fun x25 =>
    (pf h24 x25 16 5 (aI (1 : Int32))).bind (fun h26 =>
    some (.inl none, h26))))))))))))) xT)))) xT)))) xT))) xT)) xT) xT :=
  lift_of (k := 59) (rows := code_248) (cuts := cut_248) (hs := hdl_248) (r := fun R E =>
    cV (E 420 [aR o] h) (fun h1 =>
    cV (E 143 [aR (nob h1 91 12 [4, 4, 4, 4, 4, 0, 0, 1, 1]).1] (nob h1 91 12 [4, 4, 4, 4, 4, 0, 0, 1, 1]).2) (fun h2 =>
    (pf h2 o 20 0 (aR (nob h1 91 12 [4, 4, 4, 4, 4, 0, 0, 1, 1]).1)).bind (fun h3 =>
    cV (E 215 [aR (nob h3 92 18 [4, 4, 4, 0, 0, 0, 0, 0, 0, 4, 0]).1] (nob h3 92 18 [4, 4, 4, 0, 0, 0, 0, 0, 0, 4, 0]).2) (fun h4 =>
    (pf h4 o 20 1 (aR (nob h3 92 18 [4, 4, 4, 0, 0, 0, 0, 0, 0, 4, 0]).1)).bind (fun h5 =>
    (gfR (nob h5 93 19 [4, 4, 4, 4, 4, 4, 0, 0, 0, 0, 0, 4]).2 o 20 0).bind (fun x6 =>
    cV (E 223 [aR (nob h5 93 19 [4, 4, 4, 4, 4, 4, 0, 0, 0, 0, 0, 4]).1, aR x6] (nob h5 93 19 [4, 4, 4, 4, 4, 4, 0, 0, 0, 0, 0, 4]).2) (fun h7 =>
    (pf h7 o 20 2 (aR (nob h5 93 19 [4, 4, 4, 4, 4, 4, 0, 0, 0, 0, 0, 4]).1)).bind (fun h8 =>
    (gfR (nob h8 94 14 [4, 4, 4, 4, 4, 4, 0, 4, 4, 4, 0, 0, 0, 0, 0, 0, 0, 0]).2 o 20 2).bind (fun x9 =>
    (gfR (nob h8 94 14 [4, 4, 4, 4, 4, 4, 0, 4, 4, 4, 0, 0, 0, 0, 0, 0, 0, 0]).2 o 20 0).bind (fun x10 =>
    cV (E 157 [aR (nob h8 94 14 [4, 4, 4, 4, 4, 4, 0, 4, 4, 4, 0, 0, 0, 0, 0, 0, 0, 0]).1, aR x9, aR x10] (nob h8 94 14 [4, 4, 4, 4, 4, 4, 0, 4, 4, 4, 0, 0, 0, 0, 0, 0, 0, 0]).2) (fun h11 =>
    (pf h11 o 20 3 (aR (nob h8 94 14 [4, 4, 4, 4, 4, 4, 0, 4, 4, 4, 0, 0, 0, 0, 0, 0, 0, 0]).1)).bind (fun h12 =>
    (gfR (nob h12 95 16 [0, 0, 0, 0, 0, 0, 0, 4, 4, 0, 4, 4, 4, 4, 4, 4, 4, 4, 4]).2 o 20 2).bind (fun x13 =>
    (gfR (nob h12 95 16 [0, 0, 0, 0, 0, 0, 0, 4, 4, 0, 4, 4, 4, 4, 4, 4, 4, 4, 4]).2 o 20 3).bind (fun x14 =>
    cV (E 188 [aR (nob h12 95 16 [0, 0, 0, 0, 0, 0, 0, 4, 4, 0, 4, 4, 4, 4, 4, 4, 4, 4, 4]).1, aR x13, aR x14] (nob h12 95 16 [0, 0, 0, 0, 0, 0, 0, 4, 4, 0, 4, 4, 4, 4, 4, 4, 4, 4, 4]).2) (fun h15 =>
    (pf h15 o 20 4 (aR (nob h12 95 16 [0, 0, 0, 0, 0, 0, 0, 4, 4, 0, 4, 4, 4, 4, 4, 4, 4, 4, 4]).1)).bind (fun h16 =>
    (pf h16 o 20 7 (aI (100 : Int32))).bind (fun h17 =>
    (gfR h17 o 20 2).bind (fun x18 =>
    (gfR h17 o 20 4).bind (fun x19 =>
    (pf h17 x18 19 11 (aR x19)).bind (fun h20 =>
    (gfR h20 o 20 4).bind (fun x21 =>
    (pf h20 x21 16 2 (aI (1 : Int32))).bind (fun h22 =>
    (gfR h22 o 20 4).bind (fun x23 =>
    (pf h22 x23 16 3 (aI (1000 : Int32))).bind (fun h24 =>
    (gfR h24 o 20 4).bind (fun x25 =>
    (pf h24 x25 16 5 (aI (1 : Int32))).bind (fun h26 =>
    some (.inl none, h26))))))))))))) xT)))) xT)))) xT))) xT)) xT) xT) rfl rfl rfl (fun R E => rfl)
-- ChipcardhouseModel.thrown()I
set_option maxRecDepth 100000 in
theorem lf_249_0 (o : Option (Nat × Nat)) (h : Hp) : Ru 249 0 [(0, aR o)] [] h =
    (gfI h o 20 8).bind (fun x1 =>
    some (.inl (some (aI x1)), h)) :=
  lift_of (k := 4) (rows := code_249) (cuts := cut_249) (hs := hdl_249) (r := fun R E =>
    (gfI h o 20 8).bind (fun x1 =>
    some (.inl (some (aI x1)), h))) rfl rfl rfl (fun R E => rfl)
-- ChipcardhouseModel.in(III)Z
set_option maxRecDepth 100000 in
theorem lf_250_0 (p0 : Int32) (p1 : Int32) (p2 : Int32) (h : Hp) : Ru 250 0 [(0, aI p0), (1, aI p1), (2, aI p2)] [] h =
    if p0 < p1 then
      some (.inl (some (aI (0 : Int32))), h)
    else
      if p2 < p0 then
        some (.inl (some (aI (0 : Int32))), h)
      else
        some (.inl (some (aI (1 : Int32))), h) :=
  lift_of (k := 10) (rows := code_250) (cuts := cut_250) (hs := hdl_250) (r := fun R E =>
    if p0 < p1 then
      some (.inl (some (aI (0 : Int32))), h)
    else
      if p2 < p0 then
        some (.inl (some (aI (0 : Int32))), h)
      else
        some (.inl (some (aI (1 : Int32))), h)) rfl rfl rfl (fun R E => rfl)
-- ChipcardhouseModel.refuse(I)I
set_option maxRecDepth 100000 in
theorem lf_251_0 (o : Option (Nat × Nat)) (p0 : Int32) (h : Hp) : Ru 251 0 [(0, aR o), (1, aI p0)] [] h =
    (pf h o 20 8 (aI p0)).bind (fun h1 =>
    some (.inl (some (aI (0 : Int32))), h1)) :=
  lift_of (k := 6) (rows := code_251) (cuts := cut_251) (hs := hdl_251) (r := fun R E =>
    (pf h o 20 8 (aI p0)).bind (fun h1 =>
    some (.inl (some (aI (0 : Int32))), h1))) rfl rfl rfl (fun R E => rfl)
-- ChipcardhouseModel.told(I)I
set_option maxRecDepth 100000 in
theorem lf_252_0 (o : Option (Nat × Nat)) (p0 : Int32) (h : Hp) : Ru 252 0 [(0, aR o), (1, aI p0)] [] h =
    (pf h o 20 8 (aI (0 : Int32))).bind (fun h1 =>
    some (.inl (some (aI p0)), h1)) :=
  lift_of (k := 6) (rows := code_252) (cuts := cut_252) (hs := hdl_252) (r := fun R E =>
    (pf h o 20 8 (aI (0 : Int32))).bind (fun h1 =>
    some (.inl (some (aI p0)), h1))) rfl rfl rfl (fun R E => rfl)
-- ChipcardhouseModel.isAccount(I)Z
set_option maxRecDepth 100000 in
theorem lf_253_0 (o : Option (Nat × Nat)) (p0 : Int32) (h : Hp) : Ru 253 0 [(0, aR o), (1, aI p0)] [] h =
    (gfR h o 20 0).bind (fun x1 =>
    (gfI h x1 12 5).bind (fun x2 =>
    cI (Ex 250 [aI p0, aI (0 : Int32), aI (x2 - (1 : Int32))] h) (fun x4 h3 =>
    gz x4 (some (.inl (some (aI x4)), h3))) xT)) :=
  lift_of (k := 10) (rows := code_253) (cuts := cut_253) (hs := hdl_253) (r := fun R E =>
    (gfR h o 20 0).bind (fun x1 =>
    (gfI h x1 12 5).bind (fun x2 =>
    cI (E 250 [aI p0, aI (0 : Int32), aI (x2 - (1 : Int32))] h) (fun x4 h3 =>
    gz x4 (some (.inl (some (aI x4)), h3))) xT))) rfl rfl rfl (fun R E => rfl)
-- ChipcardhouseModel.isShop(I)Z
set_option maxRecDepth 100000 in
theorem lf_254_0 (o : Option (Nat × Nat)) (p0 : Int32) (h : Hp) : Ru 254 0 [(0, aR o), (1, aI p0)] [] h =
    (gfR h o 20 0).bind (fun x1 =>
    (gfI h x1 12 6).bind (fun x2 =>
    cI (Ex 250 [aI p0, aI (0 : Int32), aI (x2 - (1 : Int32))] h) (fun x4 h3 =>
    gz x4 (some (.inl (some (aI x4)), h3))) xT)) :=
  lift_of (k := 10) (rows := code_254) (cuts := cut_254) (hs := hdl_254) (r := fun R E =>
    (gfR h o 20 0).bind (fun x1 =>
    (gfI h x1 12 6).bind (fun x2 =>
    cI (E 250 [aI p0, aI (0 : Int32), aI (x2 - (1 : Int32))] h) (fun x4 h3 =>
    gz x4 (some (.inl (some (aI x4)), h3))) xT))) rfl rfl rfl (fun R E => rfl)
-- ChipcardhouseModel.ofTills(I)I
set_option maxRecDepth 100000 in
theorem lf_255_0 (o : Option (Nat × Nat)) (p0 : Int32) (h : Hp) : Ru 255 0 [(0, aR o), (1, aI p0)] [] h =
    (gfR h o 20 2).bind (fun x1 =>
    (gfI h x1 19 10).bind (fun x2 =>
    (pf h o 20 8 (aI x2)).bind (fun h3 =>
    some (.inl (some (aI p0)), h3)))) :=
  lift_of (k := 8) (rows := code_255) (cuts := cut_255) (hs := hdl_255) (r := fun R E =>
    (gfR h o 20 2).bind (fun x1 =>
    (gfI h x1 19 10).bind (fun x2 =>
    (pf h o 20 8 (aI x2)).bind (fun h3 =>
    some (.inl (some (aI p0)), h3))))) rfl rfl rfl (fun R E => rfl)
-- ChipcardhouseModel.ofLines(I)I
set_option maxRecDepth 100000 in
theorem lf_256_0 (o : Option (Nat × Nat)) (p0 : Int32) (h : Hp) : Ru 256 0 [(0, aR o), (1, aI p0)] [] h =
    (gfR h o 20 4).bind (fun x1 =>
    (gfI h x1 16 0).bind (fun x2 =>
    (pf h o 20 8 (aI x2)).bind (fun h3 =>
    some (.inl (some (aI p0)), h3)))) :=
  lift_of (k := 8) (rows := code_256) (cuts := cut_256) (hs := hdl_256) (r := fun R E =>
    (gfR h o 20 4).bind (fun x1 =>
    (gfI h x1 16 0).bind (fun x2 =>
    (pf h o 20 8 (aI x2)).bind (fun h3 =>
    some (.inl (some (aI p0)), h3))))) rfl rfl rfl (fun R E => rfl)
-- ChipcardhouseModel.ofIssuer(I)I
set_option maxRecDepth 100000 in
theorem lf_257_0 (o : Option (Nat × Nat)) (p0 : Int32) (h : Hp) : Ru 257 0 [(0, aR o), (1, aI p0)] [] h =
    (gfR h o 20 3).bind (fun x1 =>
    (gfI h x1 14 10).bind (fun x2 =>
    (pf h o 20 8 (aI x2)).bind (fun h3 =>
    some (.inl (some (aI p0)), h3)))) :=
  lift_of (k := 8) (rows := code_257) (cuts := cut_257) (hs := hdl_257) (r := fun R E =>
    (gfR h o 20 3).bind (fun x1 =>
    (gfI h x1 14 10).bind (fun x2 =>
    (pf h o 20 8 (aI x2)).bind (fun h3 =>
    some (.inl (some (aI p0)), h3))))) rfl rfl rfl (fun R E => rfl)
-- ChipcardhouseModel.type(J)I
set_option maxRecDepth 100000 in
theorem lf_258_0 (o : Option (Nat × Nat)) (p0 : Int64) (h : Hp) : Ru 258 0 [(0, aR o), (1, aL p0)] [] h =
    Ru 258 8 [(0, aR o), (1, aL p0), (3, aI (0 : Int32)), (4, aI (1 : Int32)), (5, aI (0 : Int32))] [] h :=
  lift_of (k := 7) (rows := code_258) (cuts := cut_258) (hs := hdl_258) (r := fun R E =>
    R 8 [(0, aR o), (1, aL p0), (3, aI (0 : Int32)), (4, aI (1 : Int32)), (5, aI (0 : Int32))] [] h) rfl rfl rfl (fun R E => rfl)
set_option maxRecDepth 100000 in
theorem lf_258_8 (o : Option (Nat × Nat)) (v1 : Int64) (v3 : Int32) (v4 : Int32) (v5 : Int32) (h : Hp) : Ru 258 8 [(0, aR o), (1, aL v1), (3, aI v3), (4, aI v4), (5, aI v5)] [] h =
    if (8 : Int32) ≤ v5 then
      if v4 = 0 then
        cI (Ex 251 [aR o, aI (1 : Int32)] h) (fun x2 h1 =>
        some (.inl (some (aI x2)), h1)) xT
      else
        (gfR h o 20 1).bind (fun x3 =>
        (gfI h x3 18 3).bind (fun x4 =>
        if (x4 + v3) ≤ (600 : Int32) then
          Ru 258 113 [(0, aR o), (1, aL v1), (5, aI (7 : Int32))] [] h
        else
          cI (Ex 251 [aR o, aI (2 : Int32)] h) (fun x6 h5 =>
          some (.inl (some (aI x6)), h5)) xT))
    else
      if ((v1.toUInt64 >>> (((8 : Int32) * v5).toInt64.toUInt64 &&& Int64.toUInt64 63)).toInt64 &&& (255 : Int64)).toInt32 = 0 then
        if v4 = 0 then
          Ru 258 8 [(0, aR o), (1, aL v1), (3, aI (v3 + (0 : Int32))), (4, aI (0 : Int32)), (5, aI (v5 + (1 : Int32)))] [] h
        else
          if ((v1.toUInt64 >>> (((8 : Int32) * v5).toInt64.toUInt64 &&& Int64.toUInt64 63)).toInt64 &&& (255 : Int64)).toInt32 = 0 then
            Ru 258 8 [(0, aR o), (1, aL v1), (3, aI (v3 + (0 : Int32))), (4, aI (1 : Int32)), (5, aI (v5 + (1 : Int32)))] [] h
          else
            cI (Ex 250 [aI ((v1.toUInt64 >>> (((8 : Int32) * v5).toInt64.toUInt64 &&& Int64.toUInt64 63)).toInt64 &&& (255 : Int64)).toInt32, aI (32 : Int32), aI (126 : Int32)] h) (fun x8 h7 =>
            if x8 = 0 then
              Ru 258 8 [(0, aR o), (1, aL v1), (3, aI (v3 + (0 : Int32))), (4, aI (0 : Int32)), (5, aI (v5 + (1 : Int32)))] [] h7
            else
              Ru 258 8 [(0, aR o), (1, aL v1), (3, aI (v3 + (0 : Int32))), (4, aI (1 : Int32)), (5, aI (v5 + (1 : Int32)))] [] h7) xT
      else
        if v4 = 0 then
          Ru 258 8 [(0, aR o), (1, aL v1), (3, aI (v3 + (1 : Int32))), (4, aI (0 : Int32)), (5, aI (v5 + (1 : Int32)))] [] h
        else
          if ((v1.toUInt64 >>> (((8 : Int32) * v5).toInt64.toUInt64 &&& Int64.toUInt64 63)).toInt64 &&& (255 : Int64)).toInt32 = 0 then
            Ru 258 8 [(0, aR o), (1, aL v1), (3, aI (v3 + (1 : Int32))), (4, aI (1 : Int32)), (5, aI (v5 + (1 : Int32)))] [] h
          else
            cI (Ex 250 [aI ((v1.toUInt64 >>> (((8 : Int32) * v5).toInt64.toUInt64 &&& Int64.toUInt64 63)).toInt64 &&& (255 : Int64)).toInt32, aI (32 : Int32), aI (126 : Int32)] h) (fun x10 h9 =>
            if x10 = 0 then
              Ru 258 8 [(0, aR o), (1, aL v1), (3, aI (v3 + (1 : Int32))), (4, aI (0 : Int32)), (5, aI (v5 + (1 : Int32)))] [] h9
            else
              Ru 258 8 [(0, aR o), (1, aL v1), (3, aI (v3 + (1 : Int32))), (4, aI (1 : Int32)), (5, aI (v5 + (1 : Int32)))] [] h9) xT :=
  lift_of (k := 34) (rows := code_258) (cuts := cut_258) (hs := hdl_258) (r := fun R E =>
    if (8 : Int32) ≤ v5 then
      if v4 = 0 then
        cI (E 251 [aR o, aI (1 : Int32)] h) (fun x2 h1 =>
        some (.inl (some (aI x2)), h1)) xT
      else
        (gfR h o 20 1).bind (fun x3 =>
        (gfI h x3 18 3).bind (fun x4 =>
        if (x4 + v3) ≤ (600 : Int32) then
          R 113 [(0, aR o), (1, aL v1), (5, aI (7 : Int32))] [] h
        else
          cI (E 251 [aR o, aI (2 : Int32)] h) (fun x6 h5 =>
          some (.inl (some (aI x6)), h5)) xT))
    else
      if ((v1.toUInt64 >>> (((8 : Int32) * v5).toInt64.toUInt64 &&& Int64.toUInt64 63)).toInt64 &&& (255 : Int64)).toInt32 = 0 then
        if v4 = 0 then
          R 8 [(0, aR o), (1, aL v1), (3, aI (v3 + (0 : Int32))), (4, aI (0 : Int32)), (5, aI (v5 + (1 : Int32)))] [] h
        else
          if ((v1.toUInt64 >>> (((8 : Int32) * v5).toInt64.toUInt64 &&& Int64.toUInt64 63)).toInt64 &&& (255 : Int64)).toInt32 = 0 then
            R 8 [(0, aR o), (1, aL v1), (3, aI (v3 + (0 : Int32))), (4, aI (1 : Int32)), (5, aI (v5 + (1 : Int32)))] [] h
          else
            cI (E 250 [aI ((v1.toUInt64 >>> (((8 : Int32) * v5).toInt64.toUInt64 &&& Int64.toUInt64 63)).toInt64 &&& (255 : Int64)).toInt32, aI (32 : Int32), aI (126 : Int32)] h) (fun x8 h7 =>
            if x8 = 0 then
              R 8 [(0, aR o), (1, aL v1), (3, aI (v3 + (0 : Int32))), (4, aI (0 : Int32)), (5, aI (v5 + (1 : Int32)))] [] h7
            else
              R 8 [(0, aR o), (1, aL v1), (3, aI (v3 + (0 : Int32))), (4, aI (1 : Int32)), (5, aI (v5 + (1 : Int32)))] [] h7) xT
      else
        if v4 = 0 then
          R 8 [(0, aR o), (1, aL v1), (3, aI (v3 + (1 : Int32))), (4, aI (0 : Int32)), (5, aI (v5 + (1 : Int32)))] [] h
        else
          if ((v1.toUInt64 >>> (((8 : Int32) * v5).toInt64.toUInt64 &&& Int64.toUInt64 63)).toInt64 &&& (255 : Int64)).toInt32 = 0 then
            R 8 [(0, aR o), (1, aL v1), (3, aI (v3 + (1 : Int32))), (4, aI (1 : Int32)), (5, aI (v5 + (1 : Int32)))] [] h
          else
            cI (E 250 [aI ((v1.toUInt64 >>> (((8 : Int32) * v5).toInt64.toUInt64 &&& Int64.toUInt64 63)).toInt64 &&& (255 : Int64)).toInt32, aI (32 : Int32), aI (126 : Int32)] h) (fun x10 h9 =>
            if x10 = 0 then
              R 8 [(0, aR o), (1, aL v1), (3, aI (v3 + (1 : Int32))), (4, aI (0 : Int32)), (5, aI (v5 + (1 : Int32)))] [] h9
            else
              R 8 [(0, aR o), (1, aL v1), (3, aI (v3 + (1 : Int32))), (4, aI (1 : Int32)), (5, aI (v5 + (1 : Int32)))] [] h9) xT) rfl rfl rfl (fun R E => rfl)
set_option maxRecDepth 100000 in
theorem lf_258_113 (o : Option (Nat × Nat)) (v1 : Int64) (v5 : Int32) (h : Hp) : Ru 258 113 [(0, aR o), (1, aL v1), (5, aI v5)] [] h =
    if v5 < 0 then
      (gfR h o 20 1).bind (fun x1 =>
      (gfI h x1 18 3).bind (fun x2 =>
      cI (Ex 252 [aR o, aI x2] h) (fun x4 h3 =>
      some (.inl (some (aI x4)), h3)) xT))
    else
      if ((v1.toUInt64 >>> (((8 : Int32) * v5).toInt64.toUInt64 &&& Int64.toUInt64 63)).toInt64 &&& (255 : Int64)).toInt32 = 0 then
        Ru 258 113 [(0, aR o), (1, aL v1), (5, aI (v5 + (-1 : Int32)))] [] h
      else
        (gfR h o 20 1).bind (fun x5 =>
        (gfR h x5 18 2).bind (fun x6 =>
        (gfR h o 20 1).bind (fun x7 =>
        (gfI h x7 18 3).bind (fun x8 =>
        (pa h x6 1000 x8 (aI ((v1.toUInt64 >>> (((8 : Int32) * v5).toInt64.toUInt64 &&& Int64.toUInt64 63)).toInt64 &&& (255 : Int64)).toInt32)).bind (fun h9 =>
        (gfR h9 o 20 1).bind (fun x10 =>
        (gfI h9 x10 18 3).bind (fun x11 =>
        (pf h9 x10 18 3 (aI (x11 + (1 : Int32)))).bind (fun h12 =>
        Ru 258 113 [(0, aR o), (1, aL v1), (5, aI (v5 + (-1 : Int32)))] [] h12)))))))) :=
  lift_of (k := 31) (rows := code_258) (cuts := cut_258) (hs := hdl_258) (r := fun R E =>
    if v5 < 0 then
      (gfR h o 20 1).bind (fun x1 =>
      (gfI h x1 18 3).bind (fun x2 =>
      cI (E 252 [aR o, aI x2] h) (fun x4 h3 =>
      some (.inl (some (aI x4)), h3)) xT))
    else
      if ((v1.toUInt64 >>> (((8 : Int32) * v5).toInt64.toUInt64 &&& Int64.toUInt64 63)).toInt64 &&& (255 : Int64)).toInt32 = 0 then
        R 113 [(0, aR o), (1, aL v1), (5, aI (v5 + (-1 : Int32)))] [] h
      else
        (gfR h o 20 1).bind (fun x5 =>
        (gfR h x5 18 2).bind (fun x6 =>
        (gfR h o 20 1).bind (fun x7 =>
        (gfI h x7 18 3).bind (fun x8 =>
        (pa h x6 1000 x8 (aI ((v1.toUInt64 >>> (((8 : Int32) * v5).toInt64.toUInt64 &&& Int64.toUInt64 63)).toInt64 &&& (255 : Int64)).toInt32)).bind (fun h9 =>
        (gfR h9 o 20 1).bind (fun x10 =>
        (gfI h9 x10 18 3).bind (fun x11 =>
        (pf h9 x10 18 3 (aI (x11 + (1 : Int32)))).bind (fun h12 =>
        R 113 [(0, aR o), (1, aL v1), (5, aI (v5 + (-1 : Int32)))] [] h12))))))))) rfl rfl rfl (fun R E => rfl)
-- ChipcardhouseModel.fault()I
set_option maxRecDepth 100000 in
theorem lf_259_0 (o : Option (Nat × Nat)) (h : Hp) : Ru 259 0 [(0, aR o)] [] h =
    (gfR h o 20 1).bind (fun x1 =>
    cI (Ex 222 [aR x1] h) (fun x3 h2 =>
    cI (Ex 252 [aR o, aI x3] h2) (fun x5 h4 =>
    some (.inl (some (aI x5)), h4)) xT) xT) :=
  lift_of (k := 7) (rows := code_259) (cuts := cut_259) (hs := hdl_259) (r := fun R E =>
    (gfR h o 20 1).bind (fun x1 =>
    cI (E 222 [aR x1] h) (fun x3 h2 =>
    cI (E 252 [aR o, aI x3] h2) (fun x5 h4 =>
    some (.inl (some (aI x5)), h4)) xT) xT)) rfl rfl rfl (fun R E => rfl)
-- ChipcardhouseModel.play()I
set_option maxRecDepth 100000 in
theorem lf_260_0 (o : Option (Nat × Nat)) (h : Hp) : Ru 260 0 [(0, aR o)] [] h =
    (gfR h o 20 1).bind (fun x1 =>
    cI (Ex 222 [aR x1] h) (fun x3 h2 =>
    if x3 = (-1 : Int32) then
      (gfR h2 o 20 1).bind (fun x4 =>
      (pf h2 x4 18 3 (aI (0 : Int32))).bind (fun h5 =>
      if (1 : Int32) = 0 then
        cI (Ex 251 [aR o, aI (1 : Int32)] h5) (fun x7 h6 =>
        some (.inl (some (aI x7)), h6)) xT
      else
        Ru 260 39 [(0, aR o), (2, aI (0 : Int32)), (3, aI (0 : Int32))] [] h5))
    else
      (gfR h2 o 20 1).bind (fun x8 =>
      (pf h2 x8 18 3 (aI (0 : Int32))).bind (fun h9 =>
      if (0 : Int32) = 0 then
        cI (Ex 251 [aR o, aI (1 : Int32)] h9) (fun x11 h10 =>
        some (.inl (some (aI x11)), h10)) xT
      else
        Ru 260 39 [(0, aR o), (2, aI (0 : Int32)), (3, aI (0 : Int32))] [] h9))) xT) :=
  lift_of (k := 19) (rows := code_260) (cuts := cut_260) (hs := hdl_260) (r := fun R E =>
    (gfR h o 20 1).bind (fun x1 =>
    cI (E 222 [aR x1] h) (fun x3 h2 =>
    if x3 = (-1 : Int32) then
      (gfR h2 o 20 1).bind (fun x4 =>
      (pf h2 x4 18 3 (aI (0 : Int32))).bind (fun h5 =>
      if (1 : Int32) = 0 then
        cI (E 251 [aR o, aI (1 : Int32)] h5) (fun x7 h6 =>
        some (.inl (some (aI x7)), h6)) xT
      else
        R 39 [(0, aR o), (2, aI (0 : Int32)), (3, aI (0 : Int32))] [] h5))
    else
      (gfR h2 o 20 1).bind (fun x8 =>
      (pf h2 x8 18 3 (aI (0 : Int32))).bind (fun h9 =>
      if (0 : Int32) = 0 then
        cI (E 251 [aR o, aI (1 : Int32)] h9) (fun x11 h10 =>
        some (.inl (some (aI x11)), h10)) xT
      else
        R 39 [(0, aR o), (2, aI (0 : Int32)), (3, aI (0 : Int32))] [] h9))) xT)) rfl rfl rfl (fun R E => rfl)
set_option maxRecDepth 100000 in
theorem lf_260_39 (o : Option (Nat × Nat)) (v2 : Int32) (v3 : Int32) (h : Hp) : Ru 260 39 [(0, aR o), (2, aI v2), (3, aI v3)] [] h =
    (gfR h o 20 1).bind (fun x1 =>
    (gfI h x1 18 10).bind (fun x2 =>
    if x2 ≤ v3 then
      cI (Ex 252 [aR o, aI v2] h) (fun x4 h3 =>
      some (.inl (some (aI x4)), h3)) xT
    else
      cV (Ex 261 [aR o, aI ((5 : Int32) * v3)] h) (fun h5 =>
      (gfI h5 o 20 8).bind (fun x6 =>
      if x6 = 0 then
        Ru 260 39 [(0, aR o), (2, aI (v2 + (1 : Int32))), (3, aI (v3 + (1 : Int32)))] [] h5
      else
        Ru 260 39 [(0, aR o), (2, aI (v2 + (0 : Int32))), (3, aI (v3 + (1 : Int32)))] [] h5)) xT)) :=
  lift_of (k := 21) (rows := code_260) (cuts := cut_260) (hs := hdl_260) (r := fun R E =>
    (gfR h o 20 1).bind (fun x1 =>
    (gfI h x1 18 10).bind (fun x2 =>
    if x2 ≤ v3 then
      cI (E 252 [aR o, aI v2] h) (fun x4 h3 =>
      some (.inl (some (aI x4)), h3)) xT
    else
      cV (E 261 [aR o, aI ((5 : Int32) * v3)] h) (fun h5 =>
      (gfI h5 o 20 8).bind (fun x6 =>
      if x6 = 0 then
        R 39 [(0, aR o), (2, aI (v2 + (1 : Int32))), (3, aI (v3 + (1 : Int32)))] [] h5
      else
        R 39 [(0, aR o), (2, aI (v2 + (0 : Int32))), (3, aI (v3 + (1 : Int32)))] [] h5)) xT))) rfl rfl rfl (fun R E => rfl)
-- ChipcardhouseModel.does(I)V
set_option maxRecDepth 100000 in
theorem lf_261_0 (o : Option (Nat × Nat)) (p0 : Int32) (h : Hp) : Ru 261 0 [(0, aR o), (1, aI p0)] [] h =
    (gfR h o 20 1).bind (fun x1 =>
    (gfR h x1 18 9).bind (fun x2 =>
    (gaI h x2 1000 (p0 + (1 : Int32))).bind (fun x3 =>
    (gfR h o 20 1).bind (fun x4 =>
    (gfR h x4 18 9).bind (fun x5 =>
    (gaI h x5 1000 (p0 + (2 : Int32))).bind (fun x6 =>
    (gfR h o 20 1).bind (fun x7 =>
    (gfR h x7 18 9).bind (fun x8 =>
    (gaI h x8 1000 (p0 + (3 : Int32))).bind (fun x9 =>
    (gfR h o 20 1).bind (fun x10 =>
    (gfR h x10 18 9).bind (fun x11 =>
    (gaI h x11 1000 (p0 + (4 : Int32))).bind (fun x12 =>
    (gfR h o 20 1).bind (fun x13 =>
    (gfR h x13 18 9).bind (fun x14 =>
    (gaI h x14 1000 p0).bind (fun x15 =>
    if x15.toInt = 0 then
      cI (Ex 262 [aR o, aI x3] h) (fun x17 h16 =>
      some (.inl none, h16)) xT
    else if x15.toInt = 1 then
      cI (Ex 263 [aR o, aI x3, aI x6] h) (fun x19 h18 =>
      some (.inl none, h18)) xT
    else if x15.toInt = 2 then
      cI (Ex 264 [aR o, aI x3, aI x6, aI x9, aI x12] h) (fun x21 h20 =>
      some (.inl none, h20)) xT
    else if x15.toInt = 3 then
      cI (Ex 266 [aR o, aI x3, aI x6, aI x9, aI x12] h) (fun x23 h22 =>
      some (.inl none, h22)) xT
    else if x15.toInt = 4 then
      cI (Ex 267 [aR o, aI x3] h) (fun x25 h24 =>
      some (.inl none, h24)) xT
    else if x15.toInt = 5 then
      cI (Ex 268 [aR o, aI x3, aI x6, aI x9] h) (fun x27 h26 =>
      some (.inl none, h26)) xT
    else if x15.toInt = 6 then
      cI (Ex 271 [aR o, aI x3] h) (fun x29 h28 =>
      some (.inl none, h28)) xT
    else if x15.toInt = 7 then
      cI (Ex 272 [aR o, aI x3, aI x6, aI x9, aI x12] h) (fun x31 h30 =>
      some (.inl none, h30)) xT
    else if x15.toInt = 8 then
      cI (Ex 273 [aR o, aI (1 : Int32)] h) (fun x33 h32 =>
      some (.inl none, h32)) xT
    else if x15.toInt = 9 then
      cI (Ex 273 [aR o, aI (0 : Int32)] h) (fun x35 h34 =>
      some (.inl none, h34)) xT
    else if x15.toInt = 10 then
      cI (Ex 265 [aR o, aI x3, aI x6, aI x9] h) (fun x37 h36 =>
      some (.inl none, h36)) xT
    else if x15.toInt = 11 then
      cI (Ex 274 [aR o, aI x3, aI x6] h) (fun x39 h38 =>
      some (.inl none, h38)) xT
    else if x15.toInt = 12 then
      cI (Ex 275 [aR o, aI x3] h) (fun x41 h40 =>
      some (.inl none, h40)) xT
    else if x15.toInt = 13 then
      cI (Ex 276 [aR o, aI x3, aI (1 : Int32)] h) (fun x43 h42 =>
      some (.inl none, h42)) xT
    else if x15.toInt = 14 then
      cI (Ex 278 [aR o] h) (fun x45 h44 =>
      some (.inl none, h44)) xT
    else cI (Ex 277 [aR o, aI x3] h) (fun x47 h46 =>
      some (.inl none, h46)) xT))))))))))))))) :=
  lift_of (k := 52) (rows := code_261) (cuts := cut_261) (hs := hdl_261) (r := fun R E =>
    (gfR h o 20 1).bind (fun x1 =>
    (gfR h x1 18 9).bind (fun x2 =>
    (gaI h x2 1000 (p0 + (1 : Int32))).bind (fun x3 =>
    (gfR h o 20 1).bind (fun x4 =>
    (gfR h x4 18 9).bind (fun x5 =>
    (gaI h x5 1000 (p0 + (2 : Int32))).bind (fun x6 =>
    (gfR h o 20 1).bind (fun x7 =>
    (gfR h x7 18 9).bind (fun x8 =>
    (gaI h x8 1000 (p0 + (3 : Int32))).bind (fun x9 =>
    (gfR h o 20 1).bind (fun x10 =>
    (gfR h x10 18 9).bind (fun x11 =>
    (gaI h x11 1000 (p0 + (4 : Int32))).bind (fun x12 =>
    (gfR h o 20 1).bind (fun x13 =>
    (gfR h x13 18 9).bind (fun x14 =>
    (gaI h x14 1000 p0).bind (fun x15 =>
    if x15.toInt = 0 then
      cI (E 262 [aR o, aI x3] h) (fun x17 h16 =>
      some (.inl none, h16)) xT
    else if x15.toInt = 1 then
      cI (E 263 [aR o, aI x3, aI x6] h) (fun x19 h18 =>
      some (.inl none, h18)) xT
    else if x15.toInt = 2 then
      cI (E 264 [aR o, aI x3, aI x6, aI x9, aI x12] h) (fun x21 h20 =>
      some (.inl none, h20)) xT
    else if x15.toInt = 3 then
      cI (E 266 [aR o, aI x3, aI x6, aI x9, aI x12] h) (fun x23 h22 =>
      some (.inl none, h22)) xT
    else if x15.toInt = 4 then
      cI (E 267 [aR o, aI x3] h) (fun x25 h24 =>
      some (.inl none, h24)) xT
    else if x15.toInt = 5 then
      cI (E 268 [aR o, aI x3, aI x6, aI x9] h) (fun x27 h26 =>
      some (.inl none, h26)) xT
    else if x15.toInt = 6 then
      cI (E 271 [aR o, aI x3] h) (fun x29 h28 =>
      some (.inl none, h28)) xT
    else if x15.toInt = 7 then
      cI (E 272 [aR o, aI x3, aI x6, aI x9, aI x12] h) (fun x31 h30 =>
      some (.inl none, h30)) xT
    else if x15.toInt = 8 then
      cI (E 273 [aR o, aI (1 : Int32)] h) (fun x33 h32 =>
      some (.inl none, h32)) xT
    else if x15.toInt = 9 then
      cI (E 273 [aR o, aI (0 : Int32)] h) (fun x35 h34 =>
      some (.inl none, h34)) xT
    else if x15.toInt = 10 then
      cI (E 265 [aR o, aI x3, aI x6, aI x9] h) (fun x37 h36 =>
      some (.inl none, h36)) xT
    else if x15.toInt = 11 then
      cI (E 274 [aR o, aI x3, aI x6] h) (fun x39 h38 =>
      some (.inl none, h38)) xT
    else if x15.toInt = 12 then
      cI (E 275 [aR o, aI x3] h) (fun x41 h40 =>
      some (.inl none, h40)) xT
    else if x15.toInt = 13 then
      cI (E 276 [aR o, aI x3, aI (1 : Int32)] h) (fun x43 h42 =>
      some (.inl none, h42)) xT
    else if x15.toInt = 14 then
      cI (E 278 [aR o] h) (fun x45 h44 =>
      some (.inl none, h44)) xT
    else cI (E 277 [aR o, aI x3] h) (fun x47 h46 =>
      some (.inl none, h46)) xT)))))))))))))))) rfl rfl rfl (fun R E => rfl)
-- ChipcardhouseModel.account(I)I
set_option maxRecDepth 100000 in
theorem lf_262_0 (o : Option (Nat × Nat)) (p0 : Int32) (h : Hp) : Ru 262 0 [(0, aR o), (1, aI p0)] [] h =
    cI (Ex 250 [aI p0, aI (0 : Int32), aI (9000000 : Int32)] h) (fun x2 h1 =>
    if x2 = 0 then
      cI (Ex 251 [aR o, aI (1 : Int32)] h1) (fun x4 h3 =>
      some (.inl (some (aI x4)), h3)) xT
    else
      (gfR h1 o 20 0).bind (fun x5 =>
      (gfI h1 x5 12 5).bind (fun x6 =>
      if x6 = (8 : Int32) then
        cI (Ex 251 [aR o, aI (2 : Int32)] h1) (fun x8 h7 =>
        some (.inl (some (aI x8)), h7)) xT
      else
        (gfR h1 o 20 0).bind (fun x9 =>
        (gfR h1 x9 12 0).bind (fun x10 =>
        (gfR h1 o 20 0).bind (fun x11 =>
        (gfI h1 x11 12 5).bind (fun x12 =>
        (pa h1 x10 1001 x12 (aL p0.toInt64)).bind (fun h13 =>
        (gfR h13 o 20 0).bind (fun x14 =>
        (gfL h13 x14 12 8).bind (fun x15 =>
        (pf h13 x14 12 8 (aL (x15 + p0.toInt64))).bind (fun h16 =>
        (gfR h16 o 20 0).bind (fun x17 =>
        (gfI h16 x17 12 5).bind (fun x18 =>
        (pf h16 x17 12 5 (aI (x18 + (1 : Int32)))).bind (fun h19 =>
        (gfR h19 o 20 0).bind (fun x20 =>
        (gfI h19 x20 12 5).bind (fun x21 =>
        cI (Ex 252 [aR o, aI (x21 - (1 : Int32))] h19) (fun x23 h22 =>
        some (.inl (some (aI x23)), h22)) xT)))))))))))))))) xT :=
  lift_of (k := 43) (rows := code_262) (cuts := cut_262) (hs := hdl_262) (r := fun R E =>
    cI (E 250 [aI p0, aI (0 : Int32), aI (9000000 : Int32)] h) (fun x2 h1 =>
    if x2 = 0 then
      cI (E 251 [aR o, aI (1 : Int32)] h1) (fun x4 h3 =>
      some (.inl (some (aI x4)), h3)) xT
    else
      (gfR h1 o 20 0).bind (fun x5 =>
      (gfI h1 x5 12 5).bind (fun x6 =>
      if x6 = (8 : Int32) then
        cI (E 251 [aR o, aI (2 : Int32)] h1) (fun x8 h7 =>
        some (.inl (some (aI x8)), h7)) xT
      else
        (gfR h1 o 20 0).bind (fun x9 =>
        (gfR h1 x9 12 0).bind (fun x10 =>
        (gfR h1 o 20 0).bind (fun x11 =>
        (gfI h1 x11 12 5).bind (fun x12 =>
        (pa h1 x10 1001 x12 (aL p0.toInt64)).bind (fun h13 =>
        (gfR h13 o 20 0).bind (fun x14 =>
        (gfL h13 x14 12 8).bind (fun x15 =>
        (pf h13 x14 12 8 (aL (x15 + p0.toInt64))).bind (fun h16 =>
        (gfR h16 o 20 0).bind (fun x17 =>
        (gfI h16 x17 12 5).bind (fun x18 =>
        (pf h16 x17 12 5 (aI (x18 + (1 : Int32)))).bind (fun h19 =>
        (gfR h19 o 20 0).bind (fun x20 =>
        (gfI h19 x20 12 5).bind (fun x21 =>
        cI (E 252 [aR o, aI (x21 - (1 : Int32))] h19) (fun x23 h22 =>
        some (.inl (some (aI x23)), h22)) xT)))))))))))))))) xT) rfl rfl rfl (fun R E => rfl)
-- ChipcardhouseModel.shop(II)I
set_option maxRecDepth 100000 in
theorem lf_263_0 (o : Option (Nat × Nat)) (p0 : Int32) (p1 : Int32) (h : Hp) : Ru 263 0 [(0, aR o), (1, aI p0), (2, aI p1)] [] h =
    (gfR h o 20 2).bind (fun x1 =>
    cI (Ex 232 [aR x1, aI p0, aI p1] h) (fun x3 h2 =>
    (gfR h2 o 20 2).bind (fun x4 =>
    (gfI h2 x4 19 10).bind (fun x5 =>
    if x5 = 0 then
      (gfR h2 o 20 4).bind (fun x6 =>
      cV (Ex 190 [aR x6] h2) (fun h7 =>
      (gfR h7 o 20 0).bind (fun x8 =>
      (gfI h7 x8 12 6).bind (fun x9 =>
      (pf h7 x8 12 6 (aI (x9 + (1 : Int32)))).bind (fun h10 =>
      cI (Ex 255 [aR o, aI x3] h10) (fun x12 h11 =>
      some (.inl (some (aI x12)), h11)) xT)))) xT)
    else
      cI (Ex 255 [aR o, aI x3] h2) (fun x14 h13 =>
      some (.inl (some (aI x14)), h13)) xT))) xT) :=
  lift_of (k := 25) (rows := code_263) (cuts := cut_263) (hs := hdl_263) (r := fun R E =>
    (gfR h o 20 2).bind (fun x1 =>
    cI (E 232 [aR x1, aI p0, aI p1] h) (fun x3 h2 =>
    (gfR h2 o 20 2).bind (fun x4 =>
    (gfI h2 x4 19 10).bind (fun x5 =>
    if x5 = 0 then
      (gfR h2 o 20 4).bind (fun x6 =>
      cV (E 190 [aR x6] h2) (fun h7 =>
      (gfR h7 o 20 0).bind (fun x8 =>
      (gfI h7 x8 12 6).bind (fun x9 =>
      (pf h7 x8 12 6 (aI (x9 + (1 : Int32)))).bind (fun h10 =>
      cI (E 255 [aR o, aI x3] h10) (fun x12 h11 =>
      some (.inl (some (aI x12)), h11)) xT)))) xT)
    else
      cI (E 255 [aR o, aI x3] h2) (fun x14 h13 =>
      some (.inl (some (aI x14)), h13)) xT))) xT)) rfl rfl rfl (fun R E => rfl)
-- ChipcardhouseModel.card(IIII)I
set_option maxRecDepth 100000 in
theorem lf_264_0 (o : Option (Nat × Nat)) (p0 : Int32) (p1 : Int32) (p2 : Int32) (p3 : Int32) (h : Hp) : Ru 264 0 [(0, aR o), (1, aI p0), (2, aI p1), (3, aI p2), (4, aI p3)] [] h =
    (gfR h o 20 2).bind (fun x1 =>
    cI (Ex 231 [aR x1, aI p0, aI p1, aI p2, aI p3] h) (fun x3 h2 =>
    cI (Ex 255 [aR o, aI x3] h2) (fun x5 h4 =>
    some (.inl (some (aI x5)), h4)) xT) xT) :=
  lift_of (k := 11) (rows := code_264) (cuts := cut_264) (hs := hdl_264) (r := fun R E =>
    (gfR h o 20 2).bind (fun x1 =>
    cI (E 231 [aR x1, aI p0, aI p1, aI p2, aI p3] h) (fun x3 h2 =>
    cI (E 255 [aR o, aI x3] h2) (fun x5 h4 =>
    some (.inl (some (aI x5)), h4)) xT) xT)) rfl rfl rfl (fun R E => rfl)
-- ChipcardhouseModel.setHouse(III)I
set_option maxRecDepth 100000 in
theorem lf_265_0 (o : Option (Nat × Nat)) (p0 : Int32) (p1 : Int32) (p2 : Int32) (h : Hp) : Ru 265 0 [(0, aR o), (1, aI p0), (2, aI p1), (3, aI p2)] [] h =
    cI (Ex 250 [aI p0, aI (0 : Int32), aI (20000 : Int32)] h) (fun x2 h1 =>
    if x2 = 0 then
      cI (Ex 251 [aR o, aI (1 : Int32)] h1) (fun x4 h3 =>
      some (.inl (some (aI x4)), h3)) xT
    else
      cI (Ex 250 [aI p1, aI (0 : Int32), aI (500 : Int32)] h1) (fun x6 h5 =>
      if x6 = 0 then
        cI (Ex 251 [aR o, aI (1 : Int32)] h5) (fun x8 h7 =>
        some (.inl (some (aI x8)), h7)) xT
      else
        cI (Ex 250 [aI p2, aI (1 : Int32), aI (5 : Int32)] h5) (fun x10 h9 =>
        if x10 = 0 then
          cI (Ex 251 [aR o, aI (1 : Int32)] h9) (fun x12 h11 =>
          some (.inl (some (aI x12)), h11)) xT
        else
          (gfI h9 o 20 7).bind (fun x13 =>
          (pf h9 o 20 7 (aI p1)).bind (fun h14 =>
          (gfR h14 o 20 4).bind (fun x15 =>
          (pf h14 x15 16 3 (aI p0)).bind (fun h16 =>
          (gfR h16 o 20 4).bind (fun x17 =>
          (pf h16 x17 16 2 (aI p2)).bind (fun h18 =>
          cI (Ex 252 [aR o, aI x13] h18) (fun x20 h19 =>
          some (.inl (some (aI x20)), h19)) xT))))))) xT) xT) xT :=
  lift_of (k := 34) (rows := code_265) (cuts := cut_265) (hs := hdl_265) (r := fun R E =>
    cI (E 250 [aI p0, aI (0 : Int32), aI (20000 : Int32)] h) (fun x2 h1 =>
    if x2 = 0 then
      cI (E 251 [aR o, aI (1 : Int32)] h1) (fun x4 h3 =>
      some (.inl (some (aI x4)), h3)) xT
    else
      cI (E 250 [aI p1, aI (0 : Int32), aI (500 : Int32)] h1) (fun x6 h5 =>
      if x6 = 0 then
        cI (E 251 [aR o, aI (1 : Int32)] h5) (fun x8 h7 =>
        some (.inl (some (aI x8)), h7)) xT
      else
        cI (E 250 [aI p2, aI (1 : Int32), aI (5 : Int32)] h5) (fun x10 h9 =>
        if x10 = 0 then
          cI (E 251 [aR o, aI (1 : Int32)] h9) (fun x12 h11 =>
          some (.inl (some (aI x12)), h11)) xT
        else
          (gfI h9 o 20 7).bind (fun x13 =>
          (pf h9 o 20 7 (aI p1)).bind (fun h14 =>
          (gfR h14 o 20 4).bind (fun x15 =>
          (pf h14 x15 16 3 (aI p0)).bind (fun h16 =>
          (gfR h16 o 20 4).bind (fun x17 =>
          (pf h16 x17 16 2 (aI p2)).bind (fun h18 =>
          cI (E 252 [aR o, aI x13] h18) (fun x20 h19 =>
          some (.inl (some (aI x20)), h19)) xT))))))) xT) xT) xT) rfl rfl rfl (fun R E => rfl)
-- ChipcardhouseModel.pay(IIII)I
set_option maxRecDepth 100000 in
theorem lf_266_0 (o : Option (Nat × Nat)) (p0 : Int32) (p1 : Int32) (p2 : Int32) (p3 : Int32) (h : Hp) : Ru 266 0 [(0, aR o), (1, aI p0), (2, aI p1), (3, aI p2), (4, aI p3)] [] h =
    (gfR h o 20 2).bind (fun x1 =>
    cI (Ex 242 [aR x1, aI p0, aI p1, aI p2, aI p3] h) (fun x3 h2 =>
    cI (Ex 255 [aR o, aI x3] h2) (fun x5 h4 =>
    some (.inl (some (aI x5)), h4)) xT) xT) :=
  lift_of (k := 11) (rows := code_266) (cuts := cut_266) (hs := hdl_266) (r := fun R E =>
    (gfR h o 20 2).bind (fun x1 =>
    cI (E 242 [aR x1, aI p0, aI p1, aI p2, aI p3] h) (fun x3 h2 =>
    cI (E 255 [aR o, aI x3] h2) (fun x5 h4 =>
    some (.inl (some (aI x5)), h4)) xT) xT)) rfl rfl rfl (fun R E => rfl)
-- ChipcardhouseModel.sends(I)I
set_option maxRecDepth 100000 in
theorem lf_267_0 (o : Option (Nat × Nat)) (p0 : Int32) (h : Hp) : Ru 267 0 [(0, aR o), (1, aI p0)] [] h =
    (gfR h o 20 4).bind (fun x1 =>
    cI (Ex 200 [aR x1, aI p0] h) (fun x3 h2 =>
    cI (Ex 256 [aR o, aI x3] h2) (fun x5 h4 =>
    some (.inl (some (aI x5)), h4)) xT) xT) :=
  lift_of (k := 8) (rows := code_267) (cuts := cut_267) (hs := hdl_267) (r := fun R E =>
    (gfR h o 20 4).bind (fun x1 =>
    cI (E 200 [aR x1, aI p0] h) (fun x3 h2 =>
    cI (E 256 [aR o, aI x3] h2) (fun x5 h4 =>
    some (.inl (some (aI x5)), h4)) xT) xT)) rfl rfl rfl (fun R E => rfl)
-- ChipcardhouseModel.backMoney(III)I
set_option maxRecDepth 100000 in
theorem lf_268_0 (o : Option (Nat × Nat)) (p0 : Int32) (p1 : Int32) (p2 : Int32) (h : Hp) : Ru 268 0 [(0, aR o), (1, aI p0), (2, aI p1), (3, aI p2)] [] h =
    (gfR h o 20 4).bind (fun x1 =>
    cI (Ex 201 [aR x1, aI p0, aI p1, aI p2] h) (fun x3 h2 =>
    cI (Ex 256 [aR o, aI x3] h2) (fun x5 h4 =>
    some (.inl (some (aI x5)), h4)) xT) xT) :=
  lift_of (k := 10) (rows := code_268) (cuts := cut_268) (hs := hdl_268) (r := fun R E =>
    (gfR h o 20 4).bind (fun x1 =>
    cI (E 201 [aR x1, aI p0, aI p1, aI p2] h) (fun x3 h2 =>
    cI (E 256 [aR o, aI x3] h2) (fun x5 h4 =>
    some (.inl (some (aI x5)), h4)) xT) xT)) rfl rfl rfl (fun R E => rfl)
-- ChipcardhouseModel.forge(III)I
set_option maxRecDepth 100000 in
theorem lf_269_0 (o : Option (Nat × Nat)) (p0 : Int32) (p1 : Int32) (p2 : Int32) (h : Hp) : Ru 269 0 [(0, aR o), (1, aI p0), (2, aI p1), (3, aI p2)] [] h =
    (gfR h o 20 4).bind (fun x1 =>
    cI (Ex 202 [aR x1, aI p0, aI p1, aI p2] h) (fun x3 h2 =>
    cI (Ex 256 [aR o, aI x3] h2) (fun x5 h4 =>
    some (.inl (some (aI x5)), h4)) xT) xT) :=
  lift_of (k := 10) (rows := code_269) (cuts := cut_269) (hs := hdl_269) (r := fun R E =>
    (gfR h o 20 4).bind (fun x1 =>
    cI (E 202 [aR x1, aI p0, aI p1, aI p2] h) (fun x3 h2 =>
    cI (E 256 [aR o, aI x3] h2) (fun x5 h4 =>
    some (.inl (some (aI x5)), h4)) xT) xT)) rfl rfl rfl (fun R E => rfl)
-- ChipcardhouseModel.passes()V
set_option maxRecDepth 100000 in
theorem lf_270_0 (o : Option (Nat × Nat)) (h : Hp) : Ru 270 0 [(0, aR o)] [] h =
    (gfI h o 20 5).bind (fun x1 =>
    (pf h o 20 5 (aI (x1 + (1 : Int32)))).bind (fun h2 =>
    (gfR h2 o 20 2).bind (fun x3 =>
    (gfI h2 o 20 5).bind (fun x4 =>
    (pf h2 x3 19 9 (aI x4)).bind (fun h5 =>
    (gfR h5 o 20 4).bind (fun x6 =>
    (gfI h5 o 20 5).bind (fun x7 =>
    (pf h5 x6 16 1 (aI x7)).bind (fun h8 =>
    (gfR h8 o 20 4).bind (fun x9 =>
    cV (Ex 205 [aR x9] h8) (fun h10 =>
    Ru 270 41 [(0, aR o), (1, aI (0 : Int32))] [] h10) xT))))))))) :=
  lift_of (k := 22) (rows := code_270) (cuts := cut_270) (hs := hdl_270) (r := fun R E =>
    (gfI h o 20 5).bind (fun x1 =>
    (pf h o 20 5 (aI (x1 + (1 : Int32)))).bind (fun h2 =>
    (gfR h2 o 20 2).bind (fun x3 =>
    (gfI h2 o 20 5).bind (fun x4 =>
    (pf h2 x3 19 9 (aI x4)).bind (fun h5 =>
    (gfR h5 o 20 4).bind (fun x6 =>
    (gfI h5 o 20 5).bind (fun x7 =>
    (pf h5 x6 16 1 (aI x7)).bind (fun h8 =>
    (gfR h8 o 20 4).bind (fun x9 =>
    cV (E 205 [aR x9] h8) (fun h10 =>
    R 41 [(0, aR o), (1, aI (0 : Int32))] [] h10) xT)))))))))) rfl rfl rfl (fun R E => rfl)
set_option maxRecDepth 100000 in
theorem lf_270_41 (o : Option (Nat × Nat)) (v1 : Int32) (h : Hp) : Ru 270 41 [(0, aR o), (1, aI v1)] [] h =
    (gfR h o 20 0).bind (fun x1 =>
    (gfI h x1 12 6).bind (fun x2 =>
    if x2 ≤ v1 then
      some (.inl none, h)
    else
      (gfR h o 20 2).bind (fun x3 =>
      cV (Ex 245 [aR x3, aI v1] h) (fun h4 =>
      (gfR h4 o 20 4).bind (fun x5 =>
      cV (Ex 211 [aR x5, aI v1] h4) (fun h6 =>
      Ru 270 41 [(0, aR o), (1, aI (v1 + (1 : Int32)))] [] h6) xT)) xT))) :=
  lift_of (k := 16) (rows := code_270) (cuts := cut_270) (hs := hdl_270) (r := fun R E =>
    (gfR h o 20 0).bind (fun x1 =>
    (gfI h x1 12 6).bind (fun x2 =>
    if x2 ≤ v1 then
      some (.inl none, h)
    else
      (gfR h o 20 2).bind (fun x3 =>
      cV (E 245 [aR x3, aI v1] h) (fun h4 =>
      (gfR h4 o 20 4).bind (fun x5 =>
      cV (E 211 [aR x5, aI v1] h4) (fun h6 =>
      R 41 [(0, aR o), (1, aI (v1 + (1 : Int32)))] [] h6) xT)) xT)))) rfl rfl rfl (fun R E => rfl)
-- ChipcardhouseModel.passes(I)I
set_option maxRecDepth 100000 in
theorem lf_271_0 (o : Option (Nat × Nat)) (p0 : Int32) (h : Hp) : Ru 271 0 [(0, aR o), (1, aI p0)] [] h =
    cI (Ex 250 [aI p0, aI (1 : Int32), aI (200 : Int32)] h) (fun x2 h1 =>
    if x2 = 0 then
      cI (Ex 251 [aR o, aI (1 : Int32)] h1) (fun x4 h3 =>
      some (.inl (some (aI x4)), h3)) xT
    else
      (gfI h1 o 20 5).bind (fun x5 =>
      if (x5 + p0) ≤ (3000 : Int32) then
        Ru 271 37 [(0, aR o), (1, aI p0), (2, aI (0 : Int32))] [] h1
      else
        cI (Ex 251 [aR o, aI (2 : Int32)] h1) (fun x7 h6 =>
        some (.inl (some (aI x7)), h6)) xT)) xT :=
  lift_of (k := 16) (rows := code_271) (cuts := cut_271) (hs := hdl_271) (r := fun R E =>
    cI (E 250 [aI p0, aI (1 : Int32), aI (200 : Int32)] h) (fun x2 h1 =>
    if x2 = 0 then
      cI (E 251 [aR o, aI (1 : Int32)] h1) (fun x4 h3 =>
      some (.inl (some (aI x4)), h3)) xT
    else
      (gfI h1 o 20 5).bind (fun x5 =>
      if (x5 + p0) ≤ (3000 : Int32) then
        R 37 [(0, aR o), (1, aI p0), (2, aI (0 : Int32))] [] h1
      else
        cI (E 251 [aR o, aI (2 : Int32)] h1) (fun x7 h6 =>
        some (.inl (some (aI x7)), h6)) xT)) xT) rfl rfl rfl (fun R E => rfl)
set_option maxRecDepth 100000 in
theorem lf_271_37 (o : Option (Nat × Nat)) (v1 : Int32) (v2 : Int32) (h : Hp) : Ru 271 37 [(0, aR o), (1, aI v1), (2, aI v2)] [] h =
    if v1 ≤ v2 then
      (gfI h o 20 5).bind (fun x1 =>
      cI (Ex 252 [aR o, aI x1] h) (fun x3 h2 =>
      some (.inl (some (aI x3)), h2)) xT)
    else
      cV (Ex 270 [aR o] h) (fun h4 =>
      Ru 271 37 [(0, aR o), (1, aI v1), (2, aI (v2 + (1 : Int32)))] [] h4) xT :=
  lift_of (k := 9) (rows := code_271) (cuts := cut_271) (hs := hdl_271) (r := fun R E =>
    if v1 ≤ v2 then
      (gfI h o 20 5).bind (fun x1 =>
      cI (E 252 [aR o, aI x1] h) (fun x3 h2 =>
      some (.inl (some (aI x3)), h2)) xT)
    else
      cV (E 270 [aR o] h) (fun h4 =>
      R 37 [(0, aR o), (1, aI v1), (2, aI (v2 + (1 : Int32)))] [] h4) xT) rfl rfl rfl (fun R E => rfl)
-- ChipcardhouseModel.faults(IIII)I
set_option maxRecDepth 100000 in
theorem lf_272_0 (o : Option (Nat × Nat)) (p0 : Int32) (p1 : Int32) (p2 : Int32) (p3 : Int32) (h : Hp) : Ru 272 0 [(0, aR o), (1, aI p0), (2, aI p1), (3, aI p2), (4, aI p3)] [] h =
    (gfR h o 20 4).bind (fun x1 =>
    cI (Ex 203 [aR x1, aI p0, aI p1, aI p2, aI p3] h) (fun x3 h2 =>
    cI (Ex 256 [aR o, aI x3] h2) (fun x5 h4 =>
    some (.inl (some (aI x5)), h4)) xT) xT) :=
  lift_of (k := 11) (rows := code_272) (cuts := cut_272) (hs := hdl_272) (r := fun R E =>
    (gfR h o 20 4).bind (fun x1 =>
    cI (E 203 [aR x1, aI p0, aI p1, aI p2, aI p3] h) (fun x3 h2 =>
    cI (E 256 [aR o, aI x3] h2) (fun x5 h4 =>
    some (.inl (some (aI x5)), h4)) xT) xT)) rfl rfl rfl (fun R E => rfl)
-- ChipcardhouseModel.setOpen(Z)I
set_option maxRecDepth 100000 in
theorem lf_273_0 (o : Option (Nat × Nat)) (p0 : Int32) (h : Hp) : Ru 273 0 [(0, aR o), (1, aI p0)] [] h =
    (gfR h o 20 4).bind (fun x1 =>
    cI (Ex 204 [aR x1, aI p0] h) (fun x3 h2 =>
    cI (Ex 256 [aR o, aI x3] h2) (fun x5 h4 =>
    some (.inl (some (aI x5)), h4)) xT) xT) :=
  lift_of (k := 8) (rows := code_273) (cuts := cut_273) (hs := hdl_273) (r := fun R E =>
    (gfR h o 20 4).bind (fun x1 =>
    cI (E 204 [aR x1, aI p0] h) (fun x3 h2 =>
    cI (E 256 [aR o, aI x3] h2) (fun x5 h4 =>
    some (.inl (some (aI x5)), h4)) xT) xT)) rfl rfl rfl (fun R E => rfl)
-- ChipcardhouseModel.tells(II)I
set_option maxRecDepth 100000 in
theorem lf_274_0 (o : Option (Nat × Nat)) (p0 : Int32) (p1 : Int32) (h : Hp) : Ru 274 0 [(0, aR o), (1, aI p0), (2, aI p1)] [] h =
    (gfR h o 20 3).bind (fun x1 =>
    cI (Ex 175 [aR x1, aI p0, aI p1] h) (fun x3 h2 =>
    cI (Ex 257 [aR o, aI x3] h2) (fun x5 h4 =>
    some (.inl (some (aI x5)), h4)) xT) xT) :=
  lift_of (k := 9) (rows := code_274) (cuts := cut_274) (hs := hdl_274) (r := fun R E =>
    (gfR h o 20 3).bind (fun x1 =>
    cI (E 175 [aR x1, aI p0, aI p1] h) (fun x3 h2 =>
    cI (E 257 [aR o, aI x3] h2) (fun x5 h4 =>
    some (.inl (some (aI x5)), h4)) xT) xT)) rfl rfl rfl (fun R E => rfl)
-- ChipcardhouseModel.stolen(I)Z
set_option maxRecDepth 100000 in
theorem lf_275_0 (o : Option (Nat × Nat)) (p0 : Int32) (h : Hp) : Ru 275 0 [(0, aR o), (1, aI p0)] [] h =
    (gfR h o 20 3).bind (fun x1 =>
    cI (Ex 176 [aR x1, aI p0] h) (fun x3 h2 =>
    (gfR h2 o 20 3).bind (fun x4 =>
    (gfI h2 x4 14 10).bind (fun x5 =>
    (pf h2 o 20 8 (aI x5)).bind (fun h6 =>
    gz x3 (some (.inl (some (aI x3)), h6)))))) xT) :=
  lift_of (k := 13) (rows := code_275) (cuts := cut_275) (hs := hdl_275) (r := fun R E =>
    (gfR h o 20 3).bind (fun x1 =>
    cI (E 176 [aR x1, aI p0] h) (fun x3 h2 =>
    (gfR h2 o 20 3).bind (fun x4 =>
    (gfI h2 x4 14 10).bind (fun x5 =>
    (pf h2 o 20 8 (aI x5)).bind (fun h6 =>
    gz x3 (some (.inl (some (aI x3)), h6)))))) xT)) rfl rfl rfl (fun R E => rfl)
-- ChipcardhouseModel.freeze(IZ)Z
set_option maxRecDepth 100000 in
theorem lf_276_0 (o : Option (Nat × Nat)) (p0 : Int32) (p1 : Int32) (h : Hp) : Ru 276 0 [(0, aR o), (1, aI p0), (2, aI p1)] [] h =
    cI (Ex 253 [aR o, aI p0] h) (fun x2 h1 =>
    if x2 = 0 then
      (pf h1 o 20 8 (aI (1 : Int32))).bind (fun h3 =>
      (gfI h3 o 20 8).bind (fun x4 =>
      if x4 = 0 then
        (gfR h3 o 20 0).bind (fun x5 =>
        (gfR h3 x5 12 4).bind (fun x6 =>
        (gaI h3 x6 1002 p0).bind (fun x7 =>
        (gfR h3 o 20 0).bind (fun x8 =>
        (gfR h3 x8 12 4).bind (fun x9 =>
        gz p1 ((pa h3 x9 1002 p0 (aI p1)).bind (fun h10 =>
        gz x7 (some (.inl (some (aI x7)), h10)))))))))
      else
        some (.inl (some (aI (0 : Int32))), h3)))
    else
      (pf h1 o 20 8 (aI (0 : Int32))).bind (fun h11 =>
      (gfI h11 o 20 8).bind (fun x12 =>
      if x12 = 0 then
        (gfR h11 o 20 0).bind (fun x13 =>
        (gfR h11 x13 12 4).bind (fun x14 =>
        (gaI h11 x14 1002 p0).bind (fun x15 =>
        (gfR h11 o 20 0).bind (fun x16 =>
        (gfR h11 x16 12 4).bind (fun x17 =>
        gz p1 ((pa h11 x17 1002 p0 (aI p1)).bind (fun h18 =>
        gz x15 (some (.inl (some (aI x15)), h18)))))))))
      else
        some (.inl (some (aI (0 : Int32))), h11)))) xT :=
  lift_of (k := 26) (rows := code_276) (cuts := cut_276) (hs := hdl_276) (r := fun R E =>
    cI (E 253 [aR o, aI p0] h) (fun x2 h1 =>
    if x2 = 0 then
      (pf h1 o 20 8 (aI (1 : Int32))).bind (fun h3 =>
      (gfI h3 o 20 8).bind (fun x4 =>
      if x4 = 0 then
        (gfR h3 o 20 0).bind (fun x5 =>
        (gfR h3 x5 12 4).bind (fun x6 =>
        (gaI h3 x6 1002 p0).bind (fun x7 =>
        (gfR h3 o 20 0).bind (fun x8 =>
        (gfR h3 x8 12 4).bind (fun x9 =>
        gz p1 ((pa h3 x9 1002 p0 (aI p1)).bind (fun h10 =>
        gz x7 (some (.inl (some (aI x7)), h10)))))))))
      else
        some (.inl (some (aI (0 : Int32))), h3)))
    else
      (pf h1 o 20 8 (aI (0 : Int32))).bind (fun h11 =>
      (gfI h11 o 20 8).bind (fun x12 =>
      if x12 = 0 then
        (gfR h11 o 20 0).bind (fun x13 =>
        (gfR h11 x13 12 4).bind (fun x14 =>
        (gaI h11 x14 1002 p0).bind (fun x15 =>
        (gfR h11 o 20 0).bind (fun x16 =>
        (gfR h11 x16 12 4).bind (fun x17 =>
        gz p1 ((pa h11 x17 1002 p0 (aI p1)).bind (fun h18 =>
        gz x15 (some (.inl (some (aI x15)), h18)))))))))
      else
        some (.inl (some (aI (0 : Int32))), h11)))) xT) rfl rfl rfl (fun R E => rfl)
-- ChipcardhouseModel.dispute(I)I
set_option maxRecDepth 100000 in
theorem lf_277_0 (o : Option (Nat × Nat)) (p0 : Int32) (h : Hp) : Ru 277 0 [(0, aR o), (1, aI p0)] [] h =
    (gfR h o 20 3).bind (fun x1 =>
    cI (Ex 178 [aR x1, aI p0] h) (fun x3 h2 =>
    cI (Ex 257 [aR o, aI x3] h2) (fun x5 h4 =>
    some (.inl (some (aI x5)), h4)) xT) xT) :=
  lift_of (k := 8) (rows := code_277) (cuts := cut_277) (hs := hdl_277) (r := fun R E =>
    (gfR h o 20 3).bind (fun x1 =>
    cI (E 178 [aR x1, aI p0] h) (fun x3 h2 =>
    cI (E 257 [aR o, aI x3] h2) (fun x5 h4 =>
    some (.inl (some (aI x5)), h4)) xT) xT)) rfl rfl rfl (fun R E => rfl)
-- ChipcardhouseModel.endDay()I
set_option maxRecDepth 100000 in
theorem lf_278_0 (o : Option (Nat × Nat)) (h : Hp) : Ru 278 0 [(0, aR o)] [] h =
    (gfR h o 20 0).bind (fun x1 =>
    (gfI h o 20 7).bind (fun x2 =>
    cV (Ex 151 [aR x1, aI x2] h) (fun h3 =>
    (gfI h3 o 20 6).bind (fun x4 =>
    (pf h3 o 20 6 (aI (x4 + (1 : Int32)))).bind (fun h5 =>
    (gfR h5 o 20 3).bind (fun x6 =>
    (gfI h5 o 20 6).bind (fun x7 =>
    (pf h5 x6 14 11 (aI x7)).bind (fun h8 =>
    (gfI h8 o 20 6).bind (fun x9 =>
    cI (Ex 252 [aR o, aI x9] h8) (fun x11 h10 =>
    some (.inl (some (aI x11)), h10)) xT))))))) xT)) :=
  lift_of (k := 22) (rows := code_278) (cuts := cut_278) (hs := hdl_278) (r := fun R E =>
    (gfR h o 20 0).bind (fun x1 =>
    (gfI h o 20 7).bind (fun x2 =>
    cV (E 151 [aR x1, aI x2] h) (fun h3 =>
    (gfI h3 o 20 6).bind (fun x4 =>
    (pf h3 o 20 6 (aI (x4 + (1 : Int32)))).bind (fun h5 =>
    (gfR h5 o 20 3).bind (fun x6 =>
    (gfI h5 o 20 6).bind (fun x7 =>
    (pf h5 x6 14 11 (aI x7)).bind (fun h8 =>
    (gfI h8 o 20 6).bind (fun x9 =>
    cI (E 252 [aR o, aI x9] h8) (fun x11 h10 =>
    some (.inl (some (aI x11)), h10)) xT))))))) xT))) rfl rfl rfl (fun R E => rfl)
-- ChipcardhouseModel.cardAt(II)I
set_option maxRecDepth 100000 in
theorem lf_279_0 (o : Option (Nat × Nat)) (p0 : Int32) (p1 : Int32) (h : Hp) : Ru 279 0 [(0, aR o), (1, aI p0), (2, aI p1)] [] h =
    (gfR h o 20 2).bind (fun x1 =>
    (gfI h x1 19 6).bind (fun x2 =>
    cI (Ex 250 [aI p0, aI (0 : Int32), aI (x2 - (1 : Int32))] h) (fun x4 h3 =>
    if x4 = 0 then
      (gfR h3 o 20 2).bind (fun x5 =>
      cI (Ex 246 [aR x5, aI p0, aI p1] h3) (fun x7 h6 =>
      cI (Ex 255 [aR o, aI x7] h6) (fun x9 h8 =>
      some (.inl (some (aI x9)), h8)) xT) xT)
    else
      if p1 = (8 : Int32) then
        (gfR h3 o 20 3).bind (fun x10 =>
        cI (Ex 164 [aR x10, aI p0] h3) (fun x12 h11 =>
        cI (Ex 252 [aR o, aI x12] h11) (fun x14 h13 =>
        some (.inl (some (aI x14)), h13)) xT) xT)
      else
        (gfR h3 o 20 2).bind (fun x15 =>
        cI (Ex 246 [aR x15, aI p0, aI p1] h3) (fun x17 h16 =>
        cI (Ex 255 [aR o, aI x17] h16) (fun x19 h18 =>
        some (.inl (some (aI x19)), h18)) xT) xT)) xT)) :=
  lift_of (k := 21) (rows := code_279) (cuts := cut_279) (hs := hdl_279) (r := fun R E =>
    (gfR h o 20 2).bind (fun x1 =>
    (gfI h x1 19 6).bind (fun x2 =>
    cI (E 250 [aI p0, aI (0 : Int32), aI (x2 - (1 : Int32))] h) (fun x4 h3 =>
    if x4 = 0 then
      (gfR h3 o 20 2).bind (fun x5 =>
      cI (E 246 [aR x5, aI p0, aI p1] h3) (fun x7 h6 =>
      cI (E 255 [aR o, aI x7] h6) (fun x9 h8 =>
      some (.inl (some (aI x9)), h8)) xT) xT)
    else
      if p1 = (8 : Int32) then
        (gfR h3 o 20 3).bind (fun x10 =>
        cI (E 164 [aR x10, aI p0] h3) (fun x12 h11 =>
        cI (E 252 [aR o, aI x12] h11) (fun x14 h13 =>
        some (.inl (some (aI x14)), h13)) xT) xT)
      else
        (gfR h3 o 20 2).bind (fun x15 =>
        cI (E 246 [aR x15, aI p0, aI p1] h3) (fun x17 h16 =>
        cI (E 255 [aR o, aI x17] h16) (fun x19 h18 =>
        some (.inl (some (aI x19)), h18)) xT) xT)) xT))) rfl rfl rfl (fun R E => rfl)
-- ChipcardhouseModel.paymentAt(II)I
set_option maxRecDepth 100000 in
theorem lf_280_0 (o : Option (Nat × Nat)) (p0 : Int32) (p1 : Int32) (h : Hp) : Ru 280 0 [(0, aR o), (1, aI p0), (2, aI p1)] [] h =
    (gfR h o 20 2).bind (fun x1 =>
    (gfI h x1 19 8).bind (fun x2 =>
    cI (Ex 250 [aI p0, aI (0 : Int32), aI (x2 - (1 : Int32))] h) (fun x4 h3 =>
    if x4 = 0 then
      (gfR h3 o 20 2).bind (fun x5 =>
      cI (Ex 247 [aR x5, aI p0, aI p1] h3) (fun x7 h6 =>
      cI (Ex 255 [aR o, aI x7] h6) (fun x9 h8 =>
      some (.inl (some (aI x9)), h8)) xT) xT)
    else
      if p1 = (9 : Int32) then
        (gfR h3 o 20 4).bind (fun x10 =>
        cI (Ex 213 [aR x10, aI p0] h3) (fun x12 h11 =>
        if x12 = 0 then
          cI (Ex 252 [aR o, aI (0 : Int32)] h11) (fun x14 h13 =>
          some (.inl (some (aI x14)), h13)) xT
        else
          cI (Ex 252 [aR o, aI (1 : Int32)] h11) (fun x16 h15 =>
          some (.inl (some (aI x16)), h15)) xT) xT)
      else
        (gfR h3 o 20 2).bind (fun x17 =>
        cI (Ex 247 [aR x17, aI p0, aI p1] h3) (fun x19 h18 =>
        cI (Ex 255 [aR o, aI x19] h18) (fun x21 h20 =>
        some (.inl (some (aI x21)), h20)) xT) xT)) xT)) :=
  lift_of (k := 23) (rows := code_280) (cuts := cut_280) (hs := hdl_280) (r := fun R E =>
    (gfR h o 20 2).bind (fun x1 =>
    (gfI h x1 19 8).bind (fun x2 =>
    cI (E 250 [aI p0, aI (0 : Int32), aI (x2 - (1 : Int32))] h) (fun x4 h3 =>
    if x4 = 0 then
      (gfR h3 o 20 2).bind (fun x5 =>
      cI (E 247 [aR x5, aI p0, aI p1] h3) (fun x7 h6 =>
      cI (E 255 [aR o, aI x7] h6) (fun x9 h8 =>
      some (.inl (some (aI x9)), h8)) xT) xT)
    else
      if p1 = (9 : Int32) then
        (gfR h3 o 20 4).bind (fun x10 =>
        cI (E 213 [aR x10, aI p0] h3) (fun x12 h11 =>
        if x12 = 0 then
          cI (E 252 [aR o, aI (0 : Int32)] h11) (fun x14 h13 =>
          some (.inl (some (aI x14)), h13)) xT
        else
          cI (E 252 [aR o, aI (1 : Int32)] h11) (fun x16 h15 =>
          some (.inl (some (aI x16)), h15)) xT) xT)
      else
        (gfR h3 o 20 2).bind (fun x17 =>
        cI (E 247 [aR x17, aI p0, aI p1] h3) (fun x19 h18 =>
        cI (E 255 [aR o, aI x19] h18) (fun x21 h20 =>
        some (.inl (some (aI x21)), h20)) xT) xT)) xT))) rfl rfl rfl (fun R E => rfl)
-- ChipcardhouseModel.knows(II)I
set_option maxRecDepth 100000 in
theorem lf_281_0 (o : Option (Nat × Nat)) (p0 : Int32) (p1 : Int32) (h : Hp) : Ru 281 0 [(0, aR o), (1, aI p0), (2, aI p1)] [] h =
    (gfR h o 20 3).bind (fun x1 =>
    cI (Ex 177 [aR x1, aI p0, aI p1] h) (fun x3 h2 =>
    cI (Ex 257 [aR o, aI x3] h2) (fun x5 h4 =>
    some (.inl (some (aI x5)), h4)) xT) xT) :=
  lift_of (k := 9) (rows := code_281) (cuts := cut_281) (hs := hdl_281) (r := fun R E =>
    (gfR h o 20 3).bind (fun x1 =>
    cI (E 177 [aR x1, aI p0, aI p1] h) (fun x3 h2 =>
    cI (E 257 [aR o, aI x3] h2) (fun x5 h4 =>
    some (.inl (some (aI x5)), h4)) xT) xT)) rfl rfl rfl (fun R E => rfl)
-- ChipcardhouseModel.accountAt(II)J
set_option maxRecDepth 100000 in
theorem lf_282_0 (o : Option (Nat × Nat)) (p0 : Int32) (p1 : Int32) (h : Hp) : Ru 282 0 [(0, aR o), (1, aI p0), (2, aI p1)] [] h =
    cI (Ex 253 [aR o, aI p0] h) (fun x2 h1 =>
    if x2 = 0 then
      (pf h1 o 20 8 (aI (1 : Int32))).bind (fun h3 =>
      (gfI h3 o 20 8).bind (fun x4 =>
      if x4 = 0 then
        if p1.toInt = 0 then
          (gfR h3 o 20 0).bind (fun x5 =>
          cL (Ex 144 [aR x5, aI p0] h3) (fun x7 h6 =>
          some (.inl (some (aL x7)), h6)) xT)
        else if p1.toInt = 1 then
          (gfR h3 o 20 0).bind (fun x8 =>
          cL (Ex 145 [aR x8, aI p0] h3) (fun x10 h9 =>
          some (.inl (some (aL x10)), h9)) xT)
        else if p1.toInt = 2 then
          (gfR h3 o 20 0).bind (fun x11 =>
          cL (Ex 144 [aR x11, aI p0] h3) (fun x13 h12 =>
          (gfR h12 o 20 0).bind (fun x14 =>
          cL (Ex 145 [aR x14, aI p0] h12) (fun x16 h15 =>
          some (.inl (some (aL (x13 - x16))), h15)) xT)) xT)
        else (gfR h3 o 20 0).bind (fun x17 =>
          cI (Ex 146 [aR x17, aI p0] h3) (fun x19 h18 =>
          if x19 = 0 then
            some (.inl (some (aL (0 : Int64))), h18)
          else
            some (.inl (some (aL (1 : Int64))), h18)) xT)
      else
        some (.inl (some (aL (0 : Int64))), h3)))
    else
      cI (Ex 250 [aI p1, aI (0 : Int32), aI (3 : Int32)] h1) (fun x21 h20 =>
      if x21 = 0 then
        (pf h20 o 20 8 (aI (2 : Int32))).bind (fun h22 =>
        (gfI h22 o 20 8).bind (fun x23 =>
        if x23 = 0 then
          if p1.toInt = 0 then
            (gfR h22 o 20 0).bind (fun x24 =>
            cL (Ex 144 [aR x24, aI p0] h22) (fun x26 h25 =>
            some (.inl (some (aL x26)), h25)) xT)
          else if p1.toInt = 1 then
            (gfR h22 o 20 0).bind (fun x27 =>
            cL (Ex 145 [aR x27, aI p0] h22) (fun x29 h28 =>
            some (.inl (some (aL x29)), h28)) xT)
          else if p1.toInt = 2 then
            (gfR h22 o 20 0).bind (fun x30 =>
            cL (Ex 144 [aR x30, aI p0] h22) (fun x32 h31 =>
            (gfR h31 o 20 0).bind (fun x33 =>
            cL (Ex 145 [aR x33, aI p0] h31) (fun x35 h34 =>
            some (.inl (some (aL (x32 - x35))), h34)) xT)) xT)
          else (gfR h22 o 20 0).bind (fun x36 =>
            cI (Ex 146 [aR x36, aI p0] h22) (fun x38 h37 =>
            if x38 = 0 then
              some (.inl (some (aL (0 : Int64))), h37)
            else
              some (.inl (some (aL (1 : Int64))), h37)) xT)
        else
          some (.inl (some (aL (0 : Int64))), h22)))
      else
        (pf h20 o 20 8 (aI (0 : Int32))).bind (fun h39 =>
        (gfI h39 o 20 8).bind (fun x40 =>
        if x40 = 0 then
          if p1.toInt = 0 then
            (gfR h39 o 20 0).bind (fun x41 =>
            cL (Ex 144 [aR x41, aI p0] h39) (fun x43 h42 =>
            some (.inl (some (aL x43)), h42)) xT)
          else if p1.toInt = 1 then
            (gfR h39 o 20 0).bind (fun x44 =>
            cL (Ex 145 [aR x44, aI p0] h39) (fun x46 h45 =>
            some (.inl (some (aL x46)), h45)) xT)
          else if p1.toInt = 2 then
            (gfR h39 o 20 0).bind (fun x47 =>
            cL (Ex 144 [aR x47, aI p0] h39) (fun x49 h48 =>
            (gfR h48 o 20 0).bind (fun x50 =>
            cL (Ex 145 [aR x50, aI p0] h48) (fun x52 h51 =>
            some (.inl (some (aL (x49 - x52))), h51)) xT)) xT)
          else (gfR h39 o 20 0).bind (fun x53 =>
            cI (Ex 146 [aR x53, aI p0] h39) (fun x55 h54 =>
            if x55 = 0 then
              some (.inl (some (aL (0 : Int64))), h54)
            else
              some (.inl (some (aL (1 : Int64))), h54)) xT)
        else
          some (.inl (some (aL (0 : Int64))), h39)))) xT) xT :=
  lift_of (k := 29) (rows := code_282) (cuts := cut_282) (hs := hdl_282) (r := fun R E =>
    cI (E 253 [aR o, aI p0] h) (fun x2 h1 =>
    if x2 = 0 then
      (pf h1 o 20 8 (aI (1 : Int32))).bind (fun h3 =>
      (gfI h3 o 20 8).bind (fun x4 =>
      if x4 = 0 then
        if p1.toInt = 0 then
          (gfR h3 o 20 0).bind (fun x5 =>
          cL (E 144 [aR x5, aI p0] h3) (fun x7 h6 =>
          some (.inl (some (aL x7)), h6)) xT)
        else if p1.toInt = 1 then
          (gfR h3 o 20 0).bind (fun x8 =>
          cL (E 145 [aR x8, aI p0] h3) (fun x10 h9 =>
          some (.inl (some (aL x10)), h9)) xT)
        else if p1.toInt = 2 then
          (gfR h3 o 20 0).bind (fun x11 =>
          cL (E 144 [aR x11, aI p0] h3) (fun x13 h12 =>
          (gfR h12 o 20 0).bind (fun x14 =>
          cL (E 145 [aR x14, aI p0] h12) (fun x16 h15 =>
          some (.inl (some (aL (x13 - x16))), h15)) xT)) xT)
        else (gfR h3 o 20 0).bind (fun x17 =>
          cI (E 146 [aR x17, aI p0] h3) (fun x19 h18 =>
          if x19 = 0 then
            some (.inl (some (aL (0 : Int64))), h18)
          else
            some (.inl (some (aL (1 : Int64))), h18)) xT)
      else
        some (.inl (some (aL (0 : Int64))), h3)))
    else
      cI (E 250 [aI p1, aI (0 : Int32), aI (3 : Int32)] h1) (fun x21 h20 =>
      if x21 = 0 then
        (pf h20 o 20 8 (aI (2 : Int32))).bind (fun h22 =>
        (gfI h22 o 20 8).bind (fun x23 =>
        if x23 = 0 then
          if p1.toInt = 0 then
            (gfR h22 o 20 0).bind (fun x24 =>
            cL (E 144 [aR x24, aI p0] h22) (fun x26 h25 =>
            some (.inl (some (aL x26)), h25)) xT)
          else if p1.toInt = 1 then
            (gfR h22 o 20 0).bind (fun x27 =>
            cL (E 145 [aR x27, aI p0] h22) (fun x29 h28 =>
            some (.inl (some (aL x29)), h28)) xT)
          else if p1.toInt = 2 then
            (gfR h22 o 20 0).bind (fun x30 =>
            cL (E 144 [aR x30, aI p0] h22) (fun x32 h31 =>
            (gfR h31 o 20 0).bind (fun x33 =>
            cL (E 145 [aR x33, aI p0] h31) (fun x35 h34 =>
            some (.inl (some (aL (x32 - x35))), h34)) xT)) xT)
          else (gfR h22 o 20 0).bind (fun x36 =>
            cI (E 146 [aR x36, aI p0] h22) (fun x38 h37 =>
            if x38 = 0 then
              some (.inl (some (aL (0 : Int64))), h37)
            else
              some (.inl (some (aL (1 : Int64))), h37)) xT)
        else
          some (.inl (some (aL (0 : Int64))), h22)))
      else
        (pf h20 o 20 8 (aI (0 : Int32))).bind (fun h39 =>
        (gfI h39 o 20 8).bind (fun x40 =>
        if x40 = 0 then
          if p1.toInt = 0 then
            (gfR h39 o 20 0).bind (fun x41 =>
            cL (E 144 [aR x41, aI p0] h39) (fun x43 h42 =>
            some (.inl (some (aL x43)), h42)) xT)
          else if p1.toInt = 1 then
            (gfR h39 o 20 0).bind (fun x44 =>
            cL (E 145 [aR x44, aI p0] h39) (fun x46 h45 =>
            some (.inl (some (aL x46)), h45)) xT)
          else if p1.toInt = 2 then
            (gfR h39 o 20 0).bind (fun x47 =>
            cL (E 144 [aR x47, aI p0] h39) (fun x49 h48 =>
            (gfR h48 o 20 0).bind (fun x50 =>
            cL (E 145 [aR x50, aI p0] h48) (fun x52 h51 =>
            some (.inl (some (aL (x49 - x52))), h51)) xT)) xT)
          else (gfR h39 o 20 0).bind (fun x53 =>
            cI (E 146 [aR x53, aI p0] h39) (fun x55 h54 =>
            if x55 = 0 then
              some (.inl (some (aL (0 : Int64))), h54)
            else
              some (.inl (some (aL (1 : Int64))), h54)) xT)
        else
          some (.inl (some (aL (0 : Int64))), h39)))) xT) xT) rfl rfl rfl (fun R E => rfl)
-- ChipcardhouseModel.paymentsOf(I)I
set_option maxRecDepth 100000 in
theorem lf_283_0 (o : Option (Nat × Nat)) (p0 : Int32) (h : Hp) : Ru 283 0 [(0, aR o), (1, aI p0)] [] h =
    Ru 283 4 [(0, aR o), (1, aI p0), (2, aI (0 : Int32)), (3, aI (0 : Int32))] [] h :=
  lift_of (k := 5) (rows := code_283) (cuts := cut_283) (hs := hdl_283) (r := fun R E =>
    R 4 [(0, aR o), (1, aI p0), (2, aI (0 : Int32)), (3, aI (0 : Int32))] [] h) rfl rfl rfl (fun R E => rfl)
set_option maxRecDepth 100000 in
theorem lf_283_4 (o : Option (Nat × Nat)) (v1 : Int32) (v2 : Int32) (v3 : Int32) (h : Hp) : Ru 283 4 [(0, aR o), (1, aI v1), (2, aI v2), (3, aI v3)] [] h =
    (gfR h o 20 2).bind (fun x1 =>
    (gfI h x1 19 8).bind (fun x2 =>
    if x2 ≤ v3 then
      some (.inl (some (aI v2)), h)
    else
      (gfR h o 20 2).bind (fun x3 =>
      cI (Ex 247 [aR x3, aI v3, aI (2 : Int32)] h) (fun x5 h4 =>
      if x5 = v1 then
        Ru 283 4 [(0, aR o), (1, aI v1), (2, aI (v2 + (1 : Int32))), (3, aI (v3 + (1 : Int32)))] [] h4
      else
        Ru 283 4 [(0, aR o), (1, aI v1), (2, aI (v2 + (0 : Int32))), (3, aI (v3 + (1 : Int32)))] [] h4) xT))) :=
  lift_of (k := 20) (rows := code_283) (cuts := cut_283) (hs := hdl_283) (r := fun R E =>
    (gfR h o 20 2).bind (fun x1 =>
    (gfI h x1 19 8).bind (fun x2 =>
    if x2 ≤ v3 then
      some (.inl (some (aI v2)), h)
    else
      (gfR h o 20 2).bind (fun x3 =>
      cI (E 247 [aR x3, aI v3, aI (2 : Int32)] h) (fun x5 h4 =>
      if x5 = v1 then
        R 4 [(0, aR o), (1, aI v1), (2, aI (v2 + (1 : Int32))), (3, aI (v3 + (1 : Int32)))] [] h4
      else
        R 4 [(0, aR o), (1, aI v1), (2, aI (v2 + (0 : Int32))), (3, aI (v3 + (1 : Int32)))] [] h4) xT)))) rfl rfl rfl (fun R E => rfl)
-- ChipcardhouseModel.shopAt(II)J
set_option maxRecDepth 100000 in
theorem lf_284_0 (o : Option (Nat × Nat)) (p0 : Int32) (p1 : Int32) (h : Hp) : Ru 284 0 [(0, aR o), (1, aI p0), (2, aI p1)] [] h =
    cI (Ex 254 [aR o, aI p0] h) (fun x2 h1 =>
    if x2 = 0 then
      (pf h1 o 20 8 (aI (1 : Int32))).bind (fun h3 =>
      (gfI h3 o 20 8).bind (fun x4 =>
      if x4 = 0 then
        if p1.toInt = 0 then
          (gfR h3 o 20 0).bind (fun x5 =>
          (gfR h3 x5 12 2).bind (fun x6 =>
          (gaL h3 x6 1001 p0).bind (fun x7 =>
          some (.inl (some (aL x7)), h3))))
        else if p1.toInt = 1 then
          (gfR h3 o 20 0).bind (fun x8 =>
          (gfR h3 x8 12 3).bind (fun x9 =>
          (gaL h3 x9 1001 p0).bind (fun x10 =>
          some (.inl (some (aL x10)), h3))))
        else if p1.toInt = 2 then
          cI (Ex 283 [aR o, aI p0] h3) (fun x12 h11 =>
          some (.inl (some (aL x12.toInt64)), h11)) xT
        else (gfR h3 o 20 4).bind (fun x13 =>
          cI (Ex 212 [aR x13, aI p0, aI p1] h3) (fun x15 h14 =>
          some (.inl (some (aL x15.toInt64)), h14)) xT)
      else
        some (.inl (some (aL (0 : Int64))), h3)))
    else
      cI (Ex 250 [aI p1, aI (0 : Int32), aI (5 : Int32)] h1) (fun x17 h16 =>
      if x17 = 0 then
        (pf h16 o 20 8 (aI (2 : Int32))).bind (fun h18 =>
        (gfI h18 o 20 8).bind (fun x19 =>
        if x19 = 0 then
          if p1.toInt = 0 then
            (gfR h18 o 20 0).bind (fun x20 =>
            (gfR h18 x20 12 2).bind (fun x21 =>
            (gaL h18 x21 1001 p0).bind (fun x22 =>
            some (.inl (some (aL x22)), h18))))
          else if p1.toInt = 1 then
            (gfR h18 o 20 0).bind (fun x23 =>
            (gfR h18 x23 12 3).bind (fun x24 =>
            (gaL h18 x24 1001 p0).bind (fun x25 =>
            some (.inl (some (aL x25)), h18))))
          else if p1.toInt = 2 then
            cI (Ex 283 [aR o, aI p0] h18) (fun x27 h26 =>
            some (.inl (some (aL x27.toInt64)), h26)) xT
          else (gfR h18 o 20 4).bind (fun x28 =>
            cI (Ex 212 [aR x28, aI p0, aI p1] h18) (fun x30 h29 =>
            some (.inl (some (aL x30.toInt64)), h29)) xT)
        else
          some (.inl (some (aL (0 : Int64))), h18)))
      else
        (pf h16 o 20 8 (aI (0 : Int32))).bind (fun h31 =>
        (gfI h31 o 20 8).bind (fun x32 =>
        if x32 = 0 then
          if p1.toInt = 0 then
            (gfR h31 o 20 0).bind (fun x33 =>
            (gfR h31 x33 12 2).bind (fun x34 =>
            (gaL h31 x34 1001 p0).bind (fun x35 =>
            some (.inl (some (aL x35)), h31))))
          else if p1.toInt = 1 then
            (gfR h31 o 20 0).bind (fun x36 =>
            (gfR h31 x36 12 3).bind (fun x37 =>
            (gaL h31 x37 1001 p0).bind (fun x38 =>
            some (.inl (some (aL x38)), h31))))
          else if p1.toInt = 2 then
            cI (Ex 283 [aR o, aI p0] h31) (fun x40 h39 =>
            some (.inl (some (aL x40.toInt64)), h39)) xT
          else (gfR h31 o 20 4).bind (fun x41 =>
            cI (Ex 212 [aR x41, aI p0, aI p1] h31) (fun x43 h42 =>
            some (.inl (some (aL x43.toInt64)), h42)) xT)
        else
          some (.inl (some (aL (0 : Int64))), h31)))) xT) xT :=
  lift_of (k := 26) (rows := code_284) (cuts := cut_284) (hs := hdl_284) (r := fun R E =>
    cI (E 254 [aR o, aI p0] h) (fun x2 h1 =>
    if x2 = 0 then
      (pf h1 o 20 8 (aI (1 : Int32))).bind (fun h3 =>
      (gfI h3 o 20 8).bind (fun x4 =>
      if x4 = 0 then
        if p1.toInt = 0 then
          (gfR h3 o 20 0).bind (fun x5 =>
          (gfR h3 x5 12 2).bind (fun x6 =>
          (gaL h3 x6 1001 p0).bind (fun x7 =>
          some (.inl (some (aL x7)), h3))))
        else if p1.toInt = 1 then
          (gfR h3 o 20 0).bind (fun x8 =>
          (gfR h3 x8 12 3).bind (fun x9 =>
          (gaL h3 x9 1001 p0).bind (fun x10 =>
          some (.inl (some (aL x10)), h3))))
        else if p1.toInt = 2 then
          cI (E 283 [aR o, aI p0] h3) (fun x12 h11 =>
          some (.inl (some (aL x12.toInt64)), h11)) xT
        else (gfR h3 o 20 4).bind (fun x13 =>
          cI (E 212 [aR x13, aI p0, aI p1] h3) (fun x15 h14 =>
          some (.inl (some (aL x15.toInt64)), h14)) xT)
      else
        some (.inl (some (aL (0 : Int64))), h3)))
    else
      cI (E 250 [aI p1, aI (0 : Int32), aI (5 : Int32)] h1) (fun x17 h16 =>
      if x17 = 0 then
        (pf h16 o 20 8 (aI (2 : Int32))).bind (fun h18 =>
        (gfI h18 o 20 8).bind (fun x19 =>
        if x19 = 0 then
          if p1.toInt = 0 then
            (gfR h18 o 20 0).bind (fun x20 =>
            (gfR h18 x20 12 2).bind (fun x21 =>
            (gaL h18 x21 1001 p0).bind (fun x22 =>
            some (.inl (some (aL x22)), h18))))
          else if p1.toInt = 1 then
            (gfR h18 o 20 0).bind (fun x23 =>
            (gfR h18 x23 12 3).bind (fun x24 =>
            (gaL h18 x24 1001 p0).bind (fun x25 =>
            some (.inl (some (aL x25)), h18))))
          else if p1.toInt = 2 then
            cI (E 283 [aR o, aI p0] h18) (fun x27 h26 =>
            some (.inl (some (aL x27.toInt64)), h26)) xT
          else (gfR h18 o 20 4).bind (fun x28 =>
            cI (E 212 [aR x28, aI p0, aI p1] h18) (fun x30 h29 =>
            some (.inl (some (aL x30.toInt64)), h29)) xT)
        else
          some (.inl (some (aL (0 : Int64))), h18)))
      else
        (pf h16 o 20 8 (aI (0 : Int32))).bind (fun h31 =>
        (gfI h31 o 20 8).bind (fun x32 =>
        if x32 = 0 then
          if p1.toInt = 0 then
            (gfR h31 o 20 0).bind (fun x33 =>
            (gfR h31 x33 12 2).bind (fun x34 =>
            (gaL h31 x34 1001 p0).bind (fun x35 =>
            some (.inl (some (aL x35)), h31))))
          else if p1.toInt = 1 then
            (gfR h31 o 20 0).bind (fun x36 =>
            (gfR h31 x36 12 3).bind (fun x37 =>
            (gaL h31 x37 1001 p0).bind (fun x38 =>
            some (.inl (some (aL x38)), h31))))
          else if p1.toInt = 2 then
            cI (E 283 [aR o, aI p0] h31) (fun x40 h39 =>
            some (.inl (some (aL x40.toInt64)), h39)) xT
          else (gfR h31 o 20 4).bind (fun x41 =>
            cI (E 212 [aR x41, aI p0, aI p1] h31) (fun x43 h42 =>
            some (.inl (some (aL x43.toInt64)), h42)) xT)
        else
          some (.inl (some (aL (0 : Int64))), h31)))) xT) xT) rfl rfl rfl (fun R E => rfl)
-- ChipcardhouseModel.count(I)I
set_option maxRecDepth 100000 in
theorem lf_285_0 (o : Option (Nat × Nat)) (p0 : Int32) (h : Hp) : Ru 285 0 [(0, aR o), (1, aI p0)] [] h =
    if p0.toInt = 0 then
      (gfI h o 20 5).bind (fun x1 =>
      cI (Ex 252 [aR o, aI x1] h) (fun x3 h2 =>
      some (.inl (some (aI x3)), h2)) xT)
    else if p0.toInt = 1 then
      (gfI h o 20 6).bind (fun x4 =>
      cI (Ex 252 [aR o, aI x4] h) (fun x6 h5 =>
      some (.inl (some (aI x6)), h5)) xT)
    else if p0.toInt = 2 then
      (gfR h o 20 0).bind (fun x7 =>
      (gfI h x7 12 5).bind (fun x8 =>
      cI (Ex 252 [aR o, aI x8] h) (fun x10 h9 =>
      some (.inl (some (aI x10)), h9)) xT))
    else if p0.toInt = 3 then
      (gfR h o 20 0).bind (fun x11 =>
      (gfI h x11 12 6).bind (fun x12 =>
      cI (Ex 252 [aR o, aI x12] h) (fun x14 h13 =>
      some (.inl (some (aI x14)), h13)) xT))
    else if p0.toInt = 4 then
      (gfR h o 20 2).bind (fun x15 =>
      (gfI h x15 19 6).bind (fun x16 =>
      cI (Ex 252 [aR o, aI x16] h) (fun x18 h17 =>
      some (.inl (some (aI x18)), h17)) xT))
    else if p0.toInt = 5 then
      (gfR h o 20 2).bind (fun x19 =>
      (gfI h x19 19 8).bind (fun x20 =>
      cI (Ex 252 [aR o, aI x20] h) (fun x22 h21 =>
      some (.inl (some (aI x22)), h21)) xT))
    else if p0.toInt = 6 then
      (gfR h o 20 3).bind (fun x23 =>
      (gfI h x23 14 12).bind (fun x24 =>
      cI (Ex 252 [aR o, aI x24] h) (fun x26 h25 =>
      some (.inl (some (aI x26)), h25)) xT))
    else if p0.toInt = 7 then
      (gfR h o 20 3).bind (fun x27 =>
      (gfI h x27 14 13).bind (fun x28 =>
      cI (Ex 252 [aR o, aI x28] h) (fun x30 h29 =>
      some (.inl (some (aI x30)), h29)) xT))
    else if p0.toInt = 8 then
      (gfR h o 20 4).bind (fun x31 =>
      (gfI h x31 16 4).bind (fun x32 =>
      cI (Ex 252 [aR o, aI x32] h) (fun x34 h33 =>
      some (.inl (some (aI x34)), h33)) xT))
    else if p0.toInt = 9 then
      (gfR h o 20 4).bind (fun x35 =>
      (gfI h x35 16 5).bind (fun x36 =>
      if x36 = 0 then
        cI (Ex 252 [aR o, aI (0 : Int32)] h) (fun x38 h37 =>
        some (.inl (some (aI x38)), h37)) xT
      else
        cI (Ex 252 [aR o, aI (1 : Int32)] h) (fun x40 h39 =>
        some (.inl (some (aI x40)), h39)) xT))
    else cI (Ex 251 [aR o, aI (1 : Int32)] h) (fun x42 h41 =>
      some (.inl (some (aI x42)), h41)) xT :=
  lift_of (k := 12) (rows := code_285) (cuts := cut_285) (hs := hdl_285) (r := fun R E =>
    if p0.toInt = 0 then
      (gfI h o 20 5).bind (fun x1 =>
      cI (E 252 [aR o, aI x1] h) (fun x3 h2 =>
      some (.inl (some (aI x3)), h2)) xT)
    else if p0.toInt = 1 then
      (gfI h o 20 6).bind (fun x4 =>
      cI (E 252 [aR o, aI x4] h) (fun x6 h5 =>
      some (.inl (some (aI x6)), h5)) xT)
    else if p0.toInt = 2 then
      (gfR h o 20 0).bind (fun x7 =>
      (gfI h x7 12 5).bind (fun x8 =>
      cI (E 252 [aR o, aI x8] h) (fun x10 h9 =>
      some (.inl (some (aI x10)), h9)) xT))
    else if p0.toInt = 3 then
      (gfR h o 20 0).bind (fun x11 =>
      (gfI h x11 12 6).bind (fun x12 =>
      cI (E 252 [aR o, aI x12] h) (fun x14 h13 =>
      some (.inl (some (aI x14)), h13)) xT))
    else if p0.toInt = 4 then
      (gfR h o 20 2).bind (fun x15 =>
      (gfI h x15 19 6).bind (fun x16 =>
      cI (E 252 [aR o, aI x16] h) (fun x18 h17 =>
      some (.inl (some (aI x18)), h17)) xT))
    else if p0.toInt = 5 then
      (gfR h o 20 2).bind (fun x19 =>
      (gfI h x19 19 8).bind (fun x20 =>
      cI (E 252 [aR o, aI x20] h) (fun x22 h21 =>
      some (.inl (some (aI x22)), h21)) xT))
    else if p0.toInt = 6 then
      (gfR h o 20 3).bind (fun x23 =>
      (gfI h x23 14 12).bind (fun x24 =>
      cI (E 252 [aR o, aI x24] h) (fun x26 h25 =>
      some (.inl (some (aI x26)), h25)) xT))
    else if p0.toInt = 7 then
      (gfR h o 20 3).bind (fun x27 =>
      (gfI h x27 14 13).bind (fun x28 =>
      cI (E 252 [aR o, aI x28] h) (fun x30 h29 =>
      some (.inl (some (aI x30)), h29)) xT))
    else if p0.toInt = 8 then
      (gfR h o 20 4).bind (fun x31 =>
      (gfI h x31 16 4).bind (fun x32 =>
      cI (E 252 [aR o, aI x32] h) (fun x34 h33 =>
      some (.inl (some (aI x34)), h33)) xT))
    else if p0.toInt = 9 then
      (gfR h o 20 4).bind (fun x35 =>
      (gfI h x35 16 5).bind (fun x36 =>
      if x36 = 0 then
        cI (E 252 [aR o, aI (0 : Int32)] h) (fun x38 h37 =>
        some (.inl (some (aI x38)), h37)) xT
      else
        cI (E 252 [aR o, aI (1 : Int32)] h) (fun x40 h39 =>
        some (.inl (some (aI x40)), h39)) xT))
    else cI (E 251 [aR o, aI (1 : Int32)] h) (fun x42 h41 =>
      some (.inl (some (aI x42)), h41)) xT) rfl rfl rfl (fun R E => rfl)
-- ChipcardhouseModel.fees()J
set_option maxRecDepth 100000 in
theorem lf_286_0 (o : Option (Nat × Nat)) (h : Hp) : Ru 286 0 [(0, aR o)] [] h =
    (pf h o 20 8 (aI (0 : Int32))).bind (fun h1 =>
    (gfR h1 o 20 0).bind (fun x2 =>
    (gfL h1 x2 12 7).bind (fun x3 =>
    some (.inl (some (aL x3)), h1)))) :=
  lift_of (k := 8) (rows := code_286) (cuts := cut_286) (hs := hdl_286) (r := fun R E =>
    (pf h o 20 8 (aI (0 : Int32))).bind (fun h1 =>
    (gfR h1 o 20 0).bind (fun x2 =>
    (gfL h1 x2 12 7).bind (fun x3 =>
    some (.inl (some (aL x3)), h1))))) rfl rfl rfl (fun R E => rfl)
-- ChipcardhouseModel.isGranted(I)Z
set_option maxRecDepth 100000 in
theorem lf_287_0 (o : Option (Nat × Nat)) (p0 : Int32) (h : Hp) : Ru 287 0 [(0, aR o), (1, aI p0)] [] h =
    (gfR h o 20 2).bind (fun x1 =>
    cI (Ex 247 [aR x1, aI p0, aI (0 : Int32)] h) (fun x3 h2 =>
    if x3 = 0 then
      some (.inl (some (aI (1 : Int32))), h2)
    else
      if x3 = (2 : Int32) then
        some (.inl (some (aI (1 : Int32))), h2)
      else
        some (.inl (some (aI (0 : Int32))), h2)) xT) :=
  lift_of (k := 15) (rows := code_287) (cuts := cut_287) (hs := hdl_287) (r := fun R E =>
    (gfR h o 20 2).bind (fun x1 =>
    cI (E 247 [aR x1, aI p0, aI (0 : Int32)] h) (fun x3 h2 =>
    if x3 = 0 then
      some (.inl (some (aI (1 : Int32))), h2)
    else
      if x3 = (2 : Int32) then
        some (.inl (some (aI (1 : Int32))), h2)
      else
        some (.inl (some (aI (0 : Int32))), h2)) xT)) rfl rfl rfl (fun R E => rfl)
-- ChipcardhouseModel.meanPayment(I)D
set_option maxRecDepth 100000 in
theorem lf_288_0 (o : Option (Nat × Nat)) (p0 : Int32) (h : Hp) : Ru 288 0 [(0, aR o), (1, aI p0)] [] h =
    cI (Ex 254 [aR o, aI p0] h) (fun x2 h1 =>
    if x2 = 0 then
      (pf h1 o 20 8 (aI (1 : Int32))).bind (fun h3 =>
      Ru 288 25 [(0, aR o), (1, aI p0), (2, aL (0 : Int64)), (4, aI (0 : Int32)), (5, aI (0 : Int32))] [] h3)
    else
      (pf h1 o 20 8 (aI (0 : Int32))).bind (fun h4 =>
      Ru 288 25 [(0, aR o), (1, aI p0), (2, aL (0 : Int64)), (4, aI (0 : Int32)), (5, aI (0 : Int32))] [] h4)) xT :=
  lift_of (k := 15) (rows := code_288) (cuts := cut_288) (hs := hdl_288) (r := fun R E =>
    cI (E 254 [aR o, aI p0] h) (fun x2 h1 =>
    if x2 = 0 then
      (pf h1 o 20 8 (aI (1 : Int32))).bind (fun h3 =>
      R 25 [(0, aR o), (1, aI p0), (2, aL (0 : Int64)), (4, aI (0 : Int32)), (5, aI (0 : Int32))] [] h3)
    else
      (pf h1 o 20 8 (aI (0 : Int32))).bind (fun h4 =>
      R 25 [(0, aR o), (1, aI p0), (2, aL (0 : Int64)), (4, aI (0 : Int32)), (5, aI (0 : Int32))] [] h4)) xT) rfl rfl rfl (fun R E => rfl)
set_option maxRecDepth 100000 in
theorem lf_288_25 (o : Option (Nat × Nat)) (v1 : Int32) (v2 : Int64) (v4 : Int32) (v5 : Int32) (h : Hp) : Ru 288 25 [(0, aR o), (1, aI v1), (2, aL v2), (4, aI v4), (5, aI v5)] [] h =
    (gfI h o 20 8).bind (fun x1 =>
    if x1 = 0 then
      (gfR h o 20 2).bind (fun x2 =>
      (gfI h x2 19 8).bind (fun x3 =>
      if x3 ≤ v5 then
        if v4 = 0 then
          some (.inl (some (aD 0)), h)
        else
          if (FP.ddiv (FP.l2d v2) (FP.i2d v4)) &&& 0x7fffffffffffffff ≤ 0x7ff0000000000000 then
          some (.inl (some (aD (FP.ddiv (FP.l2d v2) (FP.i2d v4)))), h)
          else none
      else
        (gfR h o 20 2).bind (fun x4 =>
        cI (Ex 247 [aR x4, aI v5, aI (2 : Int32)] h) (fun x6 h5 =>
        if x6 = v1 then
          cI (Ex 287 [aR o, aI v5] h5) (fun x8 h7 =>
          if x8 = 0 then
            Ru 288 25 [(0, aR o), (1, aI v1), (2, aL v2), (4, aI v4), (5, aI (v5 + (1 : Int32)))] [] h7
          else
            (gfR h7 o 20 2).bind (fun x9 =>
            cI (Ex 247 [aR x9, aI v5, aI (3 : Int32)] h7) (fun x11 h10 =>
            Ru 288 25 [(0, aR o), (1, aI v1), (2, aL (v2 + x11.toInt64)), (4, aI (v4 + (1 : Int32))), (5, aI (v5 + (1 : Int32)))] [] h10) xT)) xT
        else
          Ru 288 25 [(0, aR o), (1, aI v1), (2, aL v2), (4, aI v4), (5, aI (v5 + (1 : Int32)))] [] h5) xT)))
    else
      if v4 = 0 then
        some (.inl (some (aD 0)), h)
      else
        if (FP.ddiv (FP.l2d v2) (FP.i2d v4)) &&& 0x7fffffffffffffff ≤ 0x7ff0000000000000 then
        some (.inl (some (aD (FP.ddiv (FP.l2d v2) (FP.i2d v4)))), h)
        else none) :=
  lift_of (k := 32) (rows := code_288) (cuts := cut_288) (hs := hdl_288) (r := fun R E =>
    (gfI h o 20 8).bind (fun x1 =>
    if x1 = 0 then
      (gfR h o 20 2).bind (fun x2 =>
      (gfI h x2 19 8).bind (fun x3 =>
      if x3 ≤ v5 then
        if v4 = 0 then
          some (.inl (some (aD 0)), h)
        else
          if (FP.ddiv (FP.l2d v2) (FP.i2d v4)) &&& 0x7fffffffffffffff ≤ 0x7ff0000000000000 then
          some (.inl (some (aD (FP.ddiv (FP.l2d v2) (FP.i2d v4)))), h)
          else none
      else
        (gfR h o 20 2).bind (fun x4 =>
        cI (E 247 [aR x4, aI v5, aI (2 : Int32)] h) (fun x6 h5 =>
        if x6 = v1 then
          cI (E 287 [aR o, aI v5] h5) (fun x8 h7 =>
          if x8 = 0 then
            R 25 [(0, aR o), (1, aI v1), (2, aL v2), (4, aI v4), (5, aI (v5 + (1 : Int32)))] [] h7
          else
            (gfR h7 o 20 2).bind (fun x9 =>
            cI (E 247 [aR x9, aI v5, aI (3 : Int32)] h7) (fun x11 h10 =>
            R 25 [(0, aR o), (1, aI v1), (2, aL (v2 + x11.toInt64)), (4, aI (v4 + (1 : Int32))), (5, aI (v5 + (1 : Int32)))] [] h10) xT)) xT
        else
          R 25 [(0, aR o), (1, aI v1), (2, aL v2), (4, aI v4), (5, aI (v5 + (1 : Int32)))] [] h5) xT)))
    else
      if v4 = 0 then
        some (.inl (some (aD 0)), h)
      else
        if (FP.ddiv (FP.l2d v2) (FP.i2d v4)) &&& 0x7fffffffffffffff ≤ 0x7ff0000000000000 then
        some (.inl (some (aD (FP.ddiv (FP.l2d v2) (FP.i2d v4)))), h)
        else none)) rfl rfl rfl (fun R E => rfl)
-- ChipcardhouseModel.grantedShare()F
set_option maxRecDepth 100000 in
theorem lf_289_0 (o : Option (Nat × Nat)) (h : Hp) : Ru 289 0 [(0, aR o)] [] h =
    (pf h o 20 8 (aI (0 : Int32))).bind (fun h1 =>
    Ru 289 9 [(0, aR o), (1, aI (0 : Int32)), (2, aI (0 : Int32))] [] h1) :=
  lift_of (k := 8) (rows := code_289) (cuts := cut_289) (hs := hdl_289) (r := fun R E =>
    (pf h o 20 8 (aI (0 : Int32))).bind (fun h1 =>
    R 9 [(0, aR o), (1, aI (0 : Int32)), (2, aI (0 : Int32))] [] h1)) rfl rfl rfl (fun R E => rfl)
set_option maxRecDepth 100000 in
theorem lf_289_9 (o : Option (Nat × Nat)) (v1 : Int32) (v2 : Int32) (h : Hp) : Ru 289 9 [(0, aR o), (1, aI v1), (2, aI v2)] [] h =
    (gfR h o 20 2).bind (fun x1 =>
    (gfI h x1 19 8).bind (fun x2 =>
    if x2 ≤ v2 then
      (gfR h o 20 2).bind (fun x3 =>
      (gfI h x3 19 8).bind (fun x4 =>
      if x4 = 0 then
        some (.inl (some (aF 0)), h)
      else
        (gfR h o 20 2).bind (fun x5 =>
        (gfI h x5 19 8).bind (fun x6 =>
        if (FP.fdiv (FP.i2f v1) (FP.i2f x6)) &&& 0x7fffffff ≤ 0x7f800000 then
        some (.inl (some (aF (FP.fdiv (FP.i2f v1) (FP.i2f x6)))), h)
        else none))))
    else
      cI (Ex 287 [aR o, aI v2] h) (fun x8 h7 =>
      if x8 = 0 then
        Ru 289 9 [(0, aR o), (1, aI (v1 + (0 : Int32))), (2, aI (v2 + (1 : Int32)))] [] h7
      else
        Ru 289 9 [(0, aR o), (1, aI (v1 + (1 : Int32))), (2, aI (v2 + (1 : Int32)))] [] h7) xT)) :=
  lift_of (k := 18) (rows := code_289) (cuts := cut_289) (hs := hdl_289) (r := fun R E =>
    (gfR h o 20 2).bind (fun x1 =>
    (gfI h x1 19 8).bind (fun x2 =>
    if x2 ≤ v2 then
      (gfR h o 20 2).bind (fun x3 =>
      (gfI h x3 19 8).bind (fun x4 =>
      if x4 = 0 then
        some (.inl (some (aF 0)), h)
      else
        (gfR h o 20 2).bind (fun x5 =>
        (gfI h x5 19 8).bind (fun x6 =>
        if (FP.fdiv (FP.i2f v1) (FP.i2f x6)) &&& 0x7fffffff ≤ 0x7f800000 then
        some (.inl (some (aF (FP.fdiv (FP.i2f v1) (FP.i2f x6)))), h)
        else none))))
    else
      cI (E 287 [aR o, aI v2] h) (fun x8 h7 =>
      if x8 = 0 then
        R 9 [(0, aR o), (1, aI (v1 + (0 : Int32))), (2, aI (v2 + (1 : Int32)))] [] h7
      else
        R 9 [(0, aR o), (1, aI (v1 + (1 : Int32))), (2, aI (v2 + (1 : Int32)))] [] h7) xT))) rfl rfl rfl (fun R E => rfl)
-- ChipcardhouseModel.checksum()J
set_option maxRecDepth 100000 in
theorem lf_290_0 (o : Option (Nat × Nat)) (h : Hp) : Ru 290 0 [(0, aR o)] [] h =
    (pf h o 20 8 (aI (0 : Int32))).bind (fun h1 =>
    Ru 290 9 [(0, aR o), (1, aL (0 : Int64)), (3, aI (0 : Int32))] [] h1) :=
  lift_of (k := 8) (rows := code_290) (cuts := cut_290) (hs := hdl_290) (r := fun R E =>
    (pf h o 20 8 (aI (0 : Int32))).bind (fun h1 =>
    R 9 [(0, aR o), (1, aL (0 : Int64)), (3, aI (0 : Int32))] [] h1)) rfl rfl rfl (fun R E => rfl)
set_option maxRecDepth 100000 in
theorem lf_290_9 (o : Option (Nat × Nat)) (v1 : Int64) (v3 : Int32) (h : Hp) : Ru 290 9 [(0, aR o), (1, aL v1), (3, aI v3)] [] h =
    (gfR h o 20 2).bind (fun x1 =>
    (gfI h x1 19 8).bind (fun x2 =>
    if x2 ≤ v3 then
      some (.inl (some (aL v1)), h)
    else
      (gfR h o 20 2).bind (fun x3 =>
      cI (Ex 247 [aR x3, aI v3, aI (0 : Int32)] h) (fun x5 h4 =>
      (gfR h4 o 20 2).bind (fun x6 =>
      cI (Ex 247 [aR x6, aI v3, aI (3 : Int32)] h4) (fun x8 h7 =>
      (gfR h7 o 20 2).bind (fun x9 =>
      cI (Ex 247 [aR x9, aI v3, aI (4 : Int32)] h7) (fun x11 h10 =>
      (gfR h10 o 20 3).bind (fun x12 =>
      cI (Ex 179 [aR x12, aI v3] h10) (fun x14 h13 =>
      if x14 = 0 then
        Ru 290 9 [(0, aR o), (1, aL ((((((31 : Int64) * v1) + x5.toInt64) + ((7 : Int64) * x8.toInt64)) + ((3 : Int64) * x11.toInt64)) + (0 : Int64))), (3, aI (v3 + (1 : Int32)))] [] h13
      else
        Ru 290 9 [(0, aR o), (1, aL ((((((31 : Int64) * v1) + x5.toInt64) + ((7 : Int64) * x8.toInt64)) + ((3 : Int64) * x11.toInt64)) + (1000 : Int64))), (3, aI (v3 + (1 : Int32)))] [] h13) xT)) xT)) xT)) xT))) :=
  lift_of (k := 45) (rows := code_290) (cuts := cut_290) (hs := hdl_290) (r := fun R E =>
    (gfR h o 20 2).bind (fun x1 =>
    (gfI h x1 19 8).bind (fun x2 =>
    if x2 ≤ v3 then
      some (.inl (some (aL v1)), h)
    else
      (gfR h o 20 2).bind (fun x3 =>
      cI (E 247 [aR x3, aI v3, aI (0 : Int32)] h) (fun x5 h4 =>
      (gfR h4 o 20 2).bind (fun x6 =>
      cI (E 247 [aR x6, aI v3, aI (3 : Int32)] h4) (fun x8 h7 =>
      (gfR h7 o 20 2).bind (fun x9 =>
      cI (E 247 [aR x9, aI v3, aI (4 : Int32)] h7) (fun x11 h10 =>
      (gfR h10 o 20 3).bind (fun x12 =>
      cI (E 179 [aR x12, aI v3] h10) (fun x14 h13 =>
      if x14 = 0 then
        R 9 [(0, aR o), (1, aL ((((((31 : Int64) * v1) + x5.toInt64) + ((7 : Int64) * x8.toInt64)) + ((3 : Int64) * x11.toInt64)) + (0 : Int64))), (3, aI (v3 + (1 : Int32)))] [] h13
      else
        R 9 [(0, aR o), (1, aL ((((((31 : Int64) * v1) + x5.toInt64) + ((7 : Int64) * x8.toInt64)) + ((3 : Int64) * x11.toInt64)) + (1000 : Int64))), (3, aI (v3 + (1 : Int32)))] [] h13) xT)) xT)) xT)) xT)))) rfl rfl rfl (fun R E => rfl)
-- ChipcardhouseModel.isAnyUngranted()Z
set_option maxRecDepth 100000 in
theorem lf_291_0 (o : Option (Nat × Nat)) (h : Hp) : Ru 291 0 [(0, aR o)] [] h =
    Ru 291 4 [(0, aR o), (1, aI (0 : Int32)), (2, aI (0 : Int32))] [] h :=
  lift_of (k := 5) (rows := code_291) (cuts := cut_291) (hs := hdl_291) (r := fun R E =>
    R 4 [(0, aR o), (1, aI (0 : Int32)), (2, aI (0 : Int32))] [] h) rfl rfl rfl (fun R E => rfl)
set_option maxRecDepth 100000 in
theorem lf_291_4 (o : Option (Nat × Nat)) (v1 : Int32) (v2 : Int32) (h : Hp) : Ru 291 4 [(0, aR o), (1, aI v1), (2, aI v2)] [] h =
    (gfR h o 20 2).bind (fun x1 =>
    (gfI h x1 19 8).bind (fun x2 =>
    if x2 ≤ v2 then
      gz v1 (some (.inl (some (aI v1)), h))
    else
      if v1 = 0 then
        (gfR h o 20 3).bind (fun x3 =>
        cI (Ex 179 [aR x3, aI v2] h) (fun x5 h4 =>
        if x5 = 0 then
          Ru 291 4 [(0, aR o), (1, aI (0 : Int32)), (2, aI (v2 + (1 : Int32)))] [] h4
        else
          cI (Ex 287 [aR o, aI v2] h4) (fun x7 h6 =>
          if x7 = 0 then
            Ru 291 4 [(0, aR o), (1, aI (1 : Int32)), (2, aI (v2 + (1 : Int32)))] [] h6
          else
            Ru 291 4 [(0, aR o), (1, aI (0 : Int32)), (2, aI (v2 + (1 : Int32)))] [] h6) xT) xT)
      else
        Ru 291 4 [(0, aR o), (1, aI (1 : Int32)), (2, aI (v2 + (1 : Int32)))] [] h)) :=
  lift_of (k := 22) (rows := code_291) (cuts := cut_291) (hs := hdl_291) (r := fun R E =>
    (gfR h o 20 2).bind (fun x1 =>
    (gfI h x1 19 8).bind (fun x2 =>
    if x2 ≤ v2 then
      gz v1 (some (.inl (some (aI v1)), h))
    else
      if v1 = 0 then
        (gfR h o 20 3).bind (fun x3 =>
        cI (E 179 [aR x3, aI v2] h) (fun x5 h4 =>
        if x5 = 0 then
          R 4 [(0, aR o), (1, aI (0 : Int32)), (2, aI (v2 + (1 : Int32)))] [] h4
        else
          cI (E 287 [aR o, aI v2] h4) (fun x7 h6 =>
          if x7 = 0 then
            R 4 [(0, aR o), (1, aI (1 : Int32)), (2, aI (v2 + (1 : Int32)))] [] h6
          else
            R 4 [(0, aR o), (1, aI (0 : Int32)), (2, aI (v2 + (1 : Int32)))] [] h6) xT) xT)
      else
        R 4 [(0, aR o), (1, aI (1 : Int32)), (2, aI (v2 + (1 : Int32)))] [] h))) rfl rfl rfl (fun R E => rfl)
-- ChipcardhouseModel.errors()I
set_option maxRecDepth 100000 in
theorem lf_292_0 (o : Option (Nat × Nat)) (h : Hp) : Ru 292 0 [(0, aR o)] [] h =
    (gfR h o 20 3).bind (fun x1 =>
    cI (Ex 180 [aR x1] h) (fun x3 h2 =>
    if x3 = 0 then
      (gfR h2 o 20 3).bind (fun x4 =>
      cI (Ex 182 [aR x4] h2) (fun x6 h5 =>
      if x6 = 0 then
        (gfR h5 o 20 4).bind (fun x7 =>
        (gfI h5 x7 16 6).bind (fun x8 =>
        if x8 = 0 then
          cI (Ex 291 [aR o] h5) (fun x10 h9 =>
          if x10 = 0 then
            Ru 292 57 [(0, aR o)] [aI (0 : Int32), aI ((1 : Int32) + (1 : Int32))] h9
          else
            Ru 292 57 [(0, aR o)] [aI (1 : Int32), aI ((1 : Int32) + (1 : Int32))] h9) xT
        else
          Ru 292 57 [(0, aR o)] [aI (0 : Int32), aI ((1 : Int32) + (1 : Int32))] h5))
      else
        (gfR h5 o 20 4).bind (fun x11 =>
        (gfI h5 x11 16 6).bind (fun x12 =>
        if x12 = 0 then
          cI (Ex 291 [aR o] h5) (fun x14 h13 =>
          if x14 = 0 then
            Ru 292 57 [(0, aR o)] [aI (0 : Int32), aI ((1 : Int32) + (0 : Int32))] h13
          else
            Ru 292 57 [(0, aR o)] [aI (1 : Int32), aI ((1 : Int32) + (0 : Int32))] h13) xT
        else
          Ru 292 57 [(0, aR o)] [aI (0 : Int32), aI ((1 : Int32) + (0 : Int32))] h5))) xT)
    else
      (gfR h2 o 20 3).bind (fun x15 =>
      cI (Ex 182 [aR x15] h2) (fun x17 h16 =>
      if x17 = 0 then
        (gfR h16 o 20 4).bind (fun x18 =>
        (gfI h16 x18 16 6).bind (fun x19 =>
        if x19 = 0 then
          cI (Ex 291 [aR o] h16) (fun x21 h20 =>
          if x21 = 0 then
            Ru 292 57 [(0, aR o)] [aI (0 : Int32), aI ((0 : Int32) + (1 : Int32))] h20
          else
            Ru 292 57 [(0, aR o)] [aI (1 : Int32), aI ((0 : Int32) + (1 : Int32))] h20) xT
        else
          Ru 292 57 [(0, aR o)] [aI (0 : Int32), aI ((0 : Int32) + (1 : Int32))] h16))
      else
        (gfR h16 o 20 4).bind (fun x22 =>
        (gfI h16 x22 16 6).bind (fun x23 =>
        if x23 = 0 then
          cI (Ex 291 [aR o] h16) (fun x25 h24 =>
          if x25 = 0 then
            Ru 292 57 [(0, aR o)] [aI (0 : Int32), aI ((0 : Int32) + (0 : Int32))] h24
          else
            Ru 292 57 [(0, aR o)] [aI (1 : Int32), aI ((0 : Int32) + (0 : Int32))] h24) xT
        else
          Ru 292 57 [(0, aR o)] [aI (0 : Int32), aI ((0 : Int32) + (0 : Int32))] h16))) xT)) xT) :=
  lift_of (k := 27) (rows := code_292) (cuts := cut_292) (hs := hdl_292) (r := fun R E =>
    (gfR h o 20 3).bind (fun x1 =>
    cI (E 180 [aR x1] h) (fun x3 h2 =>
    if x3 = 0 then
      (gfR h2 o 20 3).bind (fun x4 =>
      cI (E 182 [aR x4] h2) (fun x6 h5 =>
      if x6 = 0 then
        (gfR h5 o 20 4).bind (fun x7 =>
        (gfI h5 x7 16 6).bind (fun x8 =>
        if x8 = 0 then
          cI (E 291 [aR o] h5) (fun x10 h9 =>
          if x10 = 0 then
            R 57 [(0, aR o)] [aI (0 : Int32), aI ((1 : Int32) + (1 : Int32))] h9
          else
            R 57 [(0, aR o)] [aI (1 : Int32), aI ((1 : Int32) + (1 : Int32))] h9) xT
        else
          R 57 [(0, aR o)] [aI (0 : Int32), aI ((1 : Int32) + (1 : Int32))] h5))
      else
        (gfR h5 o 20 4).bind (fun x11 =>
        (gfI h5 x11 16 6).bind (fun x12 =>
        if x12 = 0 then
          cI (E 291 [aR o] h5) (fun x14 h13 =>
          if x14 = 0 then
            R 57 [(0, aR o)] [aI (0 : Int32), aI ((1 : Int32) + (0 : Int32))] h13
          else
            R 57 [(0, aR o)] [aI (1 : Int32), aI ((1 : Int32) + (0 : Int32))] h13) xT
        else
          R 57 [(0, aR o)] [aI (0 : Int32), aI ((1 : Int32) + (0 : Int32))] h5))) xT)
    else
      (gfR h2 o 20 3).bind (fun x15 =>
      cI (E 182 [aR x15] h2) (fun x17 h16 =>
      if x17 = 0 then
        (gfR h16 o 20 4).bind (fun x18 =>
        (gfI h16 x18 16 6).bind (fun x19 =>
        if x19 = 0 then
          cI (E 291 [aR o] h16) (fun x21 h20 =>
          if x21 = 0 then
            R 57 [(0, aR o)] [aI (0 : Int32), aI ((0 : Int32) + (1 : Int32))] h20
          else
            R 57 [(0, aR o)] [aI (1 : Int32), aI ((0 : Int32) + (1 : Int32))] h20) xT
        else
          R 57 [(0, aR o)] [aI (0 : Int32), aI ((0 : Int32) + (1 : Int32))] h16))
      else
        (gfR h16 o 20 4).bind (fun x22 =>
        (gfI h16 x22 16 6).bind (fun x23 =>
        if x23 = 0 then
          cI (E 291 [aR o] h16) (fun x25 h24 =>
          if x25 = 0 then
            R 57 [(0, aR o)] [aI (0 : Int32), aI ((0 : Int32) + (0 : Int32))] h24
          else
            R 57 [(0, aR o)] [aI (1 : Int32), aI ((0 : Int32) + (0 : Int32))] h24) xT
        else
          R 57 [(0, aR o)] [aI (0 : Int32), aI ((0 : Int32) + (0 : Int32))] h16))) xT)) xT)) rfl rfl rfl (fun R E => rfl)
set_option maxRecDepth 100000 in
theorem lf_292_57 (o : Option (Nat × Nat)) (s0 : Int32) (s1 : Int32) (h : Hp) : Ru 292 57 [(0, aR o)] [aI s1, aI s0] h =
    (gfR h o 20 3).bind (fun x1 =>
    cI (Ex 183 [aR x1] h) (fun x3 h2 =>
    if x3 = 0 then
      (gfR h2 o 20 3).bind (fun x4 =>
      cI (Ex 184 [aR x4] h2) (fun x6 h5 =>
      if x6 = 0 then
        (gfR h5 o 20 0).bind (fun x7 =>
        cI (Ex 152 [aR x7] h5) (fun x9 h8 =>
        if x9 = 0 then
          cI (Ex 252 [aR o, aI ((((s0 + s1) + (1 : Int32)) + (1 : Int32)) + (1 : Int32))] h8) (fun x11 h10 =>
          some (.inl (some (aI x11)), h10)) xT
        else
          cI (Ex 252 [aR o, aI ((((s0 + s1) + (1 : Int32)) + (1 : Int32)) + (0 : Int32))] h8) (fun x13 h12 =>
          some (.inl (some (aI x13)), h12)) xT) xT)
      else
        (gfR h5 o 20 0).bind (fun x14 =>
        cI (Ex 152 [aR x14] h5) (fun x16 h15 =>
        if x16 = 0 then
          cI (Ex 252 [aR o, aI ((((s0 + s1) + (1 : Int32)) + (0 : Int32)) + (1 : Int32))] h15) (fun x18 h17 =>
          some (.inl (some (aI x18)), h17)) xT
        else
          cI (Ex 252 [aR o, aI ((((s0 + s1) + (1 : Int32)) + (0 : Int32)) + (0 : Int32))] h15) (fun x20 h19 =>
          some (.inl (some (aI x20)), h19)) xT) xT)) xT)
    else
      (gfR h2 o 20 3).bind (fun x21 =>
      cI (Ex 184 [aR x21] h2) (fun x23 h22 =>
      if x23 = 0 then
        (gfR h22 o 20 0).bind (fun x24 =>
        cI (Ex 152 [aR x24] h22) (fun x26 h25 =>
        if x26 = 0 then
          cI (Ex 252 [aR o, aI ((((s0 + s1) + (0 : Int32)) + (1 : Int32)) + (1 : Int32))] h25) (fun x28 h27 =>
          some (.inl (some (aI x28)), h27)) xT
        else
          cI (Ex 252 [aR o, aI ((((s0 + s1) + (0 : Int32)) + (1 : Int32)) + (0 : Int32))] h25) (fun x30 h29 =>
          some (.inl (some (aI x30)), h29)) xT) xT)
      else
        (gfR h22 o 20 0).bind (fun x31 =>
        cI (Ex 152 [aR x31] h22) (fun x33 h32 =>
        if x33 = 0 then
          cI (Ex 252 [aR o, aI ((((s0 + s1) + (0 : Int32)) + (0 : Int32)) + (1 : Int32))] h32) (fun x35 h34 =>
          some (.inl (some (aI x35)), h34)) xT
        else
          cI (Ex 252 [aR o, aI ((((s0 + s1) + (0 : Int32)) + (0 : Int32)) + (0 : Int32))] h32) (fun x37 h36 =>
          some (.inl (some (aI x37)), h36)) xT) xT)) xT)) xT) :=
  lift_of (k := 34) (rows := code_292) (cuts := cut_292) (hs := hdl_292) (r := fun R E =>
    (gfR h o 20 3).bind (fun x1 =>
    cI (E 183 [aR x1] h) (fun x3 h2 =>
    if x3 = 0 then
      (gfR h2 o 20 3).bind (fun x4 =>
      cI (E 184 [aR x4] h2) (fun x6 h5 =>
      if x6 = 0 then
        (gfR h5 o 20 0).bind (fun x7 =>
        cI (E 152 [aR x7] h5) (fun x9 h8 =>
        if x9 = 0 then
          cI (E 252 [aR o, aI ((((s0 + s1) + (1 : Int32)) + (1 : Int32)) + (1 : Int32))] h8) (fun x11 h10 =>
          some (.inl (some (aI x11)), h10)) xT
        else
          cI (E 252 [aR o, aI ((((s0 + s1) + (1 : Int32)) + (1 : Int32)) + (0 : Int32))] h8) (fun x13 h12 =>
          some (.inl (some (aI x13)), h12)) xT) xT)
      else
        (gfR h5 o 20 0).bind (fun x14 =>
        cI (E 152 [aR x14] h5) (fun x16 h15 =>
        if x16 = 0 then
          cI (E 252 [aR o, aI ((((s0 + s1) + (1 : Int32)) + (0 : Int32)) + (1 : Int32))] h15) (fun x18 h17 =>
          some (.inl (some (aI x18)), h17)) xT
        else
          cI (E 252 [aR o, aI ((((s0 + s1) + (1 : Int32)) + (0 : Int32)) + (0 : Int32))] h15) (fun x20 h19 =>
          some (.inl (some (aI x20)), h19)) xT) xT)) xT)
    else
      (gfR h2 o 20 3).bind (fun x21 =>
      cI (E 184 [aR x21] h2) (fun x23 h22 =>
      if x23 = 0 then
        (gfR h22 o 20 0).bind (fun x24 =>
        cI (E 152 [aR x24] h22) (fun x26 h25 =>
        if x26 = 0 then
          cI (E 252 [aR o, aI ((((s0 + s1) + (0 : Int32)) + (1 : Int32)) + (1 : Int32))] h25) (fun x28 h27 =>
          some (.inl (some (aI x28)), h27)) xT
        else
          cI (E 252 [aR o, aI ((((s0 + s1) + (0 : Int32)) + (1 : Int32)) + (0 : Int32))] h25) (fun x30 h29 =>
          some (.inl (some (aI x30)), h29)) xT) xT)
      else
        (gfR h22 o 20 0).bind (fun x31 =>
        cI (E 152 [aR x31] h22) (fun x33 h32 =>
        if x33 = 0 then
          cI (E 252 [aR o, aI ((((s0 + s1) + (0 : Int32)) + (0 : Int32)) + (1 : Int32))] h32) (fun x35 h34 =>
          some (.inl (some (aI x35)), h34)) xT
        else
          cI (E 252 [aR o, aI ((((s0 + s1) + (0 : Int32)) + (0 : Int32)) + (0 : Int32))] h32) (fun x37 h36 =>
          some (.inl (some (aI x37)), h36)) xT) xT)) xT)) xT)) rfl rfl rfl (fun R E => rfl)
-- ChipcardhouseLaw.type(LChipcardhouse;J[J)I
set_option maxRecDepth 100000 in
theorem lf_293_0 (p0 : Option (Nat × Nat)) (p1 : Int64) (p2 : Option (Nat × Nat)) (h : Hp) : Ru 293 0 [(0, aR p0), (1, aL p1), (3, aR p2)] [] h =
    cI (Ex 77 [aR p0, aL p1] h) (fun x2 h1 =>
    (pa h1 p2 1001 (0 : Int32) (aL x2.toInt64)).bind (fun h3 =>
    some (.inl (some (aI (0 : Int32))), h3))) (fun e h => xif e 30 (some (.inl (some (aI (1 : Int32))), (hX h e))) (xif e 31 (some (.inl (some (aI (2 : Int32))), (hX h e))) (xT e h))) :=
  lift_of (k := 11) (rows := code_293) (cuts := cut_293) (hs := hdl_293) (r := fun R E =>
    cI (E 77 [aR p0, aL p1] h) (fun x2 h1 =>
    (pa h1 p2 1001 (0 : Int32) (aL x2.toInt64)).bind (fun h3 =>
    some (.inl (some (aI (0 : Int32))), h3))) (fun e h => xif e 30 (some (.inl (some (aI (1 : Int32))), (hX h e))) (xif e 31 (some (.inl (some (aI (2 : Int32))), (hX h e))) (xT e h)))) rfl rfl rfl (fun R E => rfl)
-- ChipcardhouseLaw.play(LChipcardhouse;[J)I
set_option maxRecDepth 100000 in
theorem lf_294_0 (p0 : Option (Nat × Nat)) (p1 : Option (Nat × Nat)) (h : Hp) : Ru 294 0 [(0, aR p0), (1, aR p1)] [] h =
    cI (Ex 79 [aR p0] h) (fun x2 h1 =>
    (pa h1 p1 1001 (0 : Int32) (aL x2.toInt64)).bind (fun h3 =>
    some (.inl (some (aI (0 : Int32))), h3))) (fun e h => xif e 30 (some (.inl (some (aI (1 : Int32))), (hX h e))) (xT e h)) :=
  lift_of (k := 10) (rows := code_294) (cuts := cut_294) (hs := hdl_294) (r := fun R E =>
    cI (E 79 [aR p0] h) (fun x2 h1 =>
    (pa h1 p1 1001 (0 : Int32) (aL x2.toInt64)).bind (fun h3 =>
    some (.inl (some (aI (0 : Int32))), h3))) (fun e h => xif e 30 (some (.inl (some (aI (1 : Int32))), (hX h e))) (xT e h))) rfl rfl rfl (fun R E => rfl)
-- ChipcardhouseLaw.account(LChipcardhouse;I[J)I
set_option maxRecDepth 100000 in
theorem lf_295_0 (p0 : Option (Nat × Nat)) (p1 : Int32) (p2 : Option (Nat × Nat)) (h : Hp) : Ru 295 0 [(0, aR p0), (1, aI p1), (2, aR p2)] [] h =
    cI (Ex 82 [aR p0, aI p1] h) (fun x2 h1 =>
    (pa h1 p2 1001 (0 : Int32) (aL x2.toInt64)).bind (fun h3 =>
    some (.inl (some (aI (0 : Int32))), h3))) (fun e h => xif e 30 (some (.inl (some (aI (1 : Int32))), (hX h e))) (xif e 31 (some (.inl (some (aI (2 : Int32))), (hX h e))) (xT e h))) :=
  lift_of (k := 11) (rows := code_295) (cuts := cut_295) (hs := hdl_295) (r := fun R E =>
    cI (E 82 [aR p0, aI p1] h) (fun x2 h1 =>
    (pa h1 p2 1001 (0 : Int32) (aL x2.toInt64)).bind (fun h3 =>
    some (.inl (some (aI (0 : Int32))), h3))) (fun e h => xif e 30 (some (.inl (some (aI (1 : Int32))), (hX h e))) (xif e 31 (some (.inl (some (aI (2 : Int32))), (hX h e))) (xT e h)))) rfl rfl rfl (fun R E => rfl)
-- ChipcardhouseLaw.shop(LChipcardhouse;II[J)I
set_option maxRecDepth 100000 in
theorem lf_296_0 (p0 : Option (Nat × Nat)) (p1 : Int32) (p2 : Int32) (p3 : Option (Nat × Nat)) (h : Hp) : Ru 296 0 [(0, aR p0), (1, aI p1), (2, aI p2), (3, aR p3)] [] h =
    cI (Ex 85 [aR p0, aI p1, aI p2] h) (fun x2 h1 =>
    (pa h1 p3 1001 (0 : Int32) (aL x2.toInt64)).bind (fun h3 =>
    some (.inl (some (aI (0 : Int32))), h3))) (fun e h => xif e 30 (some (.inl (some (aI (1 : Int32))), (hX h e))) (xif e 31 (some (.inl (some (aI (2 : Int32))), (hX h e))) (xT e h))) :=
  lift_of (k := 12) (rows := code_296) (cuts := cut_296) (hs := hdl_296) (r := fun R E =>
    cI (E 85 [aR p0, aI p1, aI p2] h) (fun x2 h1 =>
    (pa h1 p3 1001 (0 : Int32) (aL x2.toInt64)).bind (fun h3 =>
    some (.inl (some (aI (0 : Int32))), h3))) (fun e h => xif e 30 (some (.inl (some (aI (1 : Int32))), (hX h e))) (xif e 31 (some (.inl (some (aI (2 : Int32))), (hX h e))) (xT e h)))) rfl rfl rfl (fun R E => rfl)
-- ChipcardhouseLaw.card(LChipcardhouse;IIII[J)I
set_option maxRecDepth 100000 in
theorem lf_297_0 (p0 : Option (Nat × Nat)) (p1 : Int32) (p2 : Int32) (p3 : Int32) (p4 : Int32) (p5 : Option (Nat × Nat)) (h : Hp) : Ru 297 0 [(0, aR p0), (1, aI p1), (2, aI p2), (3, aI p3), (4, aI p4), (5, aR p5)] [] h =
    cI (Ex 88 [aR p0, aI p1, aI p2, aI p3, aI p4] h) (fun x2 h1 =>
    (pa h1 p5 1001 (0 : Int32) (aL x2.toInt64)).bind (fun h3 =>
    some (.inl (some (aI (0 : Int32))), h3))) (fun e h => xif e 32 (some (.inl (some (aI (1 : Int32))), (hX h e))) (xif e 30 (some (.inl (some (aI (2 : Int32))), (hX h e))) (xif e 31 (some (.inl (some (aI (3 : Int32))), (hX h e))) (xT e h)))) :=
  lift_of (k := 14) (rows := code_297) (cuts := cut_297) (hs := hdl_297) (r := fun R E =>
    cI (E 88 [aR p0, aI p1, aI p2, aI p3, aI p4] h) (fun x2 h1 =>
    (pa h1 p5 1001 (0 : Int32) (aL x2.toInt64)).bind (fun h3 =>
    some (.inl (some (aI (0 : Int32))), h3))) (fun e h => xif e 32 (some (.inl (some (aI (1 : Int32))), (hX h e))) (xif e 30 (some (.inl (some (aI (2 : Int32))), (hX h e))) (xif e 31 (some (.inl (some (aI (3 : Int32))), (hX h e))) (xT e h))))) rfl rfl rfl (fun R E => rfl)
-- ChipcardhouseLaw.setHouse(LChipcardhouse;III[J)I
set_option maxRecDepth 100000 in
theorem lf_298_0 (p0 : Option (Nat × Nat)) (p1 : Int32) (p2 : Int32) (p3 : Int32) (p4 : Option (Nat × Nat)) (h : Hp) : Ru 298 0 [(0, aR p0), (1, aI p1), (2, aI p2), (3, aI p3), (4, aR p4)] [] h =
    cI (Ex 91 [aR p0, aI p1, aI p2, aI p3] h) (fun x2 h1 =>
    (pa h1 p4 1001 (0 : Int32) (aL x2.toInt64)).bind (fun h3 =>
    some (.inl (some (aI (0 : Int32))), h3))) (fun e h => xif e 30 (some (.inl (some (aI (1 : Int32))), (hX h e))) (xT e h)) :=
  lift_of (k := 13) (rows := code_298) (cuts := cut_298) (hs := hdl_298) (r := fun R E =>
    cI (E 91 [aR p0, aI p1, aI p2, aI p3] h) (fun x2 h1 =>
    (pa h1 p4 1001 (0 : Int32) (aL x2.toInt64)).bind (fun h3 =>
    some (.inl (some (aI (0 : Int32))), h3))) (fun e h => xif e 30 (some (.inl (some (aI (1 : Int32))), (hX h e))) (xT e h))) rfl rfl rfl (fun R E => rfl)
-- ChipcardhouseLaw.pay(LChipcardhouse;IIII[J)I
set_option maxRecDepth 100000 in
theorem lf_299_0 (p0 : Option (Nat × Nat)) (p1 : Int32) (p2 : Int32) (p3 : Int32) (p4 : Int32) (p5 : Option (Nat × Nat)) (h : Hp) : Ru 299 0 [(0, aR p0), (1, aI p1), (2, aI p2), (3, aI p3), (4, aI p4), (5, aR p5)] [] h =
    cI (Ex 94 [aR p0, aI p1, aI p2, aI p3, aI p4] h) (fun x2 h1 =>
    (pa h1 p5 1001 (0 : Int32) (aL x2.toInt64)).bind (fun h3 =>
    some (.inl (some (aI (0 : Int32))), h3))) (fun e h => xif e 32 (some (.inl (some (aI (1 : Int32))), (hX h e))) (xif e 30 (some (.inl (some (aI (2 : Int32))), (hX h e))) (xT e h))) :=
  lift_of (k := 14) (rows := code_299) (cuts := cut_299) (hs := hdl_299) (r := fun R E =>
    cI (E 94 [aR p0, aI p1, aI p2, aI p3, aI p4] h) (fun x2 h1 =>
    (pa h1 p5 1001 (0 : Int32) (aL x2.toInt64)).bind (fun h3 =>
    some (.inl (some (aI (0 : Int32))), h3))) (fun e h => xif e 32 (some (.inl (some (aI (1 : Int32))), (hX h e))) (xif e 30 (some (.inl (some (aI (2 : Int32))), (hX h e))) (xT e h)))) rfl rfl rfl (fun R E => rfl)
-- ChipcardhouseLaw.sends(LChipcardhouse;I[J)I
set_option maxRecDepth 100000 in
theorem lf_300_0 (p0 : Option (Nat × Nat)) (p1 : Int32) (p2 : Option (Nat × Nat)) (h : Hp) : Ru 300 0 [(0, aR p0), (1, aI p1), (2, aR p2)] [] h =
    cI (Ex 97 [aR p0, aI p1] h) (fun x2 h1 =>
    (pa h1 p2 1001 (0 : Int32) (aL x2.toInt64)).bind (fun h3 =>
    some (.inl (some (aI (0 : Int32))), h3))) (fun e h => xif e 32 (some (.inl (some (aI (1 : Int32))), (hX h e))) (xT e h)) :=
  lift_of (k := 11) (rows := code_300) (cuts := cut_300) (hs := hdl_300) (r := fun R E =>
    cI (E 97 [aR p0, aI p1] h) (fun x2 h1 =>
    (pa h1 p2 1001 (0 : Int32) (aL x2.toInt64)).bind (fun h3 =>
    some (.inl (some (aI (0 : Int32))), h3))) (fun e h => xif e 32 (some (.inl (some (aI (1 : Int32))), (hX h e))) (xT e h))) rfl rfl rfl (fun R E => rfl)
-- ChipcardhouseLaw.backMoney(LChipcardhouse;III[J)I
set_option maxRecDepth 100000 in
theorem lf_301_0 (p0 : Option (Nat × Nat)) (p1 : Int32) (p2 : Int32) (p3 : Int32) (p4 : Option (Nat × Nat)) (h : Hp) : Ru 301 0 [(0, aR p0), (1, aI p1), (2, aI p2), (3, aI p3), (4, aR p4)] [] h =
    cI (Ex 99 [aR p0, aI p1, aI p2, aI p3] h) (fun x2 h1 =>
    (pa h1 p4 1001 (0 : Int32) (aL x2.toInt64)).bind (fun h3 =>
    some (.inl (some (aI (0 : Int32))), h3))) (fun e h => xif e 32 (some (.inl (some (aI (1 : Int32))), (hX h e))) (xif e 30 (some (.inl (some (aI (2 : Int32))), (hX h e))) (xif e 31 (some (.inl (some (aI (3 : Int32))), (hX h e))) (xT e h)))) :=
  lift_of (k := 13) (rows := code_301) (cuts := cut_301) (hs := hdl_301) (r := fun R E =>
    cI (E 99 [aR p0, aI p1, aI p2, aI p3] h) (fun x2 h1 =>
    (pa h1 p4 1001 (0 : Int32) (aL x2.toInt64)).bind (fun h3 =>
    some (.inl (some (aI (0 : Int32))), h3))) (fun e h => xif e 32 (some (.inl (some (aI (1 : Int32))), (hX h e))) (xif e 30 (some (.inl (some (aI (2 : Int32))), (hX h e))) (xif e 31 (some (.inl (some (aI (3 : Int32))), (hX h e))) (xT e h))))) rfl rfl rfl (fun R E => rfl)
-- ChipcardhouseLaw.forge(LChipcardhouse;III[J)I
set_option maxRecDepth 100000 in
theorem lf_302_0 (p0 : Option (Nat × Nat)) (p1 : Int32) (p2 : Int32) (p3 : Int32) (p4 : Option (Nat × Nat)) (h : Hp) : Ru 302 0 [(0, aR p0), (1, aI p1), (2, aI p2), (3, aI p3), (4, aR p4)] [] h =
    cI (Ex 102 [aR p0, aI p1, aI p2, aI p3] h) (fun x2 h1 =>
    (pa h1 p4 1001 (0 : Int32) (aL x2.toInt64)).bind (fun h3 =>
    some (.inl (some (aI (0 : Int32))), h3))) (fun e h => xif e 32 (some (.inl (some (aI (1 : Int32))), (hX h e))) (xif e 30 (some (.inl (some (aI (2 : Int32))), (hX h e))) (xT e h))) :=
  lift_of (k := 13) (rows := code_302) (cuts := cut_302) (hs := hdl_302) (r := fun R E =>
    cI (E 102 [aR p0, aI p1, aI p2, aI p3] h) (fun x2 h1 =>
    (pa h1 p4 1001 (0 : Int32) (aL x2.toInt64)).bind (fun h3 =>
    some (.inl (some (aI (0 : Int32))), h3))) (fun e h => xif e 32 (some (.inl (some (aI (1 : Int32))), (hX h e))) (xif e 30 (some (.inl (some (aI (2 : Int32))), (hX h e))) (xT e h)))) rfl rfl rfl (fun R E => rfl)
-- ChipcardhouseLaw.passes(LChipcardhouse;I[J)I
set_option maxRecDepth 100000 in
theorem lf_303_0 (p0 : Option (Nat × Nat)) (p1 : Int32) (p2 : Option (Nat × Nat)) (h : Hp) : Ru 303 0 [(0, aR p0), (1, aI p1), (2, aR p2)] [] h =
    cI (Ex 104 [aR p0, aI p1] h) (fun x2 h1 =>
    (pa h1 p2 1001 (0 : Int32) (aL x2.toInt64)).bind (fun h3 =>
    some (.inl (some (aI (0 : Int32))), h3))) (fun e h => xif e 30 (some (.inl (some (aI (1 : Int32))), (hX h e))) (xif e 31 (some (.inl (some (aI (2 : Int32))), (hX h e))) (xT e h))) :=
  lift_of (k := 11) (rows := code_303) (cuts := cut_303) (hs := hdl_303) (r := fun R E =>
    cI (E 104 [aR p0, aI p1] h) (fun x2 h1 =>
    (pa h1 p2 1001 (0 : Int32) (aL x2.toInt64)).bind (fun h3 =>
    some (.inl (some (aI (0 : Int32))), h3))) (fun e h => xif e 30 (some (.inl (some (aI (1 : Int32))), (hX h e))) (xif e 31 (some (.inl (some (aI (2 : Int32))), (hX h e))) (xT e h)))) rfl rfl rfl (fun R E => rfl)
-- ChipcardhouseLaw.faults(LChipcardhouse;IIII[J)I
set_option maxRecDepth 100000 in
theorem lf_304_0 (p0 : Option (Nat × Nat)) (p1 : Int32) (p2 : Int32) (p3 : Int32) (p4 : Int32) (p5 : Option (Nat × Nat)) (h : Hp) : Ru 304 0 [(0, aR p0), (1, aI p1), (2, aI p2), (3, aI p3), (4, aI p4), (5, aR p5)] [] h =
    cI (Ex 108 [aR p0, aI p1, aI p2, aI p3, aI p4] h) (fun x2 h1 =>
    (pa h1 p5 1001 (0 : Int32) (aL x2.toInt64)).bind (fun h3 =>
    some (.inl (some (aI (0 : Int32))), h3))) (fun e h => xif e 32 (some (.inl (some (aI (1 : Int32))), (hX h e))) (xif e 30 (some (.inl (some (aI (2 : Int32))), (hX h e))) (xT e h))) :=
  lift_of (k := 14) (rows := code_304) (cuts := cut_304) (hs := hdl_304) (r := fun R E =>
    cI (E 108 [aR p0, aI p1, aI p2, aI p3, aI p4] h) (fun x2 h1 =>
    (pa h1 p5 1001 (0 : Int32) (aL x2.toInt64)).bind (fun h3 =>
    some (.inl (some (aI (0 : Int32))), h3))) (fun e h => xif e 32 (some (.inl (some (aI (1 : Int32))), (hX h e))) (xif e 30 (some (.inl (some (aI (2 : Int32))), (hX h e))) (xT e h)))) rfl rfl rfl (fun R E => rfl)
-- ChipcardhouseLaw.tells(LChipcardhouse;II[J)I
set_option maxRecDepth 100000 in
theorem lf_305_0 (p0 : Option (Nat × Nat)) (p1 : Int32) (p2 : Int32) (p3 : Option (Nat × Nat)) (h : Hp) : Ru 305 0 [(0, aR p0), (1, aI p1), (2, aI p2), (3, aR p3)] [] h =
    cI (Ex 113 [aR p0, aI p1, aI p2] h) (fun x2 h1 =>
    (pa h1 p3 1001 (0 : Int32) (aL x2.toInt64)).bind (fun h3 =>
    some (.inl (some (aI (0 : Int32))), h3))) (fun e h => xif e 32 (some (.inl (some (aI (1 : Int32))), (hX h e))) (xif e 30 (some (.inl (some (aI (2 : Int32))), (hX h e))) (xT e h))) :=
  lift_of (k := 12) (rows := code_305) (cuts := cut_305) (hs := hdl_305) (r := fun R E =>
    cI (E 113 [aR p0, aI p1, aI p2] h) (fun x2 h1 =>
    (pa h1 p3 1001 (0 : Int32) (aL x2.toInt64)).bind (fun h3 =>
    some (.inl (some (aI (0 : Int32))), h3))) (fun e h => xif e 32 (some (.inl (some (aI (1 : Int32))), (hX h e))) (xif e 30 (some (.inl (some (aI (2 : Int32))), (hX h e))) (xT e h)))) rfl rfl rfl (fun R E => rfl)
-- ChipcardhouseLaw.stolen(LChipcardhouse;I[J)I
set_option maxRecDepth 100000 in
theorem lf_306_0 (p0 : Option (Nat × Nat)) (p1 : Int32) (p2 : Option (Nat × Nat)) (h : Hp) : Ru 306 0 [(0, aR p0), (1, aI p1), (2, aR p2)] [] h =
    cI (Ex 116 [aR p0, aI p1] h) (fun x2 h1 =>
    if x2 = 0 then
      (pa h1 p2 1001 (0 : Int32) (aL (0 : Int64))).bind (fun h3 =>
      some (.inl (some (aI (0 : Int32))), h3))
    else
      (pa h1 p2 1001 (0 : Int32) (aL (1 : Int64))).bind (fun h4 =>
      some (.inl (some (aI (0 : Int32))), h4))) (fun e h => xif e 32 (some (.inl (some (aI (1 : Int32))), (hX h e))) (xT e h)) :=
  lift_of (k := 13) (rows := code_306) (cuts := cut_306) (hs := hdl_306) (r := fun R E =>
    cI (E 116 [aR p0, aI p1] h) (fun x2 h1 =>
    if x2 = 0 then
      (pa h1 p2 1001 (0 : Int32) (aL (0 : Int64))).bind (fun h3 =>
      some (.inl (some (aI (0 : Int32))), h3))
    else
      (pa h1 p2 1001 (0 : Int32) (aL (1 : Int64))).bind (fun h4 =>
      some (.inl (some (aI (0 : Int32))), h4))) (fun e h => xif e 32 (some (.inl (some (aI (1 : Int32))), (hX h e))) (xT e h))) rfl rfl rfl (fun R E => rfl)
-- ChipcardhouseLaw.freeze(LChipcardhouse;IZ[J)I
set_option maxRecDepth 100000 in
theorem lf_307_0 (p0 : Option (Nat × Nat)) (p1 : Int32) (p2 : Int32) (p3 : Option (Nat × Nat)) (h : Hp) : Ru 307 0 [(0, aR p0), (1, aI p1), (2, aI p2), (3, aR p3)] [] h =
    cI (Ex 118 [aR p0, aI p1, aI p2] h) (fun x2 h1 =>
    if x2 = 0 then
      (pa h1 p3 1001 (0 : Int32) (aL (0 : Int64))).bind (fun h3 =>
      some (.inl (some (aI (0 : Int32))), h3))
    else
      (pa h1 p3 1001 (0 : Int32) (aL (1 : Int64))).bind (fun h4 =>
      some (.inl (some (aI (0 : Int32))), h4))) (fun e h => xif e 32 (some (.inl (some (aI (1 : Int32))), (hX h e))) (xT e h)) :=
  lift_of (k := 14) (rows := code_307) (cuts := cut_307) (hs := hdl_307) (r := fun R E =>
    cI (E 118 [aR p0, aI p1, aI p2] h) (fun x2 h1 =>
    if x2 = 0 then
      (pa h1 p3 1001 (0 : Int32) (aL (0 : Int64))).bind (fun h3 =>
      some (.inl (some (aI (0 : Int32))), h3))
    else
      (pa h1 p3 1001 (0 : Int32) (aL (1 : Int64))).bind (fun h4 =>
      some (.inl (some (aI (0 : Int32))), h4))) (fun e h => xif e 32 (some (.inl (some (aI (1 : Int32))), (hX h e))) (xT e h))) rfl rfl rfl (fun R E => rfl)
-- ChipcardhouseLaw.dispute(LChipcardhouse;I[J)I
set_option maxRecDepth 100000 in
theorem lf_308_0 (p0 : Option (Nat × Nat)) (p1 : Int32) (p2 : Option (Nat × Nat)) (h : Hp) : Ru 308 0 [(0, aR p0), (1, aI p1), (2, aR p2)] [] h =
    cI (Ex 120 [aR p0, aI p1] h) (fun x2 h1 =>
    (pa h1 p2 1001 (0 : Int32) (aL x2.toInt64)).bind (fun h3 =>
    some (.inl (some (aI (0 : Int32))), h3))) (fun e h => xif e 32 (some (.inl (some (aI (1 : Int32))), (hX h e))) (xif e 31 (some (.inl (some (aI (2 : Int32))), (hX h e))) (xT e h))) :=
  lift_of (k := 11) (rows := code_308) (cuts := cut_308) (hs := hdl_308) (r := fun R E =>
    cI (E 120 [aR p0, aI p1] h) (fun x2 h1 =>
    (pa h1 p2 1001 (0 : Int32) (aL x2.toInt64)).bind (fun h3 =>
    some (.inl (some (aI (0 : Int32))), h3))) (fun e h => xif e 32 (some (.inl (some (aI (1 : Int32))), (hX h e))) (xif e 31 (some (.inl (some (aI (2 : Int32))), (hX h e))) (xT e h)))) rfl rfl rfl (fun R E => rfl)
-- ChipcardhouseLaw.cardAt(LChipcardhouse;II[J)I
set_option maxRecDepth 100000 in
theorem lf_309_0 (p0 : Option (Nat × Nat)) (p1 : Int32) (p2 : Int32) (p3 : Option (Nat × Nat)) (h : Hp) : Ru 309 0 [(0, aR p0), (1, aI p1), (2, aI p2), (3, aR p3)] [] h =
    cI (Ex 125 [aR p0, aI p1, aI p2] h) (fun x2 h1 =>
    (pa h1 p3 1001 (0 : Int32) (aL x2.toInt64)).bind (fun h3 =>
    some (.inl (some (aI (0 : Int32))), h3))) (fun e h => xif e 32 (some (.inl (some (aI (1 : Int32))), (hX h e))) (xif e 30 (some (.inl (some (aI (2 : Int32))), (hX h e))) (xT e h))) :=
  lift_of (k := 12) (rows := code_309) (cuts := cut_309) (hs := hdl_309) (r := fun R E =>
    cI (E 125 [aR p0, aI p1, aI p2] h) (fun x2 h1 =>
    (pa h1 p3 1001 (0 : Int32) (aL x2.toInt64)).bind (fun h3 =>
    some (.inl (some (aI (0 : Int32))), h3))) (fun e h => xif e 32 (some (.inl (some (aI (1 : Int32))), (hX h e))) (xif e 30 (some (.inl (some (aI (2 : Int32))), (hX h e))) (xT e h)))) rfl rfl rfl (fun R E => rfl)
-- ChipcardhouseLaw.paymentAt(LChipcardhouse;II[J)I
set_option maxRecDepth 100000 in
theorem lf_310_0 (p0 : Option (Nat × Nat)) (p1 : Int32) (p2 : Int32) (p3 : Option (Nat × Nat)) (h : Hp) : Ru 310 0 [(0, aR p0), (1, aI p1), (2, aI p2), (3, aR p3)] [] h =
    cI (Ex 126 [aR p0, aI p1, aI p2] h) (fun x2 h1 =>
    (pa h1 p3 1001 (0 : Int32) (aL x2.toInt64)).bind (fun h3 =>
    some (.inl (some (aI (0 : Int32))), h3))) (fun e h => xif e 32 (some (.inl (some (aI (1 : Int32))), (hX h e))) (xif e 30 (some (.inl (some (aI (2 : Int32))), (hX h e))) (xT e h))) :=
  lift_of (k := 12) (rows := code_310) (cuts := cut_310) (hs := hdl_310) (r := fun R E =>
    cI (E 126 [aR p0, aI p1, aI p2] h) (fun x2 h1 =>
    (pa h1 p3 1001 (0 : Int32) (aL x2.toInt64)).bind (fun h3 =>
    some (.inl (some (aI (0 : Int32))), h3))) (fun e h => xif e 32 (some (.inl (some (aI (1 : Int32))), (hX h e))) (xif e 30 (some (.inl (some (aI (2 : Int32))), (hX h e))) (xT e h)))) rfl rfl rfl (fun R E => rfl)
-- ChipcardhouseLaw.knows(LChipcardhouse;II[J)I
set_option maxRecDepth 100000 in
theorem lf_311_0 (p0 : Option (Nat × Nat)) (p1 : Int32) (p2 : Int32) (p3 : Option (Nat × Nat)) (h : Hp) : Ru 311 0 [(0, aR p0), (1, aI p1), (2, aI p2), (3, aR p3)] [] h =
    cI (Ex 127 [aR p0, aI p1, aI p2] h) (fun x2 h1 =>
    (pa h1 p3 1001 (0 : Int32) (aL x2.toInt64)).bind (fun h3 =>
    some (.inl (some (aI (0 : Int32))), h3))) (fun e h => xif e 32 (some (.inl (some (aI (1 : Int32))), (hX h e))) (xif e 30 (some (.inl (some (aI (2 : Int32))), (hX h e))) (xT e h))) :=
  lift_of (k := 12) (rows := code_311) (cuts := cut_311) (hs := hdl_311) (r := fun R E =>
    cI (E 127 [aR p0, aI p1, aI p2] h) (fun x2 h1 =>
    (pa h1 p3 1001 (0 : Int32) (aL x2.toInt64)).bind (fun h3 =>
    some (.inl (some (aI (0 : Int32))), h3))) (fun e h => xif e 32 (some (.inl (some (aI (1 : Int32))), (hX h e))) (xif e 30 (some (.inl (some (aI (2 : Int32))), (hX h e))) (xT e h)))) rfl rfl rfl (fun R E => rfl)
-- ChipcardhouseLaw.accountAt(LChipcardhouse;II[J)I
set_option maxRecDepth 100000 in
theorem lf_312_0 (p0 : Option (Nat × Nat)) (p1 : Int32) (p2 : Int32) (p3 : Option (Nat × Nat)) (h : Hp) : Ru 312 0 [(0, aR p0), (1, aI p1), (2, aI p2), (3, aR p3)] [] h =
    cL (Ex 128 [aR p0, aI p1, aI p2] h) (fun x2 h1 =>
    (pa h1 p3 1001 (0 : Int32) (aL x2)).bind (fun h3 =>
    some (.inl (some (aI (0 : Int32))), h3))) (fun e h => xif e 32 (some (.inl (some (aI (1 : Int32))), (hX h e))) (xif e 30 (some (.inl (some (aI (2 : Int32))), (hX h e))) (xT e h))) :=
  lift_of (k := 11) (rows := code_312) (cuts := cut_312) (hs := hdl_312) (r := fun R E =>
    cL (E 128 [aR p0, aI p1, aI p2] h) (fun x2 h1 =>
    (pa h1 p3 1001 (0 : Int32) (aL x2)).bind (fun h3 =>
    some (.inl (some (aI (0 : Int32))), h3))) (fun e h => xif e 32 (some (.inl (some (aI (1 : Int32))), (hX h e))) (xif e 30 (some (.inl (some (aI (2 : Int32))), (hX h e))) (xT e h)))) rfl rfl rfl (fun R E => rfl)
-- ChipcardhouseLaw.shopAt(LChipcardhouse;II[J)I
set_option maxRecDepth 100000 in
theorem lf_313_0 (p0 : Option (Nat × Nat)) (p1 : Int32) (p2 : Int32) (p3 : Option (Nat × Nat)) (h : Hp) : Ru 313 0 [(0, aR p0), (1, aI p1), (2, aI p2), (3, aR p3)] [] h =
    cL (Ex 129 [aR p0, aI p1, aI p2] h) (fun x2 h1 =>
    (pa h1 p3 1001 (0 : Int32) (aL x2)).bind (fun h3 =>
    some (.inl (some (aI (0 : Int32))), h3))) (fun e h => xif e 32 (some (.inl (some (aI (1 : Int32))), (hX h e))) (xif e 30 (some (.inl (some (aI (2 : Int32))), (hX h e))) (xT e h))) :=
  lift_of (k := 11) (rows := code_313) (cuts := cut_313) (hs := hdl_313) (r := fun R E =>
    cL (E 129 [aR p0, aI p1, aI p2] h) (fun x2 h1 =>
    (pa h1 p3 1001 (0 : Int32) (aL x2)).bind (fun h3 =>
    some (.inl (some (aI (0 : Int32))), h3))) (fun e h => xif e 32 (some (.inl (some (aI (1 : Int32))), (hX h e))) (xif e 30 (some (.inl (some (aI (2 : Int32))), (hX h e))) (xT e h)))) rfl rfl rfl (fun R E => rfl)
-- ChipcardhouseLaw.count(LChipcardhouse;I[J)I
set_option maxRecDepth 100000 in
theorem lf_314_0 (p0 : Option (Nat × Nat)) (p1 : Int32) (p2 : Option (Nat × Nat)) (h : Hp) : Ru 314 0 [(0, aR p0), (1, aI p1), (2, aR p2)] [] h =
    cI (Ex 130 [aR p0, aI p1] h) (fun x2 h1 =>
    (pa h1 p2 1001 (0 : Int32) (aL x2.toInt64)).bind (fun h3 =>
    some (.inl (some (aI (0 : Int32))), h3))) (fun e h => xif e 30 (some (.inl (some (aI (1 : Int32))), (hX h e))) (xT e h)) :=
  lift_of (k := 11) (rows := code_314) (cuts := cut_314) (hs := hdl_314) (r := fun R E =>
    cI (E 130 [aR p0, aI p1] h) (fun x2 h1 =>
    (pa h1 p2 1001 (0 : Int32) (aL x2.toInt64)).bind (fun h3 =>
    some (.inl (some (aI (0 : Int32))), h3))) (fun e h => xif e 30 (some (.inl (some (aI (1 : Int32))), (hX h e))) (xT e h))) rfl rfl rfl (fun R E => rfl)
-- ChipcardhouseLaw.meanPayment(LChipcardhouse;I[D)I
set_option maxRecDepth 100000 in
theorem lf_315_0 (p0 : Option (Nat × Nat)) (p1 : Int32) (p2 : Option (Nat × Nat)) (h : Hp) : Ru 315 0 [(0, aR p0), (1, aI p1), (2, aR p2)] [] h =
    cD (Ex 132 [aR p0, aI p1] h) (fun x2 h1 =>
    (pa h1 p2 1005 (0 : Int32) (aD x2)).bind (fun h3 =>
    some (.inl (some (aI (0 : Int32))), h3))) (fun e h => xif e 32 (some (.inl (some (aI (1 : Int32))), (hX h e))) (xT e h)) :=
  lift_of (k := 10) (rows := code_315) (cuts := cut_315) (hs := hdl_315) (r := fun R E =>
    cD (E 132 [aR p0, aI p1] h) (fun x2 h1 =>
    (pa h1 p2 1005 (0 : Int32) (aD x2)).bind (fun h3 =>
    some (.inl (some (aI (0 : Int32))), h3))) (fun e h => xif e 32 (some (.inl (some (aI (1 : Int32))), (hX h e))) (xT e h))) rfl rfl rfl (fun R E => rfl)
-- java/lang/Integer.bitCount(I)I
set_option maxRecDepth 100000 in
theorem lf_317_0 (p0 : Int32) (h : Hp) : Ru 317 0 [(0, aI p0)] [] h =
    Ru 317 10 [(0, aI (p0 - ((p0.toUInt32 >>> ((1 : Int32).toUInt32 &&& Int32.toUInt32 31)).toInt32 &&& (1431655765 : Int32))))] [] h :=
  lift_of (k := 9) (rows := code_317) (cuts := cut_317) (hs := hdl_317) (r := fun R E =>
    R 10 [(0, aI (p0 - ((p0.toUInt32 >>> ((1 : Int32).toUInt32 &&& Int32.toUInt32 31)).toInt32 &&& (1431655765 : Int32))))] [] h) rfl rfl rfl (fun R E => rfl)
set_option maxRecDepth 100000 in
theorem lf_317_10 (v0 : Int32) (h : Hp) : Ru 317 10 [(0, aI v0)] [] h =
    Ru 317 24 [(0, aI ((v0 &&& (858993459 : Int32)) + ((v0.toUInt32 >>> ((2 : Int32).toUInt32 &&& Int32.toUInt32 31)).toInt32 &&& (858993459 : Int32))))] [] h :=
  lift_of (k := 11) (rows := code_317) (cuts := cut_317) (hs := hdl_317) (r := fun R E =>
    R 24 [(0, aI ((v0 &&& (858993459 : Int32)) + ((v0.toUInt32 >>> ((2 : Int32).toUInt32 &&& Int32.toUInt32 31)).toInt32 &&& (858993459 : Int32))))] [] h) rfl rfl rfl (fun R E => rfl)
set_option maxRecDepth 100000 in
theorem lf_317_24 (v0 : Int32) (h : Hp) : Ru 317 24 [(0, aI v0)] [] h =
    Ru 317 34 [(0, aI ((v0 + (v0.toUInt32 >>> ((4 : Int32).toUInt32 &&& Int32.toUInt32 31)).toInt32) &&& (252645135 : Int32)))] [] h :=
  lift_of (k := 9) (rows := code_317) (cuts := cut_317) (hs := hdl_317) (r := fun R E =>
    R 34 [(0, aI ((v0 + (v0.toUInt32 >>> ((4 : Int32).toUInt32 &&& Int32.toUInt32 31)).toInt32) &&& (252645135 : Int32)))] [] h) rfl rfl rfl (fun R E => rfl)
set_option maxRecDepth 100000 in
theorem lf_317_34 (v0 : Int32) (h : Hp) : Ru 317 34 [(0, aI v0)] [] h =
    Ru 317 41 [(0, aI (v0 + (v0.toUInt32 >>> ((8 : Int32).toUInt32 &&& Int32.toUInt32 31)).toInt32))] [] h :=
  lift_of (k := 7) (rows := code_317) (cuts := cut_317) (hs := hdl_317) (r := fun R E =>
    R 41 [(0, aI (v0 + (v0.toUInt32 >>> ((8 : Int32).toUInt32 &&& Int32.toUInt32 31)).toInt32))] [] h) rfl rfl rfl (fun R E => rfl)
set_option maxRecDepth 100000 in
theorem lf_317_41 (v0 : Int32) (h : Hp) : Ru 317 41 [(0, aI v0)] [] h =
    Ru 317 48 [(0, aI (v0 + (v0.toUInt32 >>> ((16 : Int32).toUInt32 &&& Int32.toUInt32 31)).toInt32))] [] h :=
  lift_of (k := 7) (rows := code_317) (cuts := cut_317) (hs := hdl_317) (r := fun R E =>
    R 48 [(0, aI (v0 + (v0.toUInt32 >>> ((16 : Int32).toUInt32 &&& Int32.toUInt32 31)).toInt32))] [] h) rfl rfl rfl (fun R E => rfl)
set_option maxRecDepth 100000 in
theorem lf_317_48 (v0 : Int32) (h : Hp) : Ru 317 48 [(0, aI v0)] [] h =
    some (.inl (some (aI (v0 &&& (63 : Int32)))), h) :=
  lift_of (k := 5) (rows := code_317) (cuts := cut_317) (hs := hdl_317) (r := fun R E =>
    some (.inl (some (aI (v0 &&& (63 : Int32)))), h)) rfl rfl rfl (fun R E => rfl)
-- java/lang/Math.min(JJ)J
set_option maxRecDepth 100000 in
theorem lf_318_0 (p0 : Int64) (p1 : Int64) (h : Hp) : Ru 318 0 [(0, aL p0), (2, aL p1)] [] h =
    if 0 < (lg_cmp p0 p1) then
      some (.inl (some (aL p1)), h)
    else
      some (.inl (some (aL p0)), h) :=
  lift_of (k := 8) (rows := code_318) (cuts := cut_318) (hs := hdl_318) (r := fun R E =>
    if 0 < (lg_cmp p0 p1) then
      some (.inl (some (aL p1)), h)
    else
      some (.inl (some (aL p0)), h)) rfl rfl rfl (fun R E => rfl)
