/-! ===== the lifted equations of the law's own methods ===== -/
-- 319 ChipcardhouseLaw.next([I)I
set_option maxRecDepth 100000 in
theorem lf_319_0 (p0 : Option (Nat × Nat)) (h : Hp) : Ru 319 0 [(0, aR p0)] [] h =
    (gaI h p0 1000 (0 : Int32)).bind (fun x1 =>
    (pa h p0 1000 (0 : Int32) (aI ((x1 * (1103515245 : Int32)) + (12345 : Int32)))).bind (fun h2 =>
    (gaI h2 p0 1000 (0 : Int32)).bind (fun x3 =>
    (gaI h2 p0 1000 (0 : Int32)).bind (fun x4 =>
    (pa h2 p0 1000 (0 : Int32) (aI (x3 ^^^ (x4.toUInt32 >>> ((15 : Int32).toUInt32 &&& Int32.toUInt32 31)).toInt32))).bind (fun h5 =>
    (gaI h5 p0 1000 (0 : Int32)).bind (fun x6 =>
    some (.inl (some (aI (x6.toUInt32 >>> ((9 : Int32).toUInt32 &&& Int32.toUInt32 31)).toInt32)), h5))))))) :=
  lift_of (k := 28) (rows := code_319) (cuts := cut_319) (hs := hdl_319) (r := fun R E =>
    (gaI h p0 1000 (0 : Int32)).bind (fun x1 =>
    (pa h p0 1000 (0 : Int32) (aI ((x1 * (1103515245 : Int32)) + (12345 : Int32)))).bind (fun h2 =>
    (gaI h2 p0 1000 (0 : Int32)).bind (fun x3 =>
    (gaI h2 p0 1000 (0 : Int32)).bind (fun x4 =>
    (pa h2 p0 1000 (0 : Int32) (aI (x3 ^^^ (x4.toUInt32 >>> ((15 : Int32).toUInt32 &&& Int32.toUInt32 31)).toInt32))).bind (fun h5 =>
    (gaI h5 p0 1000 (0 : Int32)).bind (fun x6 =>
    some (.inl (some (aI (x6.toUInt32 >>> ((9 : Int32).toUInt32 &&& Int32.toUInt32 31)).toInt32)), h5)))))))) rfl rfl rfl (fun R E => rfl)
-- 320 ChipcardhouseLaw.from([III)I
set_option maxRecDepth 100000 in
theorem lf_320_0 (p0 : Option (Nat × Nat)) (p1 : Int32) (p2 : Int32) (h : Hp) : Ru 320 0 [(0, aR p0), (1, aI p1), (2, aI p2)] [] h =
    cI (Ex 319 [aR p0] h) (fun x2 h1 =>
    if ((p2 - p1) + (1 : Int32)) = 0 then none else
    some (.inl (some (aI (p1 + (imod x2 ((p2 - p1) + (1 : Int32)))))), h1)) xT :=
  lift_of (k := 12) (rows := code_320) (cuts := cut_320) (hs := hdl_320) (r := fun R E =>
    cI (E 319 [aR p0] h) (fun x2 h1 =>
    if ((p2 - p1) + (1 : Int32)) = 0 then none else
    some (.inl (some (aI (p1 + (imod x2 ((p2 - p1) + (1 : Int32)))))), h1)) xT) rfl rfl rfl (fun R E => rfl)
-- 321 ChipcardhouseLaw.done(LChipcardhouse;IIIII)I
set_option maxRecDepth 100000 in
theorem lf_321_0 (p0 : Option (Nat × Nat)) (p1 : Int32) (p2 : Int32) (p3 : Int32) (p4 : Int32) (p5 : Int32) (h : Hp) : Ru 321 0 [(0, aR p0), (1, aI p1), (2, aI p2), (3, aI p3), (4, aI p4), (5, aI p5)] [] h =
    if p1.toInt = 0 then
      cI (Ex 82 [aR p0, aI p2] h) (fun x2 h1 =>
      some (.inl (some (aI x2)), h1)) (fun e h => xif e 32 (some (.inl (some (aI (-1000000001 : Int32))), (hX h e))) (xif e 30 (some (.inl (some (aI (-1000000002 : Int32))), (hX h e))) (xif e 31 (some (.inl (some (aI (-1000000003 : Int32))), (hX h e))) (xT e h))))
    else if p1.toInt = 1 then
      cI (Ex 85 [aR p0, aI p2, aI p3] h) (fun x4 h3 =>
      some (.inl (some (aI x4)), h3)) (fun e h => xif e 32 (some (.inl (some (aI (-1000000001 : Int32))), (hX h e))) (xif e 30 (some (.inl (some (aI (-1000000002 : Int32))), (hX h e))) (xif e 31 (some (.inl (some (aI (-1000000003 : Int32))), (hX h e))) (xT e h))))
    else if p1.toInt = 2 then
      cI (Ex 88 [aR p0, aI p2, aI p3, aI p4, aI p5] h) (fun x6 h5 =>
      some (.inl (some (aI x6)), h5)) (fun e h => xif e 32 (some (.inl (some (aI (-1000000001 : Int32))), (hX h e))) (xif e 30 (some (.inl (some (aI (-1000000002 : Int32))), (hX h e))) (xif e 31 (some (.inl (some (aI (-1000000003 : Int32))), (hX h e))) (xT e h))))
    else if p1.toInt = 3 then
      cI (Ex 91 [aR p0, aI p2, aI p3, aI p4] h) (fun x8 h7 =>
      some (.inl (some (aI x8)), h7)) (fun e h => xif e 32 (some (.inl (some (aI (-1000000001 : Int32))), (hX h e))) (xif e 30 (some (.inl (some (aI (-1000000002 : Int32))), (hX h e))) (xif e 31 (some (.inl (some (aI (-1000000003 : Int32))), (hX h e))) (xT e h))))
    else if p1.toInt = 4 then
      cI (Ex 94 [aR p0, aI p2, aI p3, aI p4, aI p5] h) (fun x10 h9 =>
      some (.inl (some (aI x10)), h9)) (fun e h => xif e 32 (some (.inl (some (aI (-1000000001 : Int32))), (hX h e))) (xif e 30 (some (.inl (some (aI (-1000000002 : Int32))), (hX h e))) (xif e 31 (some (.inl (some (aI (-1000000003 : Int32))), (hX h e))) (xT e h))))
    else if p1.toInt = 5 then
      cI (Ex 97 [aR p0, aI p2] h) (fun x12 h11 =>
      some (.inl (some (aI x12)), h11)) (fun e h => xif e 32 (some (.inl (some (aI (-1000000001 : Int32))), (hX h e))) (xif e 30 (some (.inl (some (aI (-1000000002 : Int32))), (hX h e))) (xif e 31 (some (.inl (some (aI (-1000000003 : Int32))), (hX h e))) (xT e h))))
    else if p1.toInt = 6 then
      cI (Ex 99 [aR p0, aI p2, aI p3, aI p4] h) (fun x14 h13 =>
      some (.inl (some (aI x14)), h13)) (fun e h => xif e 32 (some (.inl (some (aI (-1000000001 : Int32))), (hX h e))) (xif e 30 (some (.inl (some (aI (-1000000002 : Int32))), (hX h e))) (xif e 31 (some (.inl (some (aI (-1000000003 : Int32))), (hX h e))) (xT e h))))
    else if p1.toInt = 7 then
      cI (Ex 102 [aR p0, aI p2, aI p3, aI p4] h) (fun x16 h15 =>
      some (.inl (some (aI x16)), h15)) (fun e h => xif e 32 (some (.inl (some (aI (-1000000001 : Int32))), (hX h e))) (xif e 30 (some (.inl (some (aI (-1000000002 : Int32))), (hX h e))) (xif e 31 (some (.inl (some (aI (-1000000003 : Int32))), (hX h e))) (xT e h))))
    else if p1.toInt = 8 then
      cI (Ex 104 [aR p0, aI p2] h) (fun x18 h17 =>
      some (.inl (some (aI x18)), h17)) (fun e h => xif e 32 (some (.inl (some (aI (-1000000001 : Int32))), (hX h e))) (xif e 30 (some (.inl (some (aI (-1000000002 : Int32))), (hX h e))) (xif e 31 (some (.inl (some (aI (-1000000003 : Int32))), (hX h e))) (xT e h))))
    else if p1.toInt = 9 then
      cI (Ex 108 [aR p0, aI p2, aI p3, aI p4, aI p5] h) (fun x20 h19 =>
      some (.inl (some (aI x20)), h19)) (fun e h => xif e 32 (some (.inl (some (aI (-1000000001 : Int32))), (hX h e))) (xif e 30 (some (.inl (some (aI (-1000000002 : Int32))), (hX h e))) (xif e 31 (some (.inl (some (aI (-1000000003 : Int32))), (hX h e))) (xT e h))))
    else if p1.toInt = 10 then
      if p2 = (1 : Int32) then
        Ru 321 188 [] [aI (1 : Int32), aR p0] h
      else
        Ru 321 188 [] [aI (0 : Int32), aR p0] h
    else if p1.toInt = 11 then
      cI (Ex 113 [aR p0, aI p2, aI p3] h) (fun x22 h21 =>
      some (.inl (some (aI x22)), h21)) (fun e h => xif e 32 (some (.inl (some (aI (-1000000001 : Int32))), (hX h e))) (xif e 30 (some (.inl (some (aI (-1000000002 : Int32))), (hX h e))) (xif e 31 (some (.inl (some (aI (-1000000003 : Int32))), (hX h e))) (xT e h))))
    else if p1.toInt = 12 then
      cI (Ex 116 [aR p0, aI p2] h) (fun x24 h23 =>
      if x24 = 0 then
        some (.inl (some (aI (0 : Int32))), h23)
      else
        some (.inl (some (aI (1 : Int32))), h23)) (fun e h => xif e 32 (some (.inl (some (aI (-1000000001 : Int32))), (hX h e))) (xif e 30 (some (.inl (some (aI (-1000000002 : Int32))), (hX h e))) (xif e 31 (some (.inl (some (aI (-1000000003 : Int32))), (hX h e))) (xT e h))))
    else if p1.toInt = 13 then
      if p3 = (1 : Int32) then
        Ru 321 225 [] [aI (1 : Int32), aI p2, aR p0] h
      else
        Ru 321 225 [] [aI (0 : Int32), aI p2, aR p0] h
    else if p1.toInt = 14 then
      cI (Ex 120 [aR p0, aI p2] h) (fun x26 h25 =>
      some (.inl (some (aI x26)), h25)) (fun e h => xif e 32 (some (.inl (some (aI (-1000000001 : Int32))), (hX h e))) (xif e 30 (some (.inl (some (aI (-1000000002 : Int32))), (hX h e))) (xif e 31 (some (.inl (some (aI (-1000000003 : Int32))), (hX h e))) (xT e h))))
    else if p1.toInt = 15 then
      cI (Ex 125 [aR p0, aI p2, aI p3] h) (fun x28 h27 =>
      some (.inl (some (aI x28)), h27)) (fun e h => xif e 32 (some (.inl (some (aI (-1000000001 : Int32))), (hX h e))) (xif e 30 (some (.inl (some (aI (-1000000002 : Int32))), (hX h e))) (xif e 31 (some (.inl (some (aI (-1000000003 : Int32))), (hX h e))) (xT e h))))
    else if p1.toInt = 16 then
      cI (Ex 126 [aR p0, aI p2, aI p3] h) (fun x30 h29 =>
      some (.inl (some (aI x30)), h29)) (fun e h => xif e 32 (some (.inl (some (aI (-1000000001 : Int32))), (hX h e))) (xif e 30 (some (.inl (some (aI (-1000000002 : Int32))), (hX h e))) (xif e 31 (some (.inl (some (aI (-1000000003 : Int32))), (hX h e))) (xT e h))))
    else if p1.toInt = 17 then
      cI (Ex 127 [aR p0, aI p2, aI p3] h) (fun x32 h31 =>
      some (.inl (some (aI x32)), h31)) (fun e h => xif e 32 (some (.inl (some (aI (-1000000001 : Int32))), (hX h e))) (xif e 30 (some (.inl (some (aI (-1000000002 : Int32))), (hX h e))) (xif e 31 (some (.inl (some (aI (-1000000003 : Int32))), (hX h e))) (xT e h))))
    else if p1.toInt = 18 then
      cL (Ex 128 [aR p0, aI p2, aI p3] h) (fun x34 h33 =>
      some (.inl (some (aI x34.toInt32)), h33)) (fun e h => xif e 32 (some (.inl (some (aI (-1000000001 : Int32))), (hX h e))) (xif e 30 (some (.inl (some (aI (-1000000002 : Int32))), (hX h e))) (xif e 31 (some (.inl (some (aI (-1000000003 : Int32))), (hX h e))) (xT e h))))
    else cL (Ex 129 [aR p0, aI p2, aI p3] h) (fun x36 h35 =>
      some (.inl (some (aI x36.toInt32)), h35)) (fun e h => xif e 32 (some (.inl (some (aI (-1000000001 : Int32))), (hX h e))) (xif e 30 (some (.inl (some (aI (-1000000002 : Int32))), (hX h e))) (xif e 31 (some (.inl (some (aI (-1000000003 : Int32))), (hX h e))) (xT e h)))) :=
  lift_of (k := 12) (rows := code_321) (cuts := cut_321) (hs := hdl_321) (r := fun R E =>
    if p1.toInt = 0 then
      cI (E 82 [aR p0, aI p2] h) (fun x2 h1 =>
      some (.inl (some (aI x2)), h1)) (fun e h => xif e 32 (some (.inl (some (aI (-1000000001 : Int32))), (hX h e))) (xif e 30 (some (.inl (some (aI (-1000000002 : Int32))), (hX h e))) (xif e 31 (some (.inl (some (aI (-1000000003 : Int32))), (hX h e))) (xT e h))))
    else if p1.toInt = 1 then
      cI (E 85 [aR p0, aI p2, aI p3] h) (fun x4 h3 =>
      some (.inl (some (aI x4)), h3)) (fun e h => xif e 32 (some (.inl (some (aI (-1000000001 : Int32))), (hX h e))) (xif e 30 (some (.inl (some (aI (-1000000002 : Int32))), (hX h e))) (xif e 31 (some (.inl (some (aI (-1000000003 : Int32))), (hX h e))) (xT e h))))
    else if p1.toInt = 2 then
      cI (E 88 [aR p0, aI p2, aI p3, aI p4, aI p5] h) (fun x6 h5 =>
      some (.inl (some (aI x6)), h5)) (fun e h => xif e 32 (some (.inl (some (aI (-1000000001 : Int32))), (hX h e))) (xif e 30 (some (.inl (some (aI (-1000000002 : Int32))), (hX h e))) (xif e 31 (some (.inl (some (aI (-1000000003 : Int32))), (hX h e))) (xT e h))))
    else if p1.toInt = 3 then
      cI (E 91 [aR p0, aI p2, aI p3, aI p4] h) (fun x8 h7 =>
      some (.inl (some (aI x8)), h7)) (fun e h => xif e 32 (some (.inl (some (aI (-1000000001 : Int32))), (hX h e))) (xif e 30 (some (.inl (some (aI (-1000000002 : Int32))), (hX h e))) (xif e 31 (some (.inl (some (aI (-1000000003 : Int32))), (hX h e))) (xT e h))))
    else if p1.toInt = 4 then
      cI (E 94 [aR p0, aI p2, aI p3, aI p4, aI p5] h) (fun x10 h9 =>
      some (.inl (some (aI x10)), h9)) (fun e h => xif e 32 (some (.inl (some (aI (-1000000001 : Int32))), (hX h e))) (xif e 30 (some (.inl (some (aI (-1000000002 : Int32))), (hX h e))) (xif e 31 (some (.inl (some (aI (-1000000003 : Int32))), (hX h e))) (xT e h))))
    else if p1.toInt = 5 then
      cI (E 97 [aR p0, aI p2] h) (fun x12 h11 =>
      some (.inl (some (aI x12)), h11)) (fun e h => xif e 32 (some (.inl (some (aI (-1000000001 : Int32))), (hX h e))) (xif e 30 (some (.inl (some (aI (-1000000002 : Int32))), (hX h e))) (xif e 31 (some (.inl (some (aI (-1000000003 : Int32))), (hX h e))) (xT e h))))
    else if p1.toInt = 6 then
      cI (E 99 [aR p0, aI p2, aI p3, aI p4] h) (fun x14 h13 =>
      some (.inl (some (aI x14)), h13)) (fun e h => xif e 32 (some (.inl (some (aI (-1000000001 : Int32))), (hX h e))) (xif e 30 (some (.inl (some (aI (-1000000002 : Int32))), (hX h e))) (xif e 31 (some (.inl (some (aI (-1000000003 : Int32))), (hX h e))) (xT e h))))
    else if p1.toInt = 7 then
      cI (E 102 [aR p0, aI p2, aI p3, aI p4] h) (fun x16 h15 =>
      some (.inl (some (aI x16)), h15)) (fun e h => xif e 32 (some (.inl (some (aI (-1000000001 : Int32))), (hX h e))) (xif e 30 (some (.inl (some (aI (-1000000002 : Int32))), (hX h e))) (xif e 31 (some (.inl (some (aI (-1000000003 : Int32))), (hX h e))) (xT e h))))
    else if p1.toInt = 8 then
      cI (E 104 [aR p0, aI p2] h) (fun x18 h17 =>
      some (.inl (some (aI x18)), h17)) (fun e h => xif e 32 (some (.inl (some (aI (-1000000001 : Int32))), (hX h e))) (xif e 30 (some (.inl (some (aI (-1000000002 : Int32))), (hX h e))) (xif e 31 (some (.inl (some (aI (-1000000003 : Int32))), (hX h e))) (xT e h))))
    else if p1.toInt = 9 then
      cI (E 108 [aR p0, aI p2, aI p3, aI p4, aI p5] h) (fun x20 h19 =>
      some (.inl (some (aI x20)), h19)) (fun e h => xif e 32 (some (.inl (some (aI (-1000000001 : Int32))), (hX h e))) (xif e 30 (some (.inl (some (aI (-1000000002 : Int32))), (hX h e))) (xif e 31 (some (.inl (some (aI (-1000000003 : Int32))), (hX h e))) (xT e h))))
    else if p1.toInt = 10 then
      if p2 = (1 : Int32) then
        R 188 [] [aI (1 : Int32), aR p0] h
      else
        R 188 [] [aI (0 : Int32), aR p0] h
    else if p1.toInt = 11 then
      cI (E 113 [aR p0, aI p2, aI p3] h) (fun x22 h21 =>
      some (.inl (some (aI x22)), h21)) (fun e h => xif e 32 (some (.inl (some (aI (-1000000001 : Int32))), (hX h e))) (xif e 30 (some (.inl (some (aI (-1000000002 : Int32))), (hX h e))) (xif e 31 (some (.inl (some (aI (-1000000003 : Int32))), (hX h e))) (xT e h))))
    else if p1.toInt = 12 then
      cI (E 116 [aR p0, aI p2] h) (fun x24 h23 =>
      if x24 = 0 then
        some (.inl (some (aI (0 : Int32))), h23)
      else
        some (.inl (some (aI (1 : Int32))), h23)) (fun e h => xif e 32 (some (.inl (some (aI (-1000000001 : Int32))), (hX h e))) (xif e 30 (some (.inl (some (aI (-1000000002 : Int32))), (hX h e))) (xif e 31 (some (.inl (some (aI (-1000000003 : Int32))), (hX h e))) (xT e h))))
    else if p1.toInt = 13 then
      if p3 = (1 : Int32) then
        R 225 [] [aI (1 : Int32), aI p2, aR p0] h
      else
        R 225 [] [aI (0 : Int32), aI p2, aR p0] h
    else if p1.toInt = 14 then
      cI (E 120 [aR p0, aI p2] h) (fun x26 h25 =>
      some (.inl (some (aI x26)), h25)) (fun e h => xif e 32 (some (.inl (some (aI (-1000000001 : Int32))), (hX h e))) (xif e 30 (some (.inl (some (aI (-1000000002 : Int32))), (hX h e))) (xif e 31 (some (.inl (some (aI (-1000000003 : Int32))), (hX h e))) (xT e h))))
    else if p1.toInt = 15 then
      cI (E 125 [aR p0, aI p2, aI p3] h) (fun x28 h27 =>
      some (.inl (some (aI x28)), h27)) (fun e h => xif e 32 (some (.inl (some (aI (-1000000001 : Int32))), (hX h e))) (xif e 30 (some (.inl (some (aI (-1000000002 : Int32))), (hX h e))) (xif e 31 (some (.inl (some (aI (-1000000003 : Int32))), (hX h e))) (xT e h))))
    else if p1.toInt = 16 then
      cI (E 126 [aR p0, aI p2, aI p3] h) (fun x30 h29 =>
      some (.inl (some (aI x30)), h29)) (fun e h => xif e 32 (some (.inl (some (aI (-1000000001 : Int32))), (hX h e))) (xif e 30 (some (.inl (some (aI (-1000000002 : Int32))), (hX h e))) (xif e 31 (some (.inl (some (aI (-1000000003 : Int32))), (hX h e))) (xT e h))))
    else if p1.toInt = 17 then
      cI (E 127 [aR p0, aI p2, aI p3] h) (fun x32 h31 =>
      some (.inl (some (aI x32)), h31)) (fun e h => xif e 32 (some (.inl (some (aI (-1000000001 : Int32))), (hX h e))) (xif e 30 (some (.inl (some (aI (-1000000002 : Int32))), (hX h e))) (xif e 31 (some (.inl (some (aI (-1000000003 : Int32))), (hX h e))) (xT e h))))
    else if p1.toInt = 18 then
      cL (E 128 [aR p0, aI p2, aI p3] h) (fun x34 h33 =>
      some (.inl (some (aI x34.toInt32)), h33)) (fun e h => xif e 32 (some (.inl (some (aI (-1000000001 : Int32))), (hX h e))) (xif e 30 (some (.inl (some (aI (-1000000002 : Int32))), (hX h e))) (xif e 31 (some (.inl (some (aI (-1000000003 : Int32))), (hX h e))) (xT e h))))
    else cL (E 129 [aR p0, aI p2, aI p3] h) (fun x36 h35 =>
      some (.inl (some (aI x36.toInt32)), h35)) (fun e h => xif e 32 (some (.inl (some (aI (-1000000001 : Int32))), (hX h e))) (xif e 30 (some (.inl (some (aI (-1000000002 : Int32))), (hX h e))) (xif e 31 (some (.inl (some (aI (-1000000003 : Int32))), (hX h e))) (xT e h))))) rfl rfl rfl (fun R E => rfl)
set_option maxRecDepth 100000 in
theorem lf_321_225 (s0 : Option (Nat × Nat)) (s1 : Int32) (s2 : Int32) (h : Hp) : Ru 321 225 [] [aI s2, aI s1, aR s0] h =
    cI (Ex 118 [aR s0, aI s1, aI s2] h) (fun x2 h1 =>
    if x2 = 0 then
      some (.inl (some (aI (0 : Int32))), h1)
    else
      some (.inl (some (aI (1 : Int32))), h1)) (fun e h => xif e 32 (some (.inl (some (aI (-1000000001 : Int32))), (hX h e))) (xif e 30 (some (.inl (some (aI (-1000000002 : Int32))), (hX h e))) (xif e 31 (some (.inl (some (aI (-1000000003 : Int32))), (hX h e))) (xT e h)))) :=
  lift_of (k := 6) (rows := code_321) (cuts := cut_321) (hs := hdl_321) (r := fun R E =>
    cI (E 118 [aR s0, aI s1, aI s2] h) (fun x2 h1 =>
    if x2 = 0 then
      some (.inl (some (aI (0 : Int32))), h1)
    else
      some (.inl (some (aI (1 : Int32))), h1)) (fun e h => xif e 32 (some (.inl (some (aI (-1000000001 : Int32))), (hX h e))) (xif e 30 (some (.inl (some (aI (-1000000002 : Int32))), (hX h e))) (xif e 31 (some (.inl (some (aI (-1000000003 : Int32))), (hX h e))) (xT e h))))) rfl rfl rfl (fun R E => rfl)
set_option maxRecDepth 100000 in
theorem lf_321_188 (s0 : Option (Nat × Nat)) (s1 : Int32) (h : Hp) : Ru 321 188 [] [aI s1, aR s0] h =
    cI (Ex 111 [aR s0, aI s1] h) (fun x2 h1 =>
    some (.inl (some (aI x2)), h1)) (fun e h => xif e 32 (some (.inl (some (aI (-1000000001 : Int32))), (hX h e))) (xif e 30 (some (.inl (some (aI (-1000000002 : Int32))), (hX h e))) (xif e 31 (some (.inl (some (aI (-1000000003 : Int32))), (hX h e))) (xT e h)))) :=
  lift_of (k := 5) (rows := code_321) (cuts := cut_321) (hs := hdl_321) (r := fun R E =>
    cI (E 111 [aR s0, aI s1] h) (fun x2 h1 =>
    some (.inl (some (aI x2)), h1)) (fun e h => xif e 32 (some (.inl (some (aI (-1000000001 : Int32))), (hX h e))) (xif e 30 (some (.inl (some (aI (-1000000002 : Int32))), (hX h e))) (xif e 31 (some (.inl (some (aI (-1000000003 : Int32))), (hX h e))) (xT e h))))) rfl rfl rfl (fun R E => rfl)
-- 322 ChipcardhouseLaw.begins(LChipcardhouse;[I[I)Z
set_option maxRecDepth 100000 in
theorem lf_322_0 (p0 : Option (Nat × Nat)) (p1 : Option (Nat × Nat)) (p2 : Option (Nat × Nat)) (h : Hp) : Ru 322 0 [(0, aR p0), (1, aR p1), (2, aR p2)] [] h =
    Ru 322 2 [(0, aR p0), (1, aR p1), (2, aR p2), (3, aI (0 : Int32))] [] h :=
  lift_of (k := 3) (rows := code_322) (cuts := cut_322) (hs := hdl_322) (r := fun R E =>
    R 2 [(0, aR p0), (1, aR p1), (2, aR p2), (3, aI (0 : Int32))] [] h) rfl rfl rfl (fun R E => rfl)
set_option maxRecDepth 100000 in
theorem lf_322_2 (o : Option (Nat × Nat)) (v1 : Option (Nat × Nat)) (v2 : Option (Nat × Nat)) (v3 : Int32) (h : Hp) : Ru 322 2 [(0, aR o), (1, aR v1), (2, aR v2), (3, aI v3)] [] h =
    (len h v2).bind (fun x1 =>
    if x1 ≤ v3 then
      cI (Ex 320 [aR v1, aI (1 : Int32), aI (4 : Int32)] h) (fun x3 h2 =>
      (pa h2 v2 1000 (0 : Int32) (aI x3)).bind (fun h4 =>
      cI (Ex 320 [aR v1, aI (1 : Int32), aI (3 : Int32)] h4) (fun x6 h5 =>
      (pa h5 v2 1000 (1 : Int32) (aI x6)).bind (fun h7 =>
      cI (Ex 320 [aR v1, aI (1 : Int32), aI (5 : Int32)] h7) (fun x9 h8 =>
      (pa h8 v2 1000 (2 : Int32) (aI x9)).bind (fun h10 =>
      cI (Ex 320 [aR v1, aI (0 : Int32), aI (3000 : Int32)] h10) (fun x12 h11 =>
      cI (Ex 320 [aR v1, aI (0 : Int32), aI (500 : Int32)] h11) (fun x14 h13 =>
      cI (Ex 320 [aR v1, aI (1 : Int32), aI (5 : Int32)] h13) (fun x16 h15 =>
      cI (Ex 321 [aR o, aI (3 : Int32), aI x12, aI x14, aI x16, aI (0 : Int32)] h15) (fun x18 h17 =>
      if x18 = (100 : Int32) then
        Ru 322 87 [(0, aR o), (1, aR v1), (2, aR v2), (3, aI (1 : Int32)), (4, aI (0 : Int32))] [] h17
      else
        Ru 322 87 [(0, aR o), (1, aR v1), (2, aR v2), (3, aI (0 : Int32)), (4, aI (0 : Int32))] [] h17) xT) xT) xT) xT)) xT)) xT)) xT
    else
      (pa h v2 1000 v3 (aI (0 : Int32))).bind (fun h19 =>
      Ru 322 2 [(0, aR o), (1, aR v1), (2, aR v2), (3, aI (v3 + (1 : Int32)))] [] h19)) :=
  lift_of (k := 49) (rows := code_322) (cuts := cut_322) (hs := hdl_322) (r := fun R E =>
    (len h v2).bind (fun x1 =>
    if x1 ≤ v3 then
      cI (E 320 [aR v1, aI (1 : Int32), aI (4 : Int32)] h) (fun x3 h2 =>
      (pa h2 v2 1000 (0 : Int32) (aI x3)).bind (fun h4 =>
      cI (E 320 [aR v1, aI (1 : Int32), aI (3 : Int32)] h4) (fun x6 h5 =>
      (pa h5 v2 1000 (1 : Int32) (aI x6)).bind (fun h7 =>
      cI (E 320 [aR v1, aI (1 : Int32), aI (5 : Int32)] h7) (fun x9 h8 =>
      (pa h8 v2 1000 (2 : Int32) (aI x9)).bind (fun h10 =>
      cI (E 320 [aR v1, aI (0 : Int32), aI (3000 : Int32)] h10) (fun x12 h11 =>
      cI (E 320 [aR v1, aI (0 : Int32), aI (500 : Int32)] h11) (fun x14 h13 =>
      cI (E 320 [aR v1, aI (1 : Int32), aI (5 : Int32)] h13) (fun x16 h15 =>
      cI (E 321 [aR o, aI (3 : Int32), aI x12, aI x14, aI x16, aI (0 : Int32)] h15) (fun x18 h17 =>
      if x18 = (100 : Int32) then
        R 87 [(0, aR o), (1, aR v1), (2, aR v2), (3, aI (1 : Int32)), (4, aI (0 : Int32))] [] h17
      else
        R 87 [(0, aR o), (1, aR v1), (2, aR v2), (3, aI (0 : Int32)), (4, aI (0 : Int32))] [] h17) xT) xT) xT) xT)) xT)) xT)) xT
    else
      (pa h v2 1000 v3 (aI (0 : Int32))).bind (fun h19 =>
      R 2 [(0, aR o), (1, aR v1), (2, aR v2), (3, aI (v3 + (1 : Int32)))] [] h19))) rfl rfl rfl (fun R E => rfl)
set_option maxRecDepth 100000 in
theorem lf_322_87 (o : Option (Nat × Nat)) (v1 : Option (Nat × Nat)) (v2 : Option (Nat × Nat)) (v3 : Int32) (v4 : Int32) (h : Hp) : Ru 322 87 [(0, aR o), (1, aR v1), (2, aR v2), (3, aI v3), (4, aI v4)] [] h =
    (gaI h v2 1000 (0 : Int32)).bind (fun x1 =>
    if x1 ≤ v4 then
      Ru 322 168 [(0, aR o), (1, aR v1), (2, aR v2), (3, aI v3), (4, aI (0 : Int32))] [] h
    else
      cI (Ex 319 [aR v1] h) (fun x3 h2 =>
      if (imod x3 (3 : Int32)) = 0 then
        cI (Ex 320 [aR v1, aI (0 : Int32), aI (900 : Int32)] h2) (fun x5 h4 =>
        (pa h4 v2 1000 ((10 : Int32) + v4) (aI x5)).bind (fun h6 =>
        if v3 = 0 then
          Ru 322 87 [(0, aR o), (1, aR v1), (2, aR v2), (3, aI (0 : Int32)), (4, aI (v4 + (1 : Int32)))] [] h6
        else
          (gaI h6 v2 1000 ((10 : Int32) + v4)).bind (fun x7 =>
          cI (Ex 321 [aR o, aI (0 : Int32), aI x7, aI (0 : Int32), aI (0 : Int32), aI (0 : Int32)] h6) (fun x9 h8 =>
          if x9 = v4 then
            Ru 322 87 [(0, aR o), (1, aR v1), (2, aR v2), (3, aI (1 : Int32)), (4, aI (v4 + (1 : Int32)))] [] h8
          else
            Ru 322 87 [(0, aR o), (1, aR v1), (2, aR v2), (3, aI (0 : Int32)), (4, aI (v4 + (1 : Int32)))] [] h8) xT))) xT
      else
        cI (Ex 320 [aR v1, aI (0 : Int32), aI (90000 : Int32)] h2) (fun x11 h10 =>
        (pa h10 v2 1000 ((10 : Int32) + v4) (aI x11)).bind (fun h12 =>
        if v3 = 0 then
          Ru 322 87 [(0, aR o), (1, aR v1), (2, aR v2), (3, aI (0 : Int32)), (4, aI (v4 + (1 : Int32)))] [] h12
        else
          (gaI h12 v2 1000 ((10 : Int32) + v4)).bind (fun x13 =>
          cI (Ex 321 [aR o, aI (0 : Int32), aI x13, aI (0 : Int32), aI (0 : Int32), aI (0 : Int32)] h12) (fun x15 h14 =>
          if x15 = v4 then
            Ru 322 87 [(0, aR o), (1, aR v1), (2, aR v2), (3, aI (1 : Int32)), (4, aI (v4 + (1 : Int32)))] [] h14
          else
            Ru 322 87 [(0, aR o), (1, aR v1), (2, aR v2), (3, aI (0 : Int32)), (4, aI (v4 + (1 : Int32)))] [] h14) xT))) xT) xT) :=
  lift_of (k := 41) (rows := code_322) (cuts := cut_322) (hs := hdl_322) (r := fun R E =>
    (gaI h v2 1000 (0 : Int32)).bind (fun x1 =>
    if x1 ≤ v4 then
      R 168 [(0, aR o), (1, aR v1), (2, aR v2), (3, aI v3), (4, aI (0 : Int32))] [] h
    else
      cI (E 319 [aR v1] h) (fun x3 h2 =>
      if (imod x3 (3 : Int32)) = 0 then
        cI (E 320 [aR v1, aI (0 : Int32), aI (900 : Int32)] h2) (fun x5 h4 =>
        (pa h4 v2 1000 ((10 : Int32) + v4) (aI x5)).bind (fun h6 =>
        if v3 = 0 then
          R 87 [(0, aR o), (1, aR v1), (2, aR v2), (3, aI (0 : Int32)), (4, aI (v4 + (1 : Int32)))] [] h6
        else
          (gaI h6 v2 1000 ((10 : Int32) + v4)).bind (fun x7 =>
          cI (E 321 [aR o, aI (0 : Int32), aI x7, aI (0 : Int32), aI (0 : Int32), aI (0 : Int32)] h6) (fun x9 h8 =>
          if x9 = v4 then
            R 87 [(0, aR o), (1, aR v1), (2, aR v2), (3, aI (1 : Int32)), (4, aI (v4 + (1 : Int32)))] [] h8
          else
            R 87 [(0, aR o), (1, aR v1), (2, aR v2), (3, aI (0 : Int32)), (4, aI (v4 + (1 : Int32)))] [] h8) xT))) xT
      else
        cI (E 320 [aR v1, aI (0 : Int32), aI (90000 : Int32)] h2) (fun x11 h10 =>
        (pa h10 v2 1000 ((10 : Int32) + v4) (aI x11)).bind (fun h12 =>
        if v3 = 0 then
          R 87 [(0, aR o), (1, aR v1), (2, aR v2), (3, aI (0 : Int32)), (4, aI (v4 + (1 : Int32)))] [] h12
        else
          (gaI h12 v2 1000 ((10 : Int32) + v4)).bind (fun x13 =>
          cI (E 321 [aR o, aI (0 : Int32), aI x13, aI (0 : Int32), aI (0 : Int32), aI (0 : Int32)] h12) (fun x15 h14 =>
          if x15 = v4 then
            R 87 [(0, aR o), (1, aR v1), (2, aR v2), (3, aI (1 : Int32)), (4, aI (v4 + (1 : Int32)))] [] h14
          else
            R 87 [(0, aR o), (1, aR v1), (2, aR v2), (3, aI (0 : Int32)), (4, aI (v4 + (1 : Int32)))] [] h14) xT))) xT) xT)) rfl rfl rfl (fun R E => rfl)
set_option maxRecDepth 100000 in
theorem lf_322_168 (o : Option (Nat × Nat)) (v1 : Option (Nat × Nat)) (v2 : Option (Nat × Nat)) (v3 : Int32) (v4 : Int32) (h : Hp) : Ru 322 168 [(0, aR o), (1, aR v1), (2, aR v2), (3, aI v3), (4, aI v4)] [] h =
    (gaI h v2 1000 (1 : Int32)).bind (fun x1 =>
    if x1 ≤ v4 then
      Ru 322 262 [(0, aR o), (1, aR v1), (2, aR v2), (3, aI v3), (4, aI (0 : Int32))] [] h
    else
      cI (Ex 319 [aR v1] h) (fun x3 h2 =>
      if (imod x3 (3 : Int32)) = 0 then
        (pa h2 v2 1000 ((40 : Int32) + v4) (aI (0 : Int32))).bind (fun h4 =>
        if v3 = 0 then
          Ru 322 168 [(0, aR o), (1, aR v1), (2, aR v2), (3, aI (0 : Int32)), (4, aI (v4 + (1 : Int32)))] [] h4
        else
          (gaI h4 v2 1000 ((40 : Int32) + v4)).bind (fun x5 =>
          cI (Ex 319 [aR v1] h4) (fun x7 h6 =>
          if (imod x7 (2 : Int32)) = 0 then
            cI (Ex 321 [aR o, aI (1 : Int32), aI x5, aI (0 : Int32), aI (0 : Int32), aI (0 : Int32)] h6) (fun x9 h8 =>
            if x9 = v4 then
              Ru 322 168 [(0, aR o), (1, aR v1), (2, aR v2), (3, aI (1 : Int32)), (4, aI (v4 + (1 : Int32)))] [] h8
            else
              Ru 322 168 [(0, aR o), (1, aR v1), (2, aR v2), (3, aI (0 : Int32)), (4, aI (v4 + (1 : Int32)))] [] h8) xT
          else
            cI (Ex 320 [aR v1, aI (1 : Int32), aI (5 : Int32)] h6) (fun x11 h10 =>
            cI (Ex 321 [aR o, aI (1 : Int32), aI x5, aI x11, aI (0 : Int32), aI (0 : Int32)] h10) (fun x13 h12 =>
            if x13 = v4 then
              Ru 322 168 [(0, aR o), (1, aR v1), (2, aR v2), (3, aI (1 : Int32)), (4, aI (v4 + (1 : Int32)))] [] h12
            else
              Ru 322 168 [(0, aR o), (1, aR v1), (2, aR v2), (3, aI (0 : Int32)), (4, aI (v4 + (1 : Int32)))] [] h12) xT) xT) xT))
      else
        cI (Ex 320 [aR v1, aI (10 : Int32), aI (3000 : Int32)] h2) (fun x15 h14 =>
        (pa h14 v2 1000 ((40 : Int32) + v4) (aI x15)).bind (fun h16 =>
        if v3 = 0 then
          Ru 322 168 [(0, aR o), (1, aR v1), (2, aR v2), (3, aI (0 : Int32)), (4, aI (v4 + (1 : Int32)))] [] h16
        else
          (gaI h16 v2 1000 ((40 : Int32) + v4)).bind (fun x17 =>
          cI (Ex 319 [aR v1] h16) (fun x19 h18 =>
          if (imod x19 (2 : Int32)) = 0 then
            cI (Ex 321 [aR o, aI (1 : Int32), aI x17, aI (0 : Int32), aI (0 : Int32), aI (0 : Int32)] h18) (fun x21 h20 =>
            if x21 = v4 then
              Ru 322 168 [(0, aR o), (1, aR v1), (2, aR v2), (3, aI (1 : Int32)), (4, aI (v4 + (1 : Int32)))] [] h20
            else
              Ru 322 168 [(0, aR o), (1, aR v1), (2, aR v2), (3, aI (0 : Int32)), (4, aI (v4 + (1 : Int32)))] [] h20) xT
          else
            cI (Ex 320 [aR v1, aI (1 : Int32), aI (5 : Int32)] h18) (fun x23 h22 =>
            cI (Ex 321 [aR o, aI (1 : Int32), aI x17, aI x23, aI (0 : Int32), aI (0 : Int32)] h22) (fun x25 h24 =>
            if x25 = v4 then
              Ru 322 168 [(0, aR o), (1, aR v1), (2, aR v2), (3, aI (1 : Int32)), (4, aI (v4 + (1 : Int32)))] [] h24
            else
              Ru 322 168 [(0, aR o), (1, aR v1), (2, aR v2), (3, aI (0 : Int32)), (4, aI (v4 + (1 : Int32)))] [] h24) xT) xT) xT))) xT) xT) :=
  lift_of (k := 48) (rows := code_322) (cuts := cut_322) (hs := hdl_322) (r := fun R E =>
    (gaI h v2 1000 (1 : Int32)).bind (fun x1 =>
    if x1 ≤ v4 then
      R 262 [(0, aR o), (1, aR v1), (2, aR v2), (3, aI v3), (4, aI (0 : Int32))] [] h
    else
      cI (E 319 [aR v1] h) (fun x3 h2 =>
      if (imod x3 (3 : Int32)) = 0 then
        (pa h2 v2 1000 ((40 : Int32) + v4) (aI (0 : Int32))).bind (fun h4 =>
        if v3 = 0 then
          R 168 [(0, aR o), (1, aR v1), (2, aR v2), (3, aI (0 : Int32)), (4, aI (v4 + (1 : Int32)))] [] h4
        else
          (gaI h4 v2 1000 ((40 : Int32) + v4)).bind (fun x5 =>
          cI (E 319 [aR v1] h4) (fun x7 h6 =>
          if (imod x7 (2 : Int32)) = 0 then
            cI (E 321 [aR o, aI (1 : Int32), aI x5, aI (0 : Int32), aI (0 : Int32), aI (0 : Int32)] h6) (fun x9 h8 =>
            if x9 = v4 then
              R 168 [(0, aR o), (1, aR v1), (2, aR v2), (3, aI (1 : Int32)), (4, aI (v4 + (1 : Int32)))] [] h8
            else
              R 168 [(0, aR o), (1, aR v1), (2, aR v2), (3, aI (0 : Int32)), (4, aI (v4 + (1 : Int32)))] [] h8) xT
          else
            cI (E 320 [aR v1, aI (1 : Int32), aI (5 : Int32)] h6) (fun x11 h10 =>
            cI (E 321 [aR o, aI (1 : Int32), aI x5, aI x11, aI (0 : Int32), aI (0 : Int32)] h10) (fun x13 h12 =>
            if x13 = v4 then
              R 168 [(0, aR o), (1, aR v1), (2, aR v2), (3, aI (1 : Int32)), (4, aI (v4 + (1 : Int32)))] [] h12
            else
              R 168 [(0, aR o), (1, aR v1), (2, aR v2), (3, aI (0 : Int32)), (4, aI (v4 + (1 : Int32)))] [] h12) xT) xT) xT))
      else
        cI (E 320 [aR v1, aI (10 : Int32), aI (3000 : Int32)] h2) (fun x15 h14 =>
        (pa h14 v2 1000 ((40 : Int32) + v4) (aI x15)).bind (fun h16 =>
        if v3 = 0 then
          R 168 [(0, aR o), (1, aR v1), (2, aR v2), (3, aI (0 : Int32)), (4, aI (v4 + (1 : Int32)))] [] h16
        else
          (gaI h16 v2 1000 ((40 : Int32) + v4)).bind (fun x17 =>
          cI (E 319 [aR v1] h16) (fun x19 h18 =>
          if (imod x19 (2 : Int32)) = 0 then
            cI (E 321 [aR o, aI (1 : Int32), aI x17, aI (0 : Int32), aI (0 : Int32), aI (0 : Int32)] h18) (fun x21 h20 =>
            if x21 = v4 then
              R 168 [(0, aR o), (1, aR v1), (2, aR v2), (3, aI (1 : Int32)), (4, aI (v4 + (1 : Int32)))] [] h20
            else
              R 168 [(0, aR o), (1, aR v1), (2, aR v2), (3, aI (0 : Int32)), (4, aI (v4 + (1 : Int32)))] [] h20) xT
          else
            cI (E 320 [aR v1, aI (1 : Int32), aI (5 : Int32)] h18) (fun x23 h22 =>
            cI (E 321 [aR o, aI (1 : Int32), aI x17, aI x23, aI (0 : Int32), aI (0 : Int32)] h22) (fun x25 h24 =>
            if x25 = v4 then
              R 168 [(0, aR o), (1, aR v1), (2, aR v2), (3, aI (1 : Int32)), (4, aI (v4 + (1 : Int32)))] [] h24
            else
              R 168 [(0, aR o), (1, aR v1), (2, aR v2), (3, aI (0 : Int32)), (4, aI (v4 + (1 : Int32)))] [] h24) xT) xT) xT))) xT) xT)) rfl rfl rfl (fun R E => rfl)
set_option maxRecDepth 100000 in
theorem lf_322_262 (o : Option (Nat × Nat)) (v1 : Option (Nat × Nat)) (v2 : Option (Nat × Nat)) (v3 : Int32) (v4 : Int32) (h : Hp) : Ru 322 262 [(0, aR o), (1, aR v1), (2, aR v2), (3, aI v3), (4, aI v4)] [] h =
    (gaI h v2 1000 (2 : Int32)).bind (fun x1 =>
    if x1 ≤ v4 then
      gz v3 (some (.inl (some (aI v3)), h))
    else
      cI (Ex 319 [aR v1] h) (fun x3 h2 =>
      (gaI h2 v2 1000 (0 : Int32)).bind (fun x4 =>
      if x4 = 0 then none else
      (pa h2 v2 1000 ((20 : Int32) + v4) (aI (imod x3 x4))).bind (fun h5 =>
      cI (Ex 320 [aR v1, aI (0 : Int32), aI (9999 : Int32)] h5) (fun x7 h6 =>
      (pa h6 v2 1000 ((30 : Int32) + v4) (aI x7)).bind (fun h8 =>
      if v3 = 0 then
        Ru 322 262 [(0, aR o), (1, aR v1), (2, aR v2), (3, aI (0 : Int32)), (4, aI (v4 + (1 : Int32)))] [] h8
      else
        (gaI h8 v2 1000 ((20 : Int32) + v4)).bind (fun x9 =>
        (gaI h8 v2 1000 ((30 : Int32) + v4)).bind (fun x10 =>
        cI (Ex 320 [aR v1, aI (0 : Int32), aI (9 : Int32)] h8) (fun x12 h11 =>
        cI (Ex 320 [aR v1, aI (0 : Int32), aI (9000 : Int32)] h11) (fun x14 h13 =>
        cI (Ex 321 [aR o, aI (2 : Int32), aI x9, aI x10, aI x12, aI x14] h13) (fun x16 h15 =>
        if x16 = v4 then
          cI (Ex 321 [aR o, aI (15 : Int32), aI v4, aI (7 : Int32), aI (0 : Int32), aI (0 : Int32)] h15) (fun x18 h17 =>
          cL (Ex 323 [aI v4] h17) (fun x20 h19 =>
          if x18 = x20.toInt32 then
            Ru 322 262 [(0, aR o), (1, aR v1), (2, aR v2), (3, aI (1 : Int32)), (4, aI (v4 + (1 : Int32)))] [] h19
          else
            Ru 322 262 [(0, aR o), (1, aR v1), (2, aR v2), (3, aI (0 : Int32)), (4, aI (v4 + (1 : Int32)))] [] h19) xT) xT
        else
          Ru 322 262 [(0, aR o), (1, aR v1), (2, aR v2), (3, aI (0 : Int32)), (4, aI (v4 + (1 : Int32)))] [] h15) xT) xT) xT)))) xT))) xT) :=
  lift_of (k := 67) (rows := code_322) (cuts := cut_322) (hs := hdl_322) (r := fun R E =>
    (gaI h v2 1000 (2 : Int32)).bind (fun x1 =>
    if x1 ≤ v4 then
      gz v3 (some (.inl (some (aI v3)), h))
    else
      cI (E 319 [aR v1] h) (fun x3 h2 =>
      (gaI h2 v2 1000 (0 : Int32)).bind (fun x4 =>
      if x4 = 0 then none else
      (pa h2 v2 1000 ((20 : Int32) + v4) (aI (imod x3 x4))).bind (fun h5 =>
      cI (E 320 [aR v1, aI (0 : Int32), aI (9999 : Int32)] h5) (fun x7 h6 =>
      (pa h6 v2 1000 ((30 : Int32) + v4) (aI x7)).bind (fun h8 =>
      if v3 = 0 then
        R 262 [(0, aR o), (1, aR v1), (2, aR v2), (3, aI (0 : Int32)), (4, aI (v4 + (1 : Int32)))] [] h8
      else
        (gaI h8 v2 1000 ((20 : Int32) + v4)).bind (fun x9 =>
        (gaI h8 v2 1000 ((30 : Int32) + v4)).bind (fun x10 =>
        cI (E 320 [aR v1, aI (0 : Int32), aI (9 : Int32)] h8) (fun x12 h11 =>
        cI (E 320 [aR v1, aI (0 : Int32), aI (9000 : Int32)] h11) (fun x14 h13 =>
        cI (E 321 [aR o, aI (2 : Int32), aI x9, aI x10, aI x12, aI x14] h13) (fun x16 h15 =>
        if x16 = v4 then
          cI (E 321 [aR o, aI (15 : Int32), aI v4, aI (7 : Int32), aI (0 : Int32), aI (0 : Int32)] h15) (fun x18 h17 =>
          cL (E 323 [aI v4] h17) (fun x20 h19 =>
          if x18 = x20.toInt32 then
            R 262 [(0, aR o), (1, aR v1), (2, aR v2), (3, aI (1 : Int32)), (4, aI (v4 + (1 : Int32)))] [] h19
          else
            R 262 [(0, aR o), (1, aR v1), (2, aR v2), (3, aI (0 : Int32)), (4, aI (v4 + (1 : Int32)))] [] h19) xT) xT
        else
          R 262 [(0, aR o), (1, aR v1), (2, aR v2), (3, aI (0 : Int32)), (4, aI (v4 + (1 : Int32)))] [] h15) xT) xT) xT)))) xT))) xT)) rfl rfl rfl (fun R E => rfl)
-- 323 ChipcardhouseLaw.key(I)J
set_option maxRecDepth 100000 in
theorem lf_323_0 (p0 : Int32) (h : Hp) : Ru 323 0 [(0, aI p0)] [] h =
    some (.inl (some (aL (lmod (((((271 : Int64) * p0.toInt64) * p0.toInt64) + ((7919 : Int64) * p0.toInt64)) + (4242 : Int64)) (9973 : Int64)))), h) :=
  lift_of (k := 18) (rows := code_323) (cuts := cut_323) (hs := hdl_323) (r := fun R E =>
    some (.inl (some (aL (lmod (((((271 : Int64) * p0.toInt64) * p0.toInt64) + ((7919 : Int64) * p0.toInt64)) + (4242 : Int64)) (9973 : Int64)))), h)) rfl rfl rfl (fun R E => rfl)
-- 324 ChipcardhouseLaw.mixed(JI)J
set_option maxRecDepth 100000 in
theorem lf_324_0 (p0 : Int64) (p1 : Int32) (h : Hp) : Ru 324 0 [(0, aL p0), (2, aI p1)] [] h =
    some (.inl (some (aL (lmod (((p0 * (37 : Int64)) + p1.toInt64) + (11 : Int64)) (999983 : Int64)))), h) :=
  lift_of (k := 12) (rows := code_324) (cuts := cut_324) (hs := hdl_324) (r := fun R E =>
    some (.inl (some (aL (lmod (((p0 * (37 : Int64)) + p1.toInt64) + (11 : Int64)) (999983 : Int64)))), h)) rfl rfl rfl (fun R E => rfl)
-- 325 ChipcardhouseLaw.stamp(IIIII)I
set_option maxRecDepth 100000 in
theorem lf_325_0 (p0 : Int32) (p1 : Int32) (p2 : Int32) (p3 : Int32) (p4 : Int32) (h : Hp) : Ru 325 0 [(0, aI p0), (1, aI p1), (2, aI p2), (3, aI p3), (4, aI p4)] [] h =
    cL (Ex 323 [aI p0] h) (fun x2 h1 =>
    cL (Ex 324 [aL x2, aI p1] h1) (fun x4 h3 =>
    cL (Ex 324 [aL x4, aI p2] h3) (fun x6 h5 =>
    cL (Ex 324 [aL x6, aI p3] h5) (fun x8 h7 =>
    cL (Ex 324 [aL x8, aI p4] h7) (fun x10 h9 =>
    some (.inl (some (aI x10.toInt32)), h9)) xT) xT) xT) xT) xT :=
  lift_of (k := 13) (rows := code_325) (cuts := cut_325) (hs := hdl_325) (r := fun R E =>
    cL (E 323 [aI p0] h) (fun x2 h1 =>
    cL (E 324 [aL x2, aI p1] h1) (fun x4 h3 =>
    cL (E 324 [aL x4, aI p2] h3) (fun x6 h5 =>
    cL (E 324 [aL x6, aI p3] h5) (fun x8 h7 =>
    cL (E 324 [aL x8, aI p4] h7) (fun x10 h9 =>
    some (.inl (some (aI x10.toInt32)), h9)) xT) xT) xT) xT) xT) rfl rfl rfl (fun R E => rfl)
-- 326 ChipcardhouseLaw.isGranted(LChipcardhouse;I)Z
set_option maxRecDepth 100000 in
theorem lf_326_0 (p0 : Option (Nat × Nat)) (p1 : Int32) (h : Hp) : Ru 326 0 [(0, aR p0), (1, aI p1)] [] h =
    cI (Ex 321 [aR p0, aI (16 : Int32), aI p1, aI (0 : Int32), aI (0 : Int32), aI (0 : Int32)] h) (fun x2 h1 =>
    if x2 = 0 then
      some (.inl (some (aI (1 : Int32))), h1)
    else
      if x2 = (2 : Int32) then
        some (.inl (some (aI (1 : Int32))), h1)
      else
        some (.inl (some (aI (0 : Int32))), h1)) xT :=
  lift_of (k := 17) (rows := code_326) (cuts := cut_326) (hs := hdl_326) (r := fun R E =>
    cI (E 321 [aR p0, aI (16 : Int32), aI p1, aI (0 : Int32), aI (0 : Int32), aI (0 : Int32)] h) (fun x2 h1 =>
    if x2 = 0 then
      some (.inl (some (aI (1 : Int32))), h1)
    else
      if x2 = (2 : Int32) then
        some (.inl (some (aI (1 : Int32))), h1)
      else
        some (.inl (some (aI (0 : Int32))), h1)) xT) rfl rfl rfl (fun R E => rfl)
-- 327 ChipcardhouseLaw.holds(LChipcardhouse;[I)Z
set_option maxRecDepth 100000 in
theorem lf_327_0 (p0 : Option (Nat × Nat)) (p1 : Option (Nat × Nat)) (h : Hp) : Ru 327 0 [(0, aR p0), (1, aR p1)] [] h =
    cL (Ex 131 [aR p0] h) (fun x2 h1 =>
    Ru 327 11 [(0, aR p0), (1, aR p1), (2, aL (0 : Int64)), (4, aL x2), (6, aI (0 : Int32))] [] h1) xT :=
  lift_of (k := 8) (rows := code_327) (cuts := cut_327) (hs := hdl_327) (r := fun R E =>
    cL (E 131 [aR p0] h) (fun x2 h1 =>
    R 11 [(0, aR p0), (1, aR p1), (2, aL (0 : Int64)), (4, aL x2), (6, aI (0 : Int32))] [] h1) xT) rfl rfl rfl (fun R E => rfl)
set_option maxRecDepth 100000 in
theorem lf_327_11 (o : Option (Nat × Nat)) (v1 : Option (Nat × Nat)) (v2 : Int64) (v4 : Int64) (v6 : Int32) (h : Hp) : Ru 327 11 [(0, aR o), (1, aR v1), (2, aL v2), (4, aL v4), (6, aI v6)] [] h =
    (gaI h v1 1000 (0 : Int32)).bind (fun x1 =>
    if x1 ≤ v6 then
      Ru 327 149 [(0, aR o), (1, aR v1), (2, aL v2), (4, aL v4), (6, aI (0 : Int32))] [] h
    else
      (gaI h v1 1000 ((10 : Int32) + v6)).bind (fun x2 =>
      cL (Ex 128 [aR o, aI v6, aI (0 : Int32)] h) (fun x4 h3 =>
      Ru 327 48 [(0, aR o), (1, aR v1), (2, aL (v2 + x2.toInt64)), (4, aL (v4 + x4)), (6, aI v6), (7, aL (0 : Int64)), (9, aI (0 : Int32))] [] h3) xT)) :=
  lift_of (k := 26) (rows := code_327) (cuts := cut_327) (hs := hdl_327) (r := fun R E =>
    (gaI h v1 1000 (0 : Int32)).bind (fun x1 =>
    if x1 ≤ v6 then
      R 149 [(0, aR o), (1, aR v1), (2, aL v2), (4, aL v4), (6, aI (0 : Int32))] [] h
    else
      (gaI h v1 1000 ((10 : Int32) + v6)).bind (fun x2 =>
      cL (E 128 [aR o, aI v6, aI (0 : Int32)] h) (fun x4 h3 =>
      R 48 [(0, aR o), (1, aR v1), (2, aL (v2 + x2.toInt64)), (4, aL (v4 + x4)), (6, aI v6), (7, aL (0 : Int64)), (9, aI (0 : Int32))] [] h3) xT))) rfl rfl rfl (fun R E => rfl)
set_option maxRecDepth 100000 in
theorem lf_327_48 (o : Option (Nat × Nat)) (v1 : Option (Nat × Nat)) (v2 : Int64) (v4 : Int64) (v6 : Int32) (v7 : Int64) (v9 : Int32) (h : Hp) : Ru 327 48 [(0, aR o), (1, aR v1), (2, aL v2), (4, aL v4), (6, aI v6), (7, aL v7), (9, aI v9)] [] h =
    (gaI h v1 1000 (3 : Int32)).bind (fun x1 =>
    if x1 ≤ v9 then
      cL (Ex 128 [aR o, aI v6, aI (1 : Int32)] h) (fun x3 h2 =>
      if (lg_cmp x3 v7) = 0 then
        cL (Ex 128 [aR o, aI v6, aI (2 : Int32)] h2) (fun x5 h4 =>
        cL (Ex 128 [aR o, aI v6, aI (0 : Int32)] h4) (fun x7 h6 =>
        if (lg_cmp x5 (x7 - v7)) = 0 then
          Ru 327 11 [(0, aR o), (1, aR v1), (2, aL v2), (4, aL v4), (6, aI (v6 + (1 : Int32)))] [] h6
        else
          some (.inl (some (aI (0 : Int32))), h6)) xT) xT
      else
        some (.inl (some (aI (0 : Int32))), h2)) xT
    else
      cI (Ex 321 [aR o, aI (16 : Int32), aI v9, aI (1 : Int32), aI (0 : Int32), aI (0 : Int32)] h) (fun x9 h8 =>
      (gaI h8 v1 1000 ((20 : Int32) + x9)).bind (fun x10 =>
      if x10 = v6 then
        cI (Ex 321 [aR o, aI (17 : Int32), aI v9, aI (1 : Int32), aI (0 : Int32), aI (0 : Int32)] h8) (fun x12 h11 =>
        Ru 327 48 [(0, aR o), (1, aR v1), (2, aL v2), (4, aL v4), (6, aI v6), (7, aL (v7 + x12.toInt64)), (9, aI (v9 + (1 : Int32)))] [] h11) xT
      else
        Ru 327 48 [(0, aR o), (1, aR v1), (2, aL v2), (4, aL v4), (6, aI v6), (7, aL (v7 + (0 : Int64))), (9, aI (v9 + (1 : Int32)))] [] h8)) xT) :=
  lift_of (k := 33) (rows := code_327) (cuts := cut_327) (hs := hdl_327) (r := fun R E =>
    (gaI h v1 1000 (3 : Int32)).bind (fun x1 =>
    if x1 ≤ v9 then
      cL (E 128 [aR o, aI v6, aI (1 : Int32)] h) (fun x3 h2 =>
      if (lg_cmp x3 v7) = 0 then
        cL (E 128 [aR o, aI v6, aI (2 : Int32)] h2) (fun x5 h4 =>
        cL (E 128 [aR o, aI v6, aI (0 : Int32)] h4) (fun x7 h6 =>
        if (lg_cmp x5 (x7 - v7)) = 0 then
          R 11 [(0, aR o), (1, aR v1), (2, aL v2), (4, aL v4), (6, aI (v6 + (1 : Int32)))] [] h6
        else
          some (.inl (some (aI (0 : Int32))), h6)) xT) xT
      else
        some (.inl (some (aI (0 : Int32))), h2)) xT
    else
      cI (E 321 [aR o, aI (16 : Int32), aI v9, aI (1 : Int32), aI (0 : Int32), aI (0 : Int32)] h) (fun x9 h8 =>
      (gaI h8 v1 1000 ((20 : Int32) + x9)).bind (fun x10 =>
      if x10 = v6 then
        cI (E 321 [aR o, aI (17 : Int32), aI v9, aI (1 : Int32), aI (0 : Int32), aI (0 : Int32)] h8) (fun x12 h11 =>
        R 48 [(0, aR o), (1, aR v1), (2, aL v2), (4, aL v4), (6, aI v6), (7, aL (v7 + x12.toInt64)), (9, aI (v9 + (1 : Int32)))] [] h11) xT
      else
        R 48 [(0, aR o), (1, aR v1), (2, aL v2), (4, aL v4), (6, aI v6), (7, aL (v7 + (0 : Int64))), (9, aI (v9 + (1 : Int32)))] [] h8)) xT)) rfl rfl rfl (fun R E => rfl)
set_option maxRecDepth 100000 in
theorem lf_327_149 (o : Option (Nat × Nat)) (v1 : Option (Nat × Nat)) (v2 : Int64) (v4 : Int64) (v6 : Int32) (h : Hp) : Ru 327 149 [(0, aR o), (1, aR v1), (2, aL v2), (4, aL v4), (6, aI v6)] [] h =
    (gaI h v1 1000 (1 : Int32)).bind (fun x1 =>
    if x1 ≤ v6 then
      if (lg_cmp v4 v2) = 0 then
        cI (Ex 130 [aR o, aI (5 : Int32)] h) (fun x3 h2 =>
        (gaI h2 v1 1000 (3 : Int32)).bind (fun x4 =>
        if x3 = x4 then
          Ru 327 226 [(0, aR o), (1, aR v1), (6, aI (0 : Int32)), (7, aI (0 : Int32)), (8, aI (0 : Int32))] [] h2
        else
          some (.inl (some (aI (0 : Int32))), h2))) xT
      else
        some (.inl (some (aI (0 : Int32))), h)
    else
      cL (Ex 129 [aR o, aI v6, aI (0 : Int32)] h) (fun x6 h5 =>
      cL (Ex 129 [aR o, aI v6, aI (1 : Int32)] h5) (fun x8 h7 =>
      cL (Ex 129 [aR o, aI v6, aI (0 : Int32)] h7) (fun x10 h9 =>
      if 0 ≤ (lg_cmp x10 (0 : Int64)) then
        Ru 327 149 [(0, aR o), (1, aR v1), (2, aL v2), (4, aL (v4 + (x6 + x8))), (6, aI (v6 + (1 : Int32)))] [] h9
      else
        some (.inl (some (aI (0 : Int32))), h9)) xT) xT) xT) :=
  lift_of (k := 27) (rows := code_327) (cuts := cut_327) (hs := hdl_327) (r := fun R E =>
    (gaI h v1 1000 (1 : Int32)).bind (fun x1 =>
    if x1 ≤ v6 then
      if (lg_cmp v4 v2) = 0 then
        cI (E 130 [aR o, aI (5 : Int32)] h) (fun x3 h2 =>
        (gaI h2 v1 1000 (3 : Int32)).bind (fun x4 =>
        if x3 = x4 then
          R 226 [(0, aR o), (1, aR v1), (6, aI (0 : Int32)), (7, aI (0 : Int32)), (8, aI (0 : Int32))] [] h2
        else
          some (.inl (some (aI (0 : Int32))), h2))) xT
      else
        some (.inl (some (aI (0 : Int32))), h)
    else
      cL (E 129 [aR o, aI v6, aI (0 : Int32)] h) (fun x6 h5 =>
      cL (E 129 [aR o, aI v6, aI (1 : Int32)] h5) (fun x8 h7 =>
      cL (E 129 [aR o, aI v6, aI (0 : Int32)] h7) (fun x10 h9 =>
      if 0 ≤ (lg_cmp x10 (0 : Int64)) then
        R 149 [(0, aR o), (1, aR v1), (2, aL v2), (4, aL (v4 + (x6 + x8))), (6, aI (v6 + (1 : Int32)))] [] h9
      else
        some (.inl (some (aI (0 : Int32))), h9)) xT) xT) xT)) rfl rfl rfl (fun R E => rfl)
set_option maxRecDepth 100000 in
theorem lf_327_226 (o : Option (Nat × Nat)) (v1 : Option (Nat × Nat)) (v6 : Int32) (v7 : Int32) (v8 : Int32) (h : Hp) : Ru 327 226 [(0, aR o), (1, aR v1), (6, aI v6), (7, aI v7), (8, aI v8)] [] h =
    (gaI h v1 1000 (3 : Int32)).bind (fun x1 =>
    if x1 ≤ v8 then
      cI (Ex 130 [aR o, aI (6 : Int32)] h) (fun x3 h2 =>
      if v6 < x3 then
        Ru 327 520 [] [] h2
      else
        (gaI h2 v1 1000 (4 : Int32)).bind (fun x4 =>
        if x4 = 0 then
          cI (Ex 130 [aR o, aI (6 : Int32)] h2) (fun x6 h5 =>
          if x6 = v7 then
            Ru 327 525 [(0, aR o), (1, aR v1), (8, aI (0 : Int32))] [] h5
          else
            Ru 327 520 [] [] h5) xT
        else
          Ru 327 525 [(0, aR o), (1, aR v1), (8, aI (0 : Int32))] [] h2)) xT
    else
      cI (Ex 321 [aR o, aI (16 : Int32), aI v8, aI (0 : Int32), aI (0 : Int32), aI (0 : Int32)] h) (fun x8 h7 =>
      cI (Ex 326 [aR o, aI v8] h7) (fun x10 h9 =>
      if x10 = 0 then
        cI (Ex 321 [aR o, aI (16 : Int32), aI v8, aI (5 : Int32), aI (0 : Int32), aI (0 : Int32)] h9) (fun x12 h11 =>
        cI (Ex 321 [aR o, aI (16 : Int32), aI v8, aI (1 : Int32), aI (0 : Int32), aI (0 : Int32)] h11) (fun x14 h13 =>
        cI (Ex 321 [aR o, aI (16 : Int32), aI v8, aI (4 : Int32), aI (0 : Int32), aI (0 : Int32)] h13) (fun x16 h15 =>
        cI (Ex 321 [aR o, aI (16 : Int32), aI v8, aI (3 : Int32), aI (0 : Int32), aI (0 : Int32)] h15) (fun x18 h17 =>
        cI (Ex 321 [aR o, aI (16 : Int32), aI v8, aI (2 : Int32), aI (0 : Int32), aI (0 : Int32)] h17) (fun x20 h19 =>
        if x8 = 0 then
          cI (Ex 325 [aI x14, aI x16, aI x18, aI x20, aI (1 : Int32)] h19) (fun x22 h21 =>
          if x12 = x22 then
            cI (Ex 321 [aR o, aI (17 : Int32), aI v8, aI (2 : Int32), aI (0 : Int32), aI (0 : Int32)] h21) (fun x24 h23 =>
            if x24 = (1 : Int32) then
              Ru 327 359 [(0, aR o), (1, aR v1), (6, aI (v6 + (0 : Int32))), (7, aI v7), (8, aI v8)] [aI (1 : Int32)] h23
            else
              Ru 327 359 [(0, aR o), (1, aR v1), (6, aI (v6 + (0 : Int32))), (7, aI v7), (8, aI v8)] [aI (0 : Int32)] h23) xT
          else
            some (.inl (some (aI (0 : Int32))), h21)) xT
        else
          cI (Ex 325 [aI x14, aI x16, aI x18, aI x20, aI (2 : Int32)] h19) (fun x26 h25 =>
          if x12 = x26 then
            cI (Ex 321 [aR o, aI (17 : Int32), aI v8, aI (2 : Int32), aI (0 : Int32), aI (0 : Int32)] h25) (fun x28 h27 =>
            if x28 = (1 : Int32) then
              Ru 327 359 [(0, aR o), (1, aR v1), (6, aI (v6 + (0 : Int32))), (7, aI v7), (8, aI v8)] [aI (1 : Int32)] h27
            else
              Ru 327 359 [(0, aR o), (1, aR v1), (6, aI (v6 + (0 : Int32))), (7, aI v7), (8, aI v8)] [aI (0 : Int32)] h27) xT
          else
            some (.inl (some (aI (0 : Int32))), h25)) xT) xT) xT) xT) xT) xT
      else
        cI (Ex 321 [aR o, aI (16 : Int32), aI v8, aI (5 : Int32), aI (0 : Int32), aI (0 : Int32)] h9) (fun x30 h29 =>
        cI (Ex 321 [aR o, aI (16 : Int32), aI v8, aI (1 : Int32), aI (0 : Int32), aI (0 : Int32)] h29) (fun x32 h31 =>
        cI (Ex 321 [aR o, aI (16 : Int32), aI v8, aI (4 : Int32), aI (0 : Int32), aI (0 : Int32)] h31) (fun x34 h33 =>
        cI (Ex 321 [aR o, aI (16 : Int32), aI v8, aI (3 : Int32), aI (0 : Int32), aI (0 : Int32)] h33) (fun x36 h35 =>
        cI (Ex 321 [aR o, aI (16 : Int32), aI v8, aI (2 : Int32), aI (0 : Int32), aI (0 : Int32)] h35) (fun x38 h37 =>
        if x8 = 0 then
          cI (Ex 325 [aI x32, aI x34, aI x36, aI x38, aI (1 : Int32)] h37) (fun x40 h39 =>
          if x30 = x40 then
            cI (Ex 321 [aR o, aI (17 : Int32), aI v8, aI (2 : Int32), aI (0 : Int32), aI (0 : Int32)] h39) (fun x42 h41 =>
            if x42 = (1 : Int32) then
              Ru 327 359 [(0, aR o), (1, aR v1), (6, aI (v6 + (1 : Int32))), (7, aI v7), (8, aI v8)] [aI (1 : Int32)] h41
            else
              Ru 327 359 [(0, aR o), (1, aR v1), (6, aI (v6 + (1 : Int32))), (7, aI v7), (8, aI v8)] [aI (0 : Int32)] h41) xT
          else
            some (.inl (some (aI (0 : Int32))), h39)) xT
        else
          cI (Ex 325 [aI x32, aI x34, aI x36, aI x38, aI (2 : Int32)] h37) (fun x44 h43 =>
          if x30 = x44 then
            cI (Ex 321 [aR o, aI (17 : Int32), aI v8, aI (2 : Int32), aI (0 : Int32), aI (0 : Int32)] h43) (fun x46 h45 =>
            if x46 = (1 : Int32) then
              Ru 327 359 [(0, aR o), (1, aR v1), (6, aI (v6 + (1 : Int32))), (7, aI v7), (8, aI v8)] [aI (1 : Int32)] h45
            else
              Ru 327 359 [(0, aR o), (1, aR v1), (6, aI (v6 + (1 : Int32))), (7, aI v7), (8, aI v8)] [aI (0 : Int32)] h45) xT
          else
            some (.inl (some (aI (0 : Int32))), h43)) xT) xT) xT) xT) xT) xT) xT) xT) :=
  lift_of (k := 75) (rows := code_327) (cuts := cut_327) (hs := hdl_327) (r := fun R E =>
    (gaI h v1 1000 (3 : Int32)).bind (fun x1 =>
    if x1 ≤ v8 then
      cI (E 130 [aR o, aI (6 : Int32)] h) (fun x3 h2 =>
      if v6 < x3 then
        R 520 [] [] h2
      else
        (gaI h2 v1 1000 (4 : Int32)).bind (fun x4 =>
        if x4 = 0 then
          cI (E 130 [aR o, aI (6 : Int32)] h2) (fun x6 h5 =>
          if x6 = v7 then
            R 525 [(0, aR o), (1, aR v1), (8, aI (0 : Int32))] [] h5
          else
            R 520 [] [] h5) xT
        else
          R 525 [(0, aR o), (1, aR v1), (8, aI (0 : Int32))] [] h2)) xT
    else
      cI (E 321 [aR o, aI (16 : Int32), aI v8, aI (0 : Int32), aI (0 : Int32), aI (0 : Int32)] h) (fun x8 h7 =>
      cI (E 326 [aR o, aI v8] h7) (fun x10 h9 =>
      if x10 = 0 then
        cI (E 321 [aR o, aI (16 : Int32), aI v8, aI (5 : Int32), aI (0 : Int32), aI (0 : Int32)] h9) (fun x12 h11 =>
        cI (E 321 [aR o, aI (16 : Int32), aI v8, aI (1 : Int32), aI (0 : Int32), aI (0 : Int32)] h11) (fun x14 h13 =>
        cI (E 321 [aR o, aI (16 : Int32), aI v8, aI (4 : Int32), aI (0 : Int32), aI (0 : Int32)] h13) (fun x16 h15 =>
        cI (E 321 [aR o, aI (16 : Int32), aI v8, aI (3 : Int32), aI (0 : Int32), aI (0 : Int32)] h15) (fun x18 h17 =>
        cI (E 321 [aR o, aI (16 : Int32), aI v8, aI (2 : Int32), aI (0 : Int32), aI (0 : Int32)] h17) (fun x20 h19 =>
        if x8 = 0 then
          cI (E 325 [aI x14, aI x16, aI x18, aI x20, aI (1 : Int32)] h19) (fun x22 h21 =>
          if x12 = x22 then
            cI (E 321 [aR o, aI (17 : Int32), aI v8, aI (2 : Int32), aI (0 : Int32), aI (0 : Int32)] h21) (fun x24 h23 =>
            if x24 = (1 : Int32) then
              R 359 [(0, aR o), (1, aR v1), (6, aI (v6 + (0 : Int32))), (7, aI v7), (8, aI v8)] [aI (1 : Int32)] h23
            else
              R 359 [(0, aR o), (1, aR v1), (6, aI (v6 + (0 : Int32))), (7, aI v7), (8, aI v8)] [aI (0 : Int32)] h23) xT
          else
            some (.inl (some (aI (0 : Int32))), h21)) xT
        else
          cI (E 325 [aI x14, aI x16, aI x18, aI x20, aI (2 : Int32)] h19) (fun x26 h25 =>
          if x12 = x26 then
            cI (E 321 [aR o, aI (17 : Int32), aI v8, aI (2 : Int32), aI (0 : Int32), aI (0 : Int32)] h25) (fun x28 h27 =>
            if x28 = (1 : Int32) then
              R 359 [(0, aR o), (1, aR v1), (6, aI (v6 + (0 : Int32))), (7, aI v7), (8, aI v8)] [aI (1 : Int32)] h27
            else
              R 359 [(0, aR o), (1, aR v1), (6, aI (v6 + (0 : Int32))), (7, aI v7), (8, aI v8)] [aI (0 : Int32)] h27) xT
          else
            some (.inl (some (aI (0 : Int32))), h25)) xT) xT) xT) xT) xT) xT
      else
        cI (E 321 [aR o, aI (16 : Int32), aI v8, aI (5 : Int32), aI (0 : Int32), aI (0 : Int32)] h9) (fun x30 h29 =>
        cI (E 321 [aR o, aI (16 : Int32), aI v8, aI (1 : Int32), aI (0 : Int32), aI (0 : Int32)] h29) (fun x32 h31 =>
        cI (E 321 [aR o, aI (16 : Int32), aI v8, aI (4 : Int32), aI (0 : Int32), aI (0 : Int32)] h31) (fun x34 h33 =>
        cI (E 321 [aR o, aI (16 : Int32), aI v8, aI (3 : Int32), aI (0 : Int32), aI (0 : Int32)] h33) (fun x36 h35 =>
        cI (E 321 [aR o, aI (16 : Int32), aI v8, aI (2 : Int32), aI (0 : Int32), aI (0 : Int32)] h35) (fun x38 h37 =>
        if x8 = 0 then
          cI (E 325 [aI x32, aI x34, aI x36, aI x38, aI (1 : Int32)] h37) (fun x40 h39 =>
          if x30 = x40 then
            cI (E 321 [aR o, aI (17 : Int32), aI v8, aI (2 : Int32), aI (0 : Int32), aI (0 : Int32)] h39) (fun x42 h41 =>
            if x42 = (1 : Int32) then
              R 359 [(0, aR o), (1, aR v1), (6, aI (v6 + (1 : Int32))), (7, aI v7), (8, aI v8)] [aI (1 : Int32)] h41
            else
              R 359 [(0, aR o), (1, aR v1), (6, aI (v6 + (1 : Int32))), (7, aI v7), (8, aI v8)] [aI (0 : Int32)] h41) xT
          else
            some (.inl (some (aI (0 : Int32))), h39)) xT
        else
          cI (E 325 [aI x32, aI x34, aI x36, aI x38, aI (2 : Int32)] h37) (fun x44 h43 =>
          if x30 = x44 then
            cI (E 321 [aR o, aI (17 : Int32), aI v8, aI (2 : Int32), aI (0 : Int32), aI (0 : Int32)] h43) (fun x46 h45 =>
            if x46 = (1 : Int32) then
              R 359 [(0, aR o), (1, aR v1), (6, aI (v6 + (1 : Int32))), (7, aI v7), (8, aI v8)] [aI (1 : Int32)] h45
            else
              R 359 [(0, aR o), (1, aR v1), (6, aI (v6 + (1 : Int32))), (7, aI v7), (8, aI v8)] [aI (0 : Int32)] h45) xT
          else
            some (.inl (some (aI (0 : Int32))), h43)) xT) xT) xT) xT) xT) xT) xT) xT)) rfl rfl rfl (fun R E => rfl)
set_option maxRecDepth 100000 in
theorem lf_327_359 (o : Option (Nat × Nat)) (v1 : Option (Nat × Nat)) (v6 : Int32) (v7 : Int32) (v8 : Int32) (s0 : Int32) (h : Hp) : Ru 327 359 [(0, aR o), (1, aR v1), (6, aI v6), (7, aI v7), (8, aI v8)] [aI s0] h =
    cI (Ex 321 [aR o, aI (17 : Int32), aI v8, aI (1 : Int32), aI (0 : Int32), aI (0 : Int32)] h) (fun x2 h1 =>
    if x2 ≤ 0 then
      Ru 327 397 [(0, aR o), (1, aR v1), (6, aI v6), (7, aI v7), (8, aI v8), (10, aI s0)] [] h1
    else
      if s0 = 0 then
        cI (Ex 321 [aR o, aI (17 : Int32), aI v8, aI (3 : Int32), aI (0 : Int32), aI (0 : Int32)] h1) (fun x4 h3 =>
        if x4 = (1 : Int32) then
          Ru 327 395 [] [] h3
        else
          Ru 327 397 [(0, aR o), (1, aR v1), (6, aI v6), (7, aI v7), (8, aI v8), (10, aI s0)] [] h3) xT
      else
        Ru 327 395 [] [] h1) xT :=
  lift_of (k := 21) (rows := code_327) (cuts := cut_327) (hs := hdl_327) (r := fun R E =>
    cI (E 321 [aR o, aI (17 : Int32), aI v8, aI (1 : Int32), aI (0 : Int32), aI (0 : Int32)] h) (fun x2 h1 =>
    if x2 ≤ 0 then
      R 397 [(0, aR o), (1, aR v1), (6, aI v6), (7, aI v7), (8, aI v8), (10, aI s0)] [] h1
    else
      if s0 = 0 then
        cI (E 321 [aR o, aI (17 : Int32), aI v8, aI (3 : Int32), aI (0 : Int32), aI (0 : Int32)] h1) (fun x4 h3 =>
        if x4 = (1 : Int32) then
          R 395 [] [] h3
        else
          R 397 [(0, aR o), (1, aR v1), (6, aI v6), (7, aI v7), (8, aI v8), (10, aI s0)] [] h3) xT
      else
        R 395 [] [] h1) xT) rfl rfl rfl (fun R E => rfl)
set_option maxRecDepth 100000 in
theorem lf_327_395  (h : Hp) : Ru 327 395 [] [] h =
    some (.inl (some (aI (0 : Int32))), h) :=
  lift_of (k := 3) (rows := code_327) (cuts := cut_327) (hs := hdl_327) (r := fun R E =>
    some (.inl (some (aI (0 : Int32))), h)) rfl rfl rfl (fun R E => rfl)
set_option maxRecDepth 100000 in
theorem lf_327_397 (o : Option (Nat × Nat)) (v1 : Option (Nat × Nat)) (v6 : Int32) (v7 : Int32) (v8 : Int32) (v10 : Int32) (h : Hp) : Ru 327 397 [(0, aR o), (1, aR v1), (6, aI v6), (7, aI v7), (8, aI v8), (10, aI v10)] [] h =
    if v10 = 0 then
      Ru 327 435 [(0, aR o), (1, aR v1), (6, aI v6), (7, aI v7), (8, aI v8), (10, aI v10)] [] h
    else
      (gaI h v1 1000 (4 : Int32)).bind (fun x1 =>
      if x1 = 0 then
        cI (Ex 326 [aR o, aI v8] h) (fun x3 h2 =>
        if x3 = 0 then
          Ru 327 433 [] [] h2
        else
          cI (Ex 321 [aR o, aI (16 : Int32), aI v8, aI (9 : Int32), aI (0 : Int32), aI (0 : Int32)] h2) (fun x5 h4 =>
          if x5 = (1 : Int32) then
            Ru 327 435 [(0, aR o), (1, aR v1), (6, aI v6), (7, aI v7), (8, aI v8), (10, aI v10)] [] h4
          else
            Ru 327 433 [] [] h4) xT) xT
      else
        Ru 327 435 [(0, aR o), (1, aR v1), (6, aI v6), (7, aI v7), (8, aI v8), (10, aI v10)] [] h) :=
  lift_of (k := 20) (rows := code_327) (cuts := cut_327) (hs := hdl_327) (r := fun R E =>
    if v10 = 0 then
      R 435 [(0, aR o), (1, aR v1), (6, aI v6), (7, aI v7), (8, aI v8), (10, aI v10)] [] h
    else
      (gaI h v1 1000 (4 : Int32)).bind (fun x1 =>
      if x1 = 0 then
        cI (E 326 [aR o, aI v8] h) (fun x3 h2 =>
        if x3 = 0 then
          R 433 [] [] h2
        else
          cI (E 321 [aR o, aI (16 : Int32), aI v8, aI (9 : Int32), aI (0 : Int32), aI (0 : Int32)] h2) (fun x5 h4 =>
          if x5 = (1 : Int32) then
            R 435 [(0, aR o), (1, aR v1), (6, aI v6), (7, aI v7), (8, aI v8), (10, aI v10)] [] h4
          else
            R 433 [] [] h4) xT) xT
      else
        R 435 [(0, aR o), (1, aR v1), (6, aI v6), (7, aI v7), (8, aI v8), (10, aI v10)] [] h)) rfl rfl rfl (fun R E => rfl)
set_option maxRecDepth 100000 in
theorem lf_327_433  (h : Hp) : Ru 327 433 [] [] h =
    some (.inl (some (aI (0 : Int32))), h) :=
  lift_of (k := 3) (rows := code_327) (cuts := cut_327) (hs := hdl_327) (r := fun R E =>
    some (.inl (some (aI (0 : Int32))), h)) rfl rfl rfl (fun R E => rfl)
set_option maxRecDepth 100000 in
theorem lf_327_435 (o : Option (Nat × Nat)) (v1 : Option (Nat × Nat)) (v6 : Int32) (v7 : Int32) (v8 : Int32) (v10 : Int32) (h : Hp) : Ru 327 435 [(0, aR o), (1, aR v1), (6, aI v6), (7, aI v7), (8, aI v8), (10, aI v10)] [] h =
    if v10 = 0 then
      Ru 327 447 [(0, aR o), (1, aR v1), (6, aI v6), (8, aI v8), (10, aI v10)] [aI (0 : Int32), aI v7] h
    else
      Ru 327 447 [(0, aR o), (1, aR v1), (6, aI v6), (8, aI v8), (10, aI v10)] [aI (1 : Int32), aI v7] h :=
  lift_of (k := 6) (rows := code_327) (cuts := cut_327) (hs := hdl_327) (r := fun R E =>
    if v10 = 0 then
      R 447 [(0, aR o), (1, aR v1), (6, aI v6), (8, aI v8), (10, aI v10)] [aI (0 : Int32), aI v7] h
    else
      R 447 [(0, aR o), (1, aR v1), (6, aI v6), (8, aI v8), (10, aI v10)] [aI (1 : Int32), aI v7] h) rfl rfl rfl (fun R E => rfl)
set_option maxRecDepth 100000 in
theorem lf_327_447 (o : Option (Nat × Nat)) (v1 : Option (Nat × Nat)) (v6 : Int32) (v8 : Int32) (v10 : Int32) (s0 : Int32) (s1 : Int32) (h : Hp) : Ru 327 447 [(0, aR o), (1, aR v1), (6, aI v6), (8, aI v8), (10, aI v10)] [aI s1, aI s0] h =
    if v10 = 0 then
      Ru 327 460 [(0, aR o), (1, aR v1), (6, aI v6), (7, aI (s0 + s1)), (8, aI v8)] [aI (1 : Int32)] h
    else
      Ru 327 460 [(0, aR o), (1, aR v1), (6, aI v6), (7, aI (s0 + s1)), (8, aI v8)] [aI (0 : Int32)] h :=
  lift_of (k := 7) (rows := code_327) (cuts := cut_327) (hs := hdl_327) (r := fun R E =>
    if v10 = 0 then
      R 460 [(0, aR o), (1, aR v1), (6, aI v6), (7, aI (s0 + s1)), (8, aI v8)] [aI (1 : Int32)] h
    else
      R 460 [(0, aR o), (1, aR v1), (6, aI v6), (7, aI (s0 + s1)), (8, aI v8)] [aI (0 : Int32)] h) rfl rfl rfl (fun R E => rfl)
set_option maxRecDepth 100000 in
theorem lf_327_460 (o : Option (Nat × Nat)) (v1 : Option (Nat × Nat)) (v6 : Int32) (v7 : Int32) (v8 : Int32) (s0 : Int32) (h : Hp) : Ru 327 460 [(0, aR o), (1, aR v1), (6, aI v6), (7, aI v7), (8, aI v8)] [aI s0] h =
    cI (Ex 321 [aR o, aI (17 : Int32), aI v8, aI (7 : Int32), aI (0 : Int32), aI (0 : Int32)] h) (fun x2 h1 =>
    if x2 = (-1 : Int32) then
      Ru 327 481 [(0, aR o), (1, aR v1), (6, aI v6), (7, aI v7), (8, aI v8)] [aI (1 : Int32), aI s0] h1
    else
      Ru 327 481 [(0, aR o), (1, aR v1), (6, aI v6), (7, aI v7), (8, aI v8)] [aI (0 : Int32), aI s0] h1) xT :=
  lift_of (k := 12) (rows := code_327) (cuts := cut_327) (hs := hdl_327) (r := fun R E =>
    cI (E 321 [aR o, aI (17 : Int32), aI v8, aI (7 : Int32), aI (0 : Int32), aI (0 : Int32)] h) (fun x2 h1 =>
    if x2 = (-1 : Int32) then
      R 481 [(0, aR o), (1, aR v1), (6, aI v6), (7, aI v7), (8, aI v8)] [aI (1 : Int32), aI s0] h1
    else
      R 481 [(0, aR o), (1, aR v1), (6, aI v6), (7, aI v7), (8, aI v8)] [aI (0 : Int32), aI s0] h1) xT) rfl rfl rfl (fun R E => rfl)
set_option maxRecDepth 100000 in
theorem lf_327_481 (o : Option (Nat × Nat)) (v1 : Option (Nat × Nat)) (v6 : Int32) (v7 : Int32) (v8 : Int32) (s0 : Int32) (s1 : Int32) (h : Hp) : Ru 327 481 [(0, aR o), (1, aR v1), (6, aI v6), (7, aI v7), (8, aI v8)] [aI s1, aI s0] h =
    if s0 = s1 then
      Ru 327 226 [(0, aR o), (1, aR v1), (6, aI v6), (7, aI v7), (8, aI (v8 + (1 : Int32)))] [] h
    else
      some (.inl (some (aI (0 : Int32))), h) :=
  lift_of (k := 4) (rows := code_327) (cuts := cut_327) (hs := hdl_327) (r := fun R E =>
    if s0 = s1 then
      R 226 [(0, aR o), (1, aR v1), (6, aI v6), (7, aI v7), (8, aI (v8 + (1 : Int32)))] [] h
    else
      some (.inl (some (aI (0 : Int32))), h)) rfl rfl rfl (fun R E => rfl)
set_option maxRecDepth 100000 in
theorem lf_327_525 (o : Option (Nat × Nat)) (v1 : Option (Nat × Nat)) (v8 : Int32) (h : Hp) : Ru 327 525 [(0, aR o), (1, aR v1), (8, aI v8)] [] h =
    (gaI h v1 1000 (2 : Int32)).bind (fun x1 =>
    if x1 ≤ v8 then
      some (.inl (some (aI (1 : Int32))), h)
    else
      cI (Ex 321 [aR o, aI (15 : Int32), aI v8, aI (0 : Int32), aI (0 : Int32), aI (0 : Int32)] h) (fun x3 h2 =>
      (gaI h2 v1 1000 ((50 : Int32) + v8)).bind (fun x4 =>
      if x3 = x4 then
        cI (Ex 321 [aR o, aI (15 : Int32), aI v8, aI (1 : Int32), aI (0 : Int32), aI (0 : Int32)] h2) (fun x6 h5 =>
        if x6 < 0 then
          some (.inl (some (aI (0 : Int32))), h5)
        else
          cI (Ex 321 [aR o, aI (15 : Int32), aI v8, aI (1 : Int32), aI (0 : Int32), aI (0 : Int32)] h5) (fun x8 h7 =>
          if (3 : Int32) < x8 then
            some (.inl (some (aI (0 : Int32))), h7)
          else
            cI (Ex 321 [aR o, aI (15 : Int32), aI v8, aI (2 : Int32), aI (0 : Int32), aI (0 : Int32)] h7) (fun x10 h9 =>
            if x10 ≤ (5 : Int32) then
              Ru 327 525 [(0, aR o), (1, aR v1), (8, aI (v8 + (1 : Int32)))] [] h9
            else
              some (.inl (some (aI (0 : Int32))), h9)) xT) xT) xT
      else
        some (.inl (some (aI (0 : Int32))), h2))) xT) :=
  lift_of (k := 47) (rows := code_327) (cuts := cut_327) (hs := hdl_327) (r := fun R E =>
    (gaI h v1 1000 (2 : Int32)).bind (fun x1 =>
    if x1 ≤ v8 then
      some (.inl (some (aI (1 : Int32))), h)
    else
      cI (E 321 [aR o, aI (15 : Int32), aI v8, aI (0 : Int32), aI (0 : Int32), aI (0 : Int32)] h) (fun x3 h2 =>
      (gaI h2 v1 1000 ((50 : Int32) + v8)).bind (fun x4 =>
      if x3 = x4 then
        cI (E 321 [aR o, aI (15 : Int32), aI v8, aI (1 : Int32), aI (0 : Int32), aI (0 : Int32)] h2) (fun x6 h5 =>
        if x6 < 0 then
          some (.inl (some (aI (0 : Int32))), h5)
        else
          cI (E 321 [aR o, aI (15 : Int32), aI v8, aI (1 : Int32), aI (0 : Int32), aI (0 : Int32)] h5) (fun x8 h7 =>
          if (3 : Int32) < x8 then
            some (.inl (some (aI (0 : Int32))), h7)
          else
            cI (E 321 [aR o, aI (15 : Int32), aI v8, aI (2 : Int32), aI (0 : Int32), aI (0 : Int32)] h7) (fun x10 h9 =>
            if x10 ≤ (5 : Int32) then
              R 525 [(0, aR o), (1, aR v1), (8, aI (v8 + (1 : Int32)))] [] h9
            else
              some (.inl (some (aI (0 : Int32))), h9)) xT) xT) xT
      else
        some (.inl (some (aI (0 : Int32))), h2))) xT)) rfl rfl rfl (fun R E => rfl)
set_option maxRecDepth 100000 in
theorem lf_327_520  (h : Hp) : Ru 327 520 [] [] h =
    some (.inl (some (aI (0 : Int32))), h) :=
  lift_of (k := 3) (rows := code_327) (cuts := cut_327) (hs := hdl_327) (r := fun R E =>
    some (.inl (some (aI (0 : Int32))), h)) rfl rfl rfl (fun R E => rfl)
-- 328 ChipcardhouseLaw.pays(LChipcardhouse;[I[I)Z
set_option maxRecDepth 100000 in
theorem lf_328_0 (p0 : Option (Nat × Nat)) (p1 : Option (Nat × Nat)) (p2 : Option (Nat × Nat)) (h : Hp) : Ru 328 0 [(0, aR p0), (1, aR p1), (2, aR p2)] [] h =
    cI (Ex 319 [aR p1] h) (fun x2 h1 =>
    (gaI h1 p2 1000 (2 : Int32)).bind (fun x3 =>
    if x3 = 0 then none else
    cI (Ex 319 [aR p1] h1) (fun x5 h4 =>
    (gaI h4 p2 1000 (1 : Int32)).bind (fun x6 =>
    if x6 = 0 then none else
    cI (Ex 319 [aR p1] h4) (fun x8 h7 =>
    if (imod x8 (5 : Int32)) = 0 then
      cI (Ex 320 [aR p1, aI (2400 : Int32), aI (60000 : Int32)] h7) (fun x10 h9 =>
      cI (Ex 319 [aR p1] h9) (fun x12 h11 =>
      if (2 : Int32) ≤ (imod x12 (5 : Int32)) then
        if (imod x12 (5 : Int32)) = (2 : Int32) then
          cI (Ex 320 [aR p1, aI (0 : Int32), aI (9999 : Int32)] h11) (fun x14 h13 =>
          cI (Ex 321 [aR p0, aI (15 : Int32), aI (imod x2 x3), aI (1 : Int32), aI (0 : Int32), aI (0 : Int32)] h13) (fun x16 h15 =>
          cI (Ex 321 [aR p0, aI (15 : Int32), aI (imod x2 x3), aI (2 : Int32), aI (0 : Int32), aI (0 : Int32)] h15) (fun x18 h17 =>
          cI (Ex 321 [aR p0, aI (15 : Int32), aI (imod x2 x3), aI (5 : Int32), aI (0 : Int32), aI (0 : Int32)] h17) (fun x20 h19 =>
          if x20 = (1 : Int32) then
            Ru 328 136 [(0, aR p0), (2, aR p2), (3, aI (imod x2 x3)), (4, aI (imod x5 x6)), (5, aI x10), (7, aI x14), (8, aI x16), (9, aI x18)] [aI (1 : Int32)] h19
          else
            Ru 328 136 [(0, aR p0), (2, aR p2), (3, aI (imod x2 x3)), (4, aI (imod x5 x6)), (5, aI x10), (7, aI x14), (8, aI x16), (9, aI x18)] [aI (0 : Int32)] h19) xT) xT) xT) xT
        else
          cI (Ex 321 [aR p0, aI (15 : Int32), aI (imod x2 x3), aI (1 : Int32), aI (0 : Int32), aI (0 : Int32)] h11) (fun x22 h21 =>
          cI (Ex 321 [aR p0, aI (15 : Int32), aI (imod x2 x3), aI (2 : Int32), aI (0 : Int32), aI (0 : Int32)] h21) (fun x24 h23 =>
          cI (Ex 321 [aR p0, aI (15 : Int32), aI (imod x2 x3), aI (5 : Int32), aI (0 : Int32), aI (0 : Int32)] h23) (fun x26 h25 =>
          if x26 = (1 : Int32) then
            Ru 328 136 [(0, aR p0), (2, aR p2), (3, aI (imod x2 x3)), (4, aI (imod x5 x6)), (5, aI x10), (7, aI (-1 : Int32)), (8, aI x22), (9, aI x24)] [aI (1 : Int32)] h25
          else
            Ru 328 136 [(0, aR p0), (2, aR p2), (3, aI (imod x2 x3)), (4, aI (imod x5 x6)), (5, aI x10), (7, aI (-1 : Int32)), (8, aI x22), (9, aI x24)] [aI (0 : Int32)] h25) xT) xT) xT
      else
        (gaI h11 p2 1000 ((30 : Int32) + (imod x2 x3))).bind (fun x27 =>
        cI (Ex 321 [aR p0, aI (15 : Int32), aI (imod x2 x3), aI (1 : Int32), aI (0 : Int32), aI (0 : Int32)] h11) (fun x29 h28 =>
        cI (Ex 321 [aR p0, aI (15 : Int32), aI (imod x2 x3), aI (2 : Int32), aI (0 : Int32), aI (0 : Int32)] h28) (fun x31 h30 =>
        cI (Ex 321 [aR p0, aI (15 : Int32), aI (imod x2 x3), aI (5 : Int32), aI (0 : Int32), aI (0 : Int32)] h30) (fun x33 h32 =>
        if x33 = (1 : Int32) then
          Ru 328 136 [(0, aR p0), (2, aR p2), (3, aI (imod x2 x3)), (4, aI (imod x5 x6)), (5, aI x10), (7, aI x27), (8, aI x29), (9, aI x31)] [aI (1 : Int32)] h32
        else
          Ru 328 136 [(0, aR p0), (2, aR p2), (3, aI (imod x2 x3)), (4, aI (imod x5 x6)), (5, aI x10), (7, aI x27), (8, aI x29), (9, aI x31)] [aI (0 : Int32)] h32) xT) xT) xT)) xT) xT
    else
      cI (Ex 320 [aR p1, aI (1 : Int32), aI (2500 : Int32)] h7) (fun x35 h34 =>
      cI (Ex 319 [aR p1] h34) (fun x37 h36 =>
      if (2 : Int32) ≤ (imod x37 (5 : Int32)) then
        if (imod x37 (5 : Int32)) = (2 : Int32) then
          cI (Ex 320 [aR p1, aI (0 : Int32), aI (9999 : Int32)] h36) (fun x39 h38 =>
          cI (Ex 321 [aR p0, aI (15 : Int32), aI (imod x2 x3), aI (1 : Int32), aI (0 : Int32), aI (0 : Int32)] h38) (fun x41 h40 =>
          cI (Ex 321 [aR p0, aI (15 : Int32), aI (imod x2 x3), aI (2 : Int32), aI (0 : Int32), aI (0 : Int32)] h40) (fun x43 h42 =>
          cI (Ex 321 [aR p0, aI (15 : Int32), aI (imod x2 x3), aI (5 : Int32), aI (0 : Int32), aI (0 : Int32)] h42) (fun x45 h44 =>
          if x45 = (1 : Int32) then
            Ru 328 136 [(0, aR p0), (2, aR p2), (3, aI (imod x2 x3)), (4, aI (imod x5 x6)), (5, aI x35), (7, aI x39), (8, aI x41), (9, aI x43)] [aI (1 : Int32)] h44
          else
            Ru 328 136 [(0, aR p0), (2, aR p2), (3, aI (imod x2 x3)), (4, aI (imod x5 x6)), (5, aI x35), (7, aI x39), (8, aI x41), (9, aI x43)] [aI (0 : Int32)] h44) xT) xT) xT) xT
        else
          cI (Ex 321 [aR p0, aI (15 : Int32), aI (imod x2 x3), aI (1 : Int32), aI (0 : Int32), aI (0 : Int32)] h36) (fun x47 h46 =>
          cI (Ex 321 [aR p0, aI (15 : Int32), aI (imod x2 x3), aI (2 : Int32), aI (0 : Int32), aI (0 : Int32)] h46) (fun x49 h48 =>
          cI (Ex 321 [aR p0, aI (15 : Int32), aI (imod x2 x3), aI (5 : Int32), aI (0 : Int32), aI (0 : Int32)] h48) (fun x51 h50 =>
          if x51 = (1 : Int32) then
            Ru 328 136 [(0, aR p0), (2, aR p2), (3, aI (imod x2 x3)), (4, aI (imod x5 x6)), (5, aI x35), (7, aI (-1 : Int32)), (8, aI x47), (9, aI x49)] [aI (1 : Int32)] h50
          else
            Ru 328 136 [(0, aR p0), (2, aR p2), (3, aI (imod x2 x3)), (4, aI (imod x5 x6)), (5, aI x35), (7, aI (-1 : Int32)), (8, aI x47), (9, aI x49)] [aI (0 : Int32)] h50) xT) xT) xT
      else
        (gaI h36 p2 1000 ((30 : Int32) + (imod x2 x3))).bind (fun x52 =>
        cI (Ex 321 [aR p0, aI (15 : Int32), aI (imod x2 x3), aI (1 : Int32), aI (0 : Int32), aI (0 : Int32)] h36) (fun x54 h53 =>
        cI (Ex 321 [aR p0, aI (15 : Int32), aI (imod x2 x3), aI (2 : Int32), aI (0 : Int32), aI (0 : Int32)] h53) (fun x56 h55 =>
        cI (Ex 321 [aR p0, aI (15 : Int32), aI (imod x2 x3), aI (5 : Int32), aI (0 : Int32), aI (0 : Int32)] h55) (fun x58 h57 =>
        if x58 = (1 : Int32) then
          Ru 328 136 [(0, aR p0), (2, aR p2), (3, aI (imod x2 x3)), (4, aI (imod x5 x6)), (5, aI x35), (7, aI x52), (8, aI x54), (9, aI x56)] [aI (1 : Int32)] h57
        else
          Ru 328 136 [(0, aR p0), (2, aR p2), (3, aI (imod x2 x3)), (4, aI (imod x5 x6)), (5, aI x35), (7, aI x52), (8, aI x54), (9, aI x56)] [aI (0 : Int32)] h57) xT) xT) xT)) xT) xT) xT)) xT)) xT :=
  lift_of (k := 70) (rows := code_328) (cuts := cut_328) (hs := hdl_328) (r := fun R E =>
    cI (E 319 [aR p1] h) (fun x2 h1 =>
    (gaI h1 p2 1000 (2 : Int32)).bind (fun x3 =>
    if x3 = 0 then none else
    cI (E 319 [aR p1] h1) (fun x5 h4 =>
    (gaI h4 p2 1000 (1 : Int32)).bind (fun x6 =>
    if x6 = 0 then none else
    cI (E 319 [aR p1] h4) (fun x8 h7 =>
    if (imod x8 (5 : Int32)) = 0 then
      cI (E 320 [aR p1, aI (2400 : Int32), aI (60000 : Int32)] h7) (fun x10 h9 =>
      cI (E 319 [aR p1] h9) (fun x12 h11 =>
      if (2 : Int32) ≤ (imod x12 (5 : Int32)) then
        if (imod x12 (5 : Int32)) = (2 : Int32) then
          cI (E 320 [aR p1, aI (0 : Int32), aI (9999 : Int32)] h11) (fun x14 h13 =>
          cI (E 321 [aR p0, aI (15 : Int32), aI (imod x2 x3), aI (1 : Int32), aI (0 : Int32), aI (0 : Int32)] h13) (fun x16 h15 =>
          cI (E 321 [aR p0, aI (15 : Int32), aI (imod x2 x3), aI (2 : Int32), aI (0 : Int32), aI (0 : Int32)] h15) (fun x18 h17 =>
          cI (E 321 [aR p0, aI (15 : Int32), aI (imod x2 x3), aI (5 : Int32), aI (0 : Int32), aI (0 : Int32)] h17) (fun x20 h19 =>
          if x20 = (1 : Int32) then
            R 136 [(0, aR p0), (2, aR p2), (3, aI (imod x2 x3)), (4, aI (imod x5 x6)), (5, aI x10), (7, aI x14), (8, aI x16), (9, aI x18)] [aI (1 : Int32)] h19
          else
            R 136 [(0, aR p0), (2, aR p2), (3, aI (imod x2 x3)), (4, aI (imod x5 x6)), (5, aI x10), (7, aI x14), (8, aI x16), (9, aI x18)] [aI (0 : Int32)] h19) xT) xT) xT) xT
        else
          cI (E 321 [aR p0, aI (15 : Int32), aI (imod x2 x3), aI (1 : Int32), aI (0 : Int32), aI (0 : Int32)] h11) (fun x22 h21 =>
          cI (E 321 [aR p0, aI (15 : Int32), aI (imod x2 x3), aI (2 : Int32), aI (0 : Int32), aI (0 : Int32)] h21) (fun x24 h23 =>
          cI (E 321 [aR p0, aI (15 : Int32), aI (imod x2 x3), aI (5 : Int32), aI (0 : Int32), aI (0 : Int32)] h23) (fun x26 h25 =>
          if x26 = (1 : Int32) then
            R 136 [(0, aR p0), (2, aR p2), (3, aI (imod x2 x3)), (4, aI (imod x5 x6)), (5, aI x10), (7, aI (-1 : Int32)), (8, aI x22), (9, aI x24)] [aI (1 : Int32)] h25
          else
            R 136 [(0, aR p0), (2, aR p2), (3, aI (imod x2 x3)), (4, aI (imod x5 x6)), (5, aI x10), (7, aI (-1 : Int32)), (8, aI x22), (9, aI x24)] [aI (0 : Int32)] h25) xT) xT) xT
      else
        (gaI h11 p2 1000 ((30 : Int32) + (imod x2 x3))).bind (fun x27 =>
        cI (E 321 [aR p0, aI (15 : Int32), aI (imod x2 x3), aI (1 : Int32), aI (0 : Int32), aI (0 : Int32)] h11) (fun x29 h28 =>
        cI (E 321 [aR p0, aI (15 : Int32), aI (imod x2 x3), aI (2 : Int32), aI (0 : Int32), aI (0 : Int32)] h28) (fun x31 h30 =>
        cI (E 321 [aR p0, aI (15 : Int32), aI (imod x2 x3), aI (5 : Int32), aI (0 : Int32), aI (0 : Int32)] h30) (fun x33 h32 =>
        if x33 = (1 : Int32) then
          R 136 [(0, aR p0), (2, aR p2), (3, aI (imod x2 x3)), (4, aI (imod x5 x6)), (5, aI x10), (7, aI x27), (8, aI x29), (9, aI x31)] [aI (1 : Int32)] h32
        else
          R 136 [(0, aR p0), (2, aR p2), (3, aI (imod x2 x3)), (4, aI (imod x5 x6)), (5, aI x10), (7, aI x27), (8, aI x29), (9, aI x31)] [aI (0 : Int32)] h32) xT) xT) xT)) xT) xT
    else
      cI (E 320 [aR p1, aI (1 : Int32), aI (2500 : Int32)] h7) (fun x35 h34 =>
      cI (E 319 [aR p1] h34) (fun x37 h36 =>
      if (2 : Int32) ≤ (imod x37 (5 : Int32)) then
        if (imod x37 (5 : Int32)) = (2 : Int32) then
          cI (E 320 [aR p1, aI (0 : Int32), aI (9999 : Int32)] h36) (fun x39 h38 =>
          cI (E 321 [aR p0, aI (15 : Int32), aI (imod x2 x3), aI (1 : Int32), aI (0 : Int32), aI (0 : Int32)] h38) (fun x41 h40 =>
          cI (E 321 [aR p0, aI (15 : Int32), aI (imod x2 x3), aI (2 : Int32), aI (0 : Int32), aI (0 : Int32)] h40) (fun x43 h42 =>
          cI (E 321 [aR p0, aI (15 : Int32), aI (imod x2 x3), aI (5 : Int32), aI (0 : Int32), aI (0 : Int32)] h42) (fun x45 h44 =>
          if x45 = (1 : Int32) then
            R 136 [(0, aR p0), (2, aR p2), (3, aI (imod x2 x3)), (4, aI (imod x5 x6)), (5, aI x35), (7, aI x39), (8, aI x41), (9, aI x43)] [aI (1 : Int32)] h44
          else
            R 136 [(0, aR p0), (2, aR p2), (3, aI (imod x2 x3)), (4, aI (imod x5 x6)), (5, aI x35), (7, aI x39), (8, aI x41), (9, aI x43)] [aI (0 : Int32)] h44) xT) xT) xT) xT
        else
          cI (E 321 [aR p0, aI (15 : Int32), aI (imod x2 x3), aI (1 : Int32), aI (0 : Int32), aI (0 : Int32)] h36) (fun x47 h46 =>
          cI (E 321 [aR p0, aI (15 : Int32), aI (imod x2 x3), aI (2 : Int32), aI (0 : Int32), aI (0 : Int32)] h46) (fun x49 h48 =>
          cI (E 321 [aR p0, aI (15 : Int32), aI (imod x2 x3), aI (5 : Int32), aI (0 : Int32), aI (0 : Int32)] h48) (fun x51 h50 =>
          if x51 = (1 : Int32) then
            R 136 [(0, aR p0), (2, aR p2), (3, aI (imod x2 x3)), (4, aI (imod x5 x6)), (5, aI x35), (7, aI (-1 : Int32)), (8, aI x47), (9, aI x49)] [aI (1 : Int32)] h50
          else
            R 136 [(0, aR p0), (2, aR p2), (3, aI (imod x2 x3)), (4, aI (imod x5 x6)), (5, aI x35), (7, aI (-1 : Int32)), (8, aI x47), (9, aI x49)] [aI (0 : Int32)] h50) xT) xT) xT
      else
        (gaI h36 p2 1000 ((30 : Int32) + (imod x2 x3))).bind (fun x52 =>
        cI (E 321 [aR p0, aI (15 : Int32), aI (imod x2 x3), aI (1 : Int32), aI (0 : Int32), aI (0 : Int32)] h36) (fun x54 h53 =>
        cI (E 321 [aR p0, aI (15 : Int32), aI (imod x2 x3), aI (2 : Int32), aI (0 : Int32), aI (0 : Int32)] h53) (fun x56 h55 =>
        cI (E 321 [aR p0, aI (15 : Int32), aI (imod x2 x3), aI (5 : Int32), aI (0 : Int32), aI (0 : Int32)] h55) (fun x58 h57 =>
        if x58 = (1 : Int32) then
          R 136 [(0, aR p0), (2, aR p2), (3, aI (imod x2 x3)), (4, aI (imod x5 x6)), (5, aI x35), (7, aI x52), (8, aI x54), (9, aI x56)] [aI (1 : Int32)] h57
        else
          R 136 [(0, aR p0), (2, aR p2), (3, aI (imod x2 x3)), (4, aI (imod x5 x6)), (5, aI x35), (7, aI x52), (8, aI x54), (9, aI x56)] [aI (0 : Int32)] h57) xT) xT) xT)) xT) xT) xT)) xT)) xT) rfl rfl rfl (fun R E => rfl)
set_option maxRecDepth 100000 in
theorem lf_328_136 (o : Option (Nat × Nat)) (v2 : Option (Nat × Nat)) (v3 : Int32) (v4 : Int32) (v5 : Int32) (v7 : Int32) (v8 : Int32) (v9 : Int32) (s0 : Int32) (h : Hp) : Ru 328 136 [(0, aR o), (2, aR v2), (3, aI v3), (4, aI v4), (5, aI v5), (7, aI v7), (8, aI v8), (9, aI v9)] [aI s0] h =
    cI (Ex 321 [aR o, aI (4 : Int32), aI v3, aI v4, aI v5, aI v7] h) (fun x2 h1 =>
    if s0 = 0 then
      if v7 < 0 then
        if (2500 : Int32) < v5 then
          Ru 328 210 [(0, aR o), (2, aR v2), (3, aI v3), (4, aI v4), (5, aI v5), (7, aI v7), (8, aI v8), (9, aI v9), (11, aI x2)] [] h1
        else
          if v9 = (5 : Int32) then
            Ru 328 210 [(0, aR o), (2, aR v2), (3, aI v3), (4, aI v4), (5, aI v5), (7, aI v7), (8, aI v8), (9, aI v9), (11, aI x2)] [] h1
          else
            Ru 328 216 [(0, aR o), (2, aR v2), (3, aI v3), (4, aI v4), (5, aI v5), (7, aI v7), (8, aI v8), (9, aI v9), (11, aI x2)] [aI (0 : Int32)] h1
      else
        if v8 = 0 then
          Ru 328 216 [(0, aR o), (2, aR v2), (3, aI v3), (4, aI v4), (5, aI v5), (7, aI v7), (8, aI v8), (9, aI v9), (11, aI x2)] [aI (-2 : Int32)] h1
        else
          (gaI h1 v2 1000 ((30 : Int32) + v3)).bind (fun x3 =>
          if v7 = x3 then
            Ru 328 216 [(0, aR o), (2, aR v2), (3, aI v3), (4, aI v4), (5, aI v5), (7, aI v7), (8, aI v8), (9, aI v9), (11, aI x2)] [aI (0 : Int32)] h1
          else
            Ru 328 216 [(0, aR o), (2, aR v2), (3, aI v3), (4, aI v4), (5, aI v5), (7, aI v7), (8, aI v8), (9, aI v9), (11, aI x2)] [aI (-3 : Int32)] h1)
    else
      Ru 328 216 [(0, aR o), (2, aR v2), (3, aI v3), (4, aI v4), (5, aI v5), (7, aI v7), (8, aI v8), (9, aI v9), (11, aI x2)] [aI (-1 : Int32)] h1) xT :=
  lift_of (k := 25) (rows := code_328) (cuts := cut_328) (hs := hdl_328) (r := fun R E =>
    cI (E 321 [aR o, aI (4 : Int32), aI v3, aI v4, aI v5, aI v7] h) (fun x2 h1 =>
    if s0 = 0 then
      if v7 < 0 then
        if (2500 : Int32) < v5 then
          R 210 [(0, aR o), (2, aR v2), (3, aI v3), (4, aI v4), (5, aI v5), (7, aI v7), (8, aI v8), (9, aI v9), (11, aI x2)] [] h1
        else
          if v9 = (5 : Int32) then
            R 210 [(0, aR o), (2, aR v2), (3, aI v3), (4, aI v4), (5, aI v5), (7, aI v7), (8, aI v8), (9, aI v9), (11, aI x2)] [] h1
          else
            R 216 [(0, aR o), (2, aR v2), (3, aI v3), (4, aI v4), (5, aI v5), (7, aI v7), (8, aI v8), (9, aI v9), (11, aI x2)] [aI (0 : Int32)] h1
      else
        if v8 = 0 then
          R 216 [(0, aR o), (2, aR v2), (3, aI v3), (4, aI v4), (5, aI v5), (7, aI v7), (8, aI v8), (9, aI v9), (11, aI x2)] [aI (-2 : Int32)] h1
        else
          (gaI h1 v2 1000 ((30 : Int32) + v3)).bind (fun x3 =>
          if v7 = x3 then
            R 216 [(0, aR o), (2, aR v2), (3, aI v3), (4, aI v4), (5, aI v5), (7, aI v7), (8, aI v8), (9, aI v9), (11, aI x2)] [aI (0 : Int32)] h1
          else
            R 216 [(0, aR o), (2, aR v2), (3, aI v3), (4, aI v4), (5, aI v5), (7, aI v7), (8, aI v8), (9, aI v9), (11, aI x2)] [aI (-3 : Int32)] h1)
    else
      R 216 [(0, aR o), (2, aR v2), (3, aI v3), (4, aI v4), (5, aI v5), (7, aI v7), (8, aI v8), (9, aI v9), (11, aI x2)] [aI (-1 : Int32)] h1) xT) rfl rfl rfl (fun R E => rfl)
set_option maxRecDepth 100000 in
theorem lf_328_216 (o : Option (Nat × Nat)) (v2 : Option (Nat × Nat)) (v3 : Int32) (v4 : Int32) (v5 : Int32) (v7 : Int32) (v8 : Int32) (v9 : Int32) (v11 : Int32) (s0 : Int32) (h : Hp) : Ru 328 216 [(0, aR o), (2, aR v2), (3, aI v3), (4, aI v4), (5, aI v5), (7, aI v7), (8, aI v8), (9, aI v9), (11, aI v11)] [aI s0] h =
    if 0 ≤ s0 then
      (gaI h v2 1000 (3 : Int32)).bind (fun x1 =>
      if v11 = x1 then
        (gaI h v2 1000 (3 : Int32)).bind (fun x2 =>
        (pa h v2 1000 (3 : Int32) (aI (x2 + (1 : Int32)))).bind (fun h3 =>
        (gaI h3 v2 1000 ((50 : Int32) + v3)).bind (fun x4 =>
        (pa h3 v2 1000 ((50 : Int32) + v3) (aI (x4 + (1 : Int32)))).bind (fun h5 =>
        cI (Ex 321 [aR o, aI (16 : Int32), aI v11, aI (0 : Int32), aI (0 : Int32), aI (0 : Int32)] h5) (fun x7 h6 =>
        if x7 = 0 then
          Ru 328 334 [(0, aR o), (2, aR v2), (3, aI v3), (4, aI v4), (5, aI v5), (7, aI v7), (8, aI v8), (9, aI v9), (11, aI v11), (13, aI x7)] [] h6
        else
          if x7 = (1 : Int32) then
            Ru 328 334 [(0, aR o), (2, aR v2), (3, aI v3), (4, aI v4), (5, aI v5), (7, aI v7), (8, aI v8), (9, aI v9), (11, aI v11), (13, aI x7)] [] h6
          else
            Ru 328 443 [(0, aR o), (3, aI v3), (7, aI v7), (8, aI v8), (9, aI v9)] [] h6) xT))))
      else
        some (.inl (some (aI (0 : Int32))), h))
    else
      if v11 = s0 then
        cI (Ex 321 [aR o, aI (15 : Int32), aI v3, aI (1 : Int32), aI (0 : Int32), aI (0 : Int32)] h) (fun x9 h8 =>
        if s0 = (-3 : Int32) then
          Ru 328 254 [(0, aR o), (2, aR v2), (3, aI v3)] [aI (1 : Int32), aI v8, aI x9] h8
        else
          Ru 328 254 [(0, aR o), (2, aR v2), (3, aI v3)] [aI (0 : Int32), aI v8, aI x9] h8) xT
      else
        Ru 328 281 [] [] h :=
  lift_of (k := 38) (rows := code_328) (cuts := cut_328) (hs := hdl_328) (r := fun R E =>
    if 0 ≤ s0 then
      (gaI h v2 1000 (3 : Int32)).bind (fun x1 =>
      if v11 = x1 then
        (gaI h v2 1000 (3 : Int32)).bind (fun x2 =>
        (pa h v2 1000 (3 : Int32) (aI (x2 + (1 : Int32)))).bind (fun h3 =>
        (gaI h3 v2 1000 ((50 : Int32) + v3)).bind (fun x4 =>
        (pa h3 v2 1000 ((50 : Int32) + v3) (aI (x4 + (1 : Int32)))).bind (fun h5 =>
        cI (E 321 [aR o, aI (16 : Int32), aI v11, aI (0 : Int32), aI (0 : Int32), aI (0 : Int32)] h5) (fun x7 h6 =>
        if x7 = 0 then
          R 334 [(0, aR o), (2, aR v2), (3, aI v3), (4, aI v4), (5, aI v5), (7, aI v7), (8, aI v8), (9, aI v9), (11, aI v11), (13, aI x7)] [] h6
        else
          if x7 = (1 : Int32) then
            R 334 [(0, aR o), (2, aR v2), (3, aI v3), (4, aI v4), (5, aI v5), (7, aI v7), (8, aI v8), (9, aI v9), (11, aI v11), (13, aI x7)] [] h6
          else
            R 443 [(0, aR o), (3, aI v3), (7, aI v7), (8, aI v8), (9, aI v9)] [] h6) xT))))
      else
        some (.inl (some (aI (0 : Int32))), h))
    else
      if v11 = s0 then
        cI (E 321 [aR o, aI (15 : Int32), aI v3, aI (1 : Int32), aI (0 : Int32), aI (0 : Int32)] h) (fun x9 h8 =>
        if s0 = (-3 : Int32) then
          R 254 [(0, aR o), (2, aR v2), (3, aI v3)] [aI (1 : Int32), aI v8, aI x9] h8
        else
          R 254 [(0, aR o), (2, aR v2), (3, aI v3)] [aI (0 : Int32), aI v8, aI x9] h8) xT
      else
        R 281 [] [] h) rfl rfl rfl (fun R E => rfl)
set_option maxRecDepth 100000 in
theorem lf_328_281  (h : Hp) : Ru 328 281 [] [] h =
    some (.inl (some (aI (0 : Int32))), h) :=
  lift_of (k := 3) (rows := code_328) (cuts := cut_328) (hs := hdl_328) (r := fun R E =>
    some (.inl (some (aI (0 : Int32))), h)) rfl rfl rfl (fun R E => rfl)
set_option maxRecDepth 100000 in
theorem lf_328_254 (o : Option (Nat × Nat)) (v2 : Option (Nat × Nat)) (v3 : Int32) (s0 : Int32) (s1 : Int32) (s2 : Int32) (h : Hp) : Ru 328 254 [(0, aR o), (2, aR v2), (3, aI v3)] [aI s2, aI s1, aI s0] h =
    if s0 = (s1 - s2) then
      cI (Ex 321 [aR o, aI (15 : Int32), aI v3, aI (0 : Int32), aI (0 : Int32), aI (0 : Int32)] h) (fun x2 h1 =>
      (gaI h1 v2 1000 ((50 : Int32) + v3)).bind (fun x3 =>
      if x2 = x3 then
        some (.inl (some (aI (1 : Int32))), h1)
      else
        Ru 328 281 [] [] h1)) xT
    else
      Ru 328 281 [] [] h :=
  lift_of (k := 19) (rows := code_328) (cuts := cut_328) (hs := hdl_328) (r := fun R E =>
    if s0 = (s1 - s2) then
      cI (E 321 [aR o, aI (15 : Int32), aI v3, aI (0 : Int32), aI (0 : Int32), aI (0 : Int32)] h) (fun x2 h1 =>
      (gaI h1 v2 1000 ((50 : Int32) + v3)).bind (fun x3 =>
      if x2 = x3 then
        some (.inl (some (aI (1 : Int32))), h1)
      else
        R 281 [] [] h1)) xT
    else
      R 281 [] [] h) rfl rfl rfl (fun R E => rfl)
set_option maxRecDepth 100000 in
theorem lf_328_443 (o : Option (Nat × Nat)) (v3 : Int32) (v7 : Int32) (v8 : Int32) (v9 : Int32) (h : Hp) : Ru 328 443 [(0, aR o), (3, aI v3), (7, aI v7), (8, aI v8), (9, aI v9)] [] h =
    Ru 328 444 [(0, aR o), (3, aI v3), (7, aI v7), (8, aI v8), (9, aI v9)] [aI (0 : Int32)] h :=
  lift_of (k := 2) (rows := code_328) (cuts := cut_328) (hs := hdl_328) (r := fun R E =>
    R 444 [(0, aR o), (3, aI v3), (7, aI v7), (8, aI v8), (9, aI v9)] [aI (0 : Int32)] h) rfl rfl rfl (fun R E => rfl)
set_option maxRecDepth 100000 in
theorem lf_328_444 (o : Option (Nat × Nat)) (v3 : Int32) (v7 : Int32) (v8 : Int32) (v9 : Int32) (s0 : Int32) (h : Hp) : Ru 328 444 [(0, aR o), (3, aI v3), (7, aI v7), (8, aI v8), (9, aI v9)] [aI s0] h =
    if s0 = 0 then
      some (.inl (some (aI (0 : Int32))), h)
    else
      cI (Ex 321 [aR o, aI (15 : Int32), aI v3, aI (2 : Int32), aI (0 : Int32), aI (0 : Int32)] h) (fun x2 h1 =>
      if v7 < 0 then
        Ru 328 474 [(0, aR o), (3, aI v3), (7, aI v7), (8, aI v8)] [aI (v9 + (1 : Int32)), aI x2] h1
      else
        Ru 328 474 [(0, aR o), (3, aI v3), (7, aI v7), (8, aI v8)] [aI (0 : Int32), aI x2] h1) xT :=
  lift_of (k := 16) (rows := code_328) (cuts := cut_328) (hs := hdl_328) (r := fun R E =>
    if s0 = 0 then
      some (.inl (some (aI (0 : Int32))), h)
    else
      cI (E 321 [aR o, aI (15 : Int32), aI v3, aI (2 : Int32), aI (0 : Int32), aI (0 : Int32)] h) (fun x2 h1 =>
      if v7 < 0 then
        R 474 [(0, aR o), (3, aI v3), (7, aI v7), (8, aI v8)] [aI (v9 + (1 : Int32)), aI x2] h1
      else
        R 474 [(0, aR o), (3, aI v3), (7, aI v7), (8, aI v8)] [aI (0 : Int32), aI x2] h1) xT) rfl rfl rfl (fun R E => rfl)
set_option maxRecDepth 100000 in
theorem lf_328_474 (o : Option (Nat × Nat)) (v3 : Int32) (v7 : Int32) (v8 : Int32) (s0 : Int32) (s1 : Int32) (h : Hp) : Ru 328 474 [(0, aR o), (3, aI v3), (7, aI v7), (8, aI v8)] [aI s1, aI s0] h =
    if s0 = s1 then
      cI (Ex 321 [aR o, aI (15 : Int32), aI v3, aI (1 : Int32), aI (0 : Int32), aI (0 : Int32)] h) (fun x2 h1 =>
      if v7 < 0 then
        if x2 = v8 then
          some (.inl (some (aI (1 : Int32))), h1)
        else
          some (.inl (some (aI (0 : Int32))), h1)
      else
        if x2 = (3 : Int32) then
          some (.inl (some (aI (1 : Int32))), h1)
        else
          some (.inl (some (aI (0 : Int32))), h1)) xT
    else
      some (.inl (some (aI (0 : Int32))), h) :=
  lift_of (k := 17) (rows := code_328) (cuts := cut_328) (hs := hdl_328) (r := fun R E =>
    if s0 = s1 then
      cI (E 321 [aR o, aI (15 : Int32), aI v3, aI (1 : Int32), aI (0 : Int32), aI (0 : Int32)] h) (fun x2 h1 =>
      if v7 < 0 then
        if x2 = v8 then
          some (.inl (some (aI (1 : Int32))), h1)
        else
          some (.inl (some (aI (0 : Int32))), h1)
      else
        if x2 = (3 : Int32) then
          some (.inl (some (aI (1 : Int32))), h1)
        else
          some (.inl (some (aI (0 : Int32))), h1)) xT
    else
      some (.inl (some (aI (0 : Int32))), h)) rfl rfl rfl (fun R E => rfl)
set_option maxRecDepth 100000 in
theorem lf_328_334 (o : Option (Nat × Nat)) (v2 : Option (Nat × Nat)) (v3 : Int32) (v4 : Int32) (v5 : Int32) (v7 : Int32) (v8 : Int32) (v9 : Int32) (v11 : Int32) (v13 : Int32) (h : Hp) : Ru 328 334 [(0, aR o), (2, aR v2), (3, aI v3), (4, aI v4), (5, aI v5), (7, aI v7), (8, aI v8), (9, aI v9), (11, aI v11), (13, aI v13)] [] h =
    if v13 = (1 : Int32) then
      Ru 328 352 [(0, aR o), (2, aR v2), (3, aI v3), (4, aI v4), (5, aI v5), (7, aI v7), (8, aI v8), (9, aI v9), (11, aI v11)] [] h
    else
      (gaI h v2 1000 ((40 : Int32) + v4)).bind (fun x1 =>
      if x1 < v5 then
        Ru 328 443 [(0, aR o), (3, aI v3), (7, aI v7), (8, aI v8), (9, aI v9)] [] h
      else
        Ru 328 352 [(0, aR o), (2, aR v2), (3, aI v3), (4, aI v4), (5, aI v5), (7, aI v7), (8, aI v8), (9, aI v9), (11, aI v11)] [] h) :=
  lift_of (k := 11) (rows := code_328) (cuts := cut_328) (hs := hdl_328) (r := fun R E =>
    if v13 = (1 : Int32) then
      R 352 [(0, aR o), (2, aR v2), (3, aI v3), (4, aI v4), (5, aI v5), (7, aI v7), (8, aI v8), (9, aI v9), (11, aI v11)] [] h
    else
      (gaI h v2 1000 ((40 : Int32) + v4)).bind (fun x1 =>
      if x1 < v5 then
        R 443 [(0, aR o), (3, aI v3), (7, aI v7), (8, aI v8), (9, aI v9)] [] h
      else
        R 352 [(0, aR o), (2, aR v2), (3, aI v3), (4, aI v4), (5, aI v5), (7, aI v7), (8, aI v8), (9, aI v9), (11, aI v11)] [] h)) rfl rfl rfl (fun R E => rfl)
set_option maxRecDepth 100000 in
theorem lf_328_352 (o : Option (Nat × Nat)) (v2 : Option (Nat × Nat)) (v3 : Int32) (v4 : Int32) (v5 : Int32) (v7 : Int32) (v8 : Int32) (v9 : Int32) (v11 : Int32) (h : Hp) : Ru 328 352 [(0, aR o), (2, aR v2), (3, aI v3), (4, aI v4), (5, aI v5), (7, aI v7), (8, aI v8), (9, aI v9), (11, aI v11)] [] h =
    cI (Ex 321 [aR o, aI (16 : Int32), aI v11, aI (1 : Int32), aI (0 : Int32), aI (0 : Int32)] h) (fun x2 h1 =>
    if x2 = v3 then
      cI (Ex 321 [aR o, aI (16 : Int32), aI v11, aI (2 : Int32), aI (0 : Int32), aI (0 : Int32)] h1) (fun x4 h3 =>
      if x4 = v4 then
        cI (Ex 321 [aR o, aI (16 : Int32), aI v11, aI (3 : Int32), aI (0 : Int32), aI (0 : Int32)] h3) (fun x6 h5 =>
        if x6 = v5 then
          cI (Ex 321 [aR o, aI (16 : Int32), aI v11, aI (4 : Int32), aI (0 : Int32), aI (0 : Int32)] h5) (fun x8 h7 =>
          (gaI h7 v2 1000 ((50 : Int32) + v3)).bind (fun x9 =>
          if x8 = x9 then
            cI (Ex 321 [aR o, aI (16 : Int32), aI v11, aI (6 : Int32), aI (0 : Int32), aI (0 : Int32)] h7) (fun x11 h10 =>
            cI (Ex 130 [aR o, aI (0 : Int32)] h10) (fun x13 h12 =>
            if x11 = x13 then
              Ru 328 444 [(0, aR o), (3, aI v3), (7, aI v7), (8, aI v8), (9, aI v9)] [aI (1 : Int32)] h12
            else
              Ru 328 443 [(0, aR o), (3, aI v3), (7, aI v7), (8, aI v8), (9, aI v9)] [] h12) xT) xT
          else
            Ru 328 443 [(0, aR o), (3, aI v3), (7, aI v7), (8, aI v8), (9, aI v9)] [] h7)) xT
        else
          Ru 328 443 [(0, aR o), (3, aI v3), (7, aI v7), (8, aI v8), (9, aI v9)] [] h5) xT
      else
        Ru 328 443 [(0, aR o), (3, aI v3), (7, aI v7), (8, aI v8), (9, aI v9)] [] h3) xT
    else
      Ru 328 443 [(0, aR o), (3, aI v3), (7, aI v7), (8, aI v8), (9, aI v9)] [] h1) xT :=
  lift_of (k := 54) (rows := code_328) (cuts := cut_328) (hs := hdl_328) (r := fun R E =>
    cI (E 321 [aR o, aI (16 : Int32), aI v11, aI (1 : Int32), aI (0 : Int32), aI (0 : Int32)] h) (fun x2 h1 =>
    if x2 = v3 then
      cI (E 321 [aR o, aI (16 : Int32), aI v11, aI (2 : Int32), aI (0 : Int32), aI (0 : Int32)] h1) (fun x4 h3 =>
      if x4 = v4 then
        cI (E 321 [aR o, aI (16 : Int32), aI v11, aI (3 : Int32), aI (0 : Int32), aI (0 : Int32)] h3) (fun x6 h5 =>
        if x6 = v5 then
          cI (E 321 [aR o, aI (16 : Int32), aI v11, aI (4 : Int32), aI (0 : Int32), aI (0 : Int32)] h5) (fun x8 h7 =>
          (gaI h7 v2 1000 ((50 : Int32) + v3)).bind (fun x9 =>
          if x8 = x9 then
            cI (E 321 [aR o, aI (16 : Int32), aI v11, aI (6 : Int32), aI (0 : Int32), aI (0 : Int32)] h7) (fun x11 h10 =>
            cI (E 130 [aR o, aI (0 : Int32)] h10) (fun x13 h12 =>
            if x11 = x13 then
              R 444 [(0, aR o), (3, aI v3), (7, aI v7), (8, aI v8), (9, aI v9)] [aI (1 : Int32)] h12
            else
              R 443 [(0, aR o), (3, aI v3), (7, aI v7), (8, aI v8), (9, aI v9)] [] h12) xT) xT
          else
            R 443 [(0, aR o), (3, aI v3), (7, aI v7), (8, aI v8), (9, aI v9)] [] h7)) xT
        else
          R 443 [(0, aR o), (3, aI v3), (7, aI v7), (8, aI v8), (9, aI v9)] [] h5) xT
      else
        R 443 [(0, aR o), (3, aI v3), (7, aI v7), (8, aI v8), (9, aI v9)] [] h3) xT
    else
      R 443 [(0, aR o), (3, aI v3), (7, aI v7), (8, aI v8), (9, aI v9)] [] h1) xT) rfl rfl rfl (fun R E => rfl)
set_option maxRecDepth 100000 in
theorem lf_328_210 (o : Option (Nat × Nat)) (v2 : Option (Nat × Nat)) (v3 : Int32) (v4 : Int32) (v5 : Int32) (v7 : Int32) (v8 : Int32) (v9 : Int32) (v11 : Int32) (h : Hp) : Ru 328 210 [(0, aR o), (2, aR v2), (3, aI v3), (4, aI v4), (5, aI v5), (7, aI v7), (8, aI v8), (9, aI v9), (11, aI v11)] [] h =
    Ru 328 216 [(0, aR o), (2, aR v2), (3, aI v3), (4, aI v4), (5, aI v5), (7, aI v7), (8, aI v8), (9, aI v9), (11, aI v11)] [aI (-4 : Int32)] h :=
  lift_of (k := 3) (rows := code_328) (cuts := cut_328) (hs := hdl_328) (r := fun R E =>
    R 216 [(0, aR o), (2, aR v2), (3, aI v3), (4, aI v4), (5, aI v5), (7, aI v7), (8, aI v8), (9, aI v9), (11, aI v11)] [aI (-4 : Int32)] h) rfl rfl rfl (fun R E => rfl)
-- 329 ChipcardhouseLaw.acts(LChipcardhouse;[I[IZ)Z
set_option maxRecDepth 100000 in
theorem lf_329_0 (p0 : Option (Nat × Nat)) (p1 : Option (Nat × Nat)) (p2 : Option (Nat × Nat)) (p3 : Int32) (h : Hp) : Ru 329 0 [(0, aR p0), (1, aR p1), (2, aR p2), (3, aI p3)] [] h =
    cI (Ex 319 [aR p1] h) (fun x2 h1 =>
    cI (Ex 319 [aR p1] h1) (fun x4 h3 =>
    (gaI h3 p2 1000 (1 : Int32)).bind (fun x5 =>
    if x5 = 0 then none else
    if (7 : Int32) ≤ (imod x2 (22 : Int32)) then
      if (10 : Int32) ≤ (imod x2 (22 : Int32)) then
        if (15 : Int32) ≤ (imod x2 (22 : Int32)) then
          if (imod x2 (22 : Int32)) = (15 : Int32) then
            cI (Ex 319 [aR p1] h3) (fun x7 h6 =>
            cI (Ex 319 [aR p1] h6) (fun x9 h8 =>
            cI (Ex 320 [aR p1, aI (0 : Int32), aI (3 : Int32)] h8) (fun x11 h10 =>
            cI (Ex 321 [aR p0, aI (9 : Int32), aI (imod x4 x5), aI (imod x7 (2 : Int32)), aI (imod x9 (3 : Int32)), aI x11] h10) (fun x13 h12 =>
            if x13 < 0 then
              some (.inl (some (aI (0 : Int32))), h12)
            else
              some (.inl (some (aI (1 : Int32))), h12)) xT) xT) xT) xT
          else
            if (imod x2 (22 : Int32)) = (16 : Int32) then
              cI (Ex 319 [aR p1] h3) (fun x15 h14 =>
              cI (Ex 321 [aR p0, aI (10 : Int32), aI (imod x15 (2 : Int32)), aI (0 : Int32), aI (0 : Int32), aI (0 : Int32)] h14) (fun x17 h16 =>
              if x17 < 0 then
                Ru 329 228 [] [] h16
              else
                cI (Ex 130 [aR p0, aI (9 : Int32)] h16) (fun x19 h18 =>
                if x19 = 0 then
                  Ru 329 224 [] [] h18
                else
                  cI (Ex 130 [aR p0, aI (8 : Int32)] h18) (fun x21 h20 =>
                  if x21 = 0 then
                    Ru 329 224 [] [] h20
                  else
                    Ru 329 228 [] [] h20) xT) xT) xT) xT
            else
              if (imod x2 (22 : Int32)) = (17 : Int32) then
                cI (Ex 319 [aR p1] h3) (fun x23 h22 =>
                (gaI h22 p2 1000 (2 : Int32)).bind (fun x24 =>
                if x24 = 0 then none else
                cI (Ex 319 [aR p1] h22) (fun x26 h25 =>
                if (imod x26 (3 : Int32)) = 0 then
                  Ru 329 264 [] [aI (3 : Int32), aI (1 : Int32), aR p1, aI (imod x23 x24), aI (11 : Int32), aR p0] h25
                else
                  Ru 329 264 [] [aI (1 : Int32), aI (1 : Int32), aR p1, aI (imod x23 x24), aI (11 : Int32), aR p0] h25) xT)) xT
              else
                if (imod x2 (22 : Int32)) = (18 : Int32) then
                  cI (Ex 319 [aR p1] h3) (fun x28 h27 =>
                  if 0 < (imod x28 (4 : Int32)) then
                    Ru 329 355 [] [] h27
                  else
                    cI (Ex 319 [aR p1] h27) (fun x30 h29 =>
                    if (imod x30 (2 : Int32)) = 0 then
                      cI (Ex 319 [aR p1] h29) (fun x32 h31 =>
                      (gaI h31 p2 1000 (2 : Int32)).bind (fun x33 =>
                      if x33 = 0 then none else
                      cI (Ex 321 [aR p0, aI (12 : Int32), aI (imod x32 x33), aI (0 : Int32), aI (0 : Int32), aI (0 : Int32)] h31) (fun x35 h34 =>
                      if x35 < 0 then
                        Ru 329 359 [] [] h34
                      else
                        Ru 329 355 [] [] h34) xT)) xT
                    else
                      cI (Ex 319 [aR p1] h29) (fun x37 h36 =>
                      (gaI h36 p2 1000 (0 : Int32)).bind (fun x38 =>
                      if x38 = 0 then none else
                      cI (Ex 319 [aR p1] h36) (fun x40 h39 =>
                      cI (Ex 321 [aR p0, aI (13 : Int32), aI (imod x37 x38), aI (imod x40 (2 : Int32)), aI (0 : Int32), aI (0 : Int32)] h39) (fun x42 h41 =>
                      if x42 < 0 then
                        Ru 329 359 [] [] h41
                      else
                        Ru 329 355 [] [] h41) xT) xT)) xT) xT) xT
                else
                  if (imod x2 (22 : Int32)) = (19 : Int32) then
                    cI (Ex 330 [aR p0, aR p2] h3) (fun x44 h43 =>
                    gz x44 (some (.inl (some (aI x44)), h43))) xT
                  else
                    (gaI h3 p2 1000 (3 : Int32)).bind (fun x45 =>
                    if x45 = 0 then
                      cI (Ex 321 [aR p0, aI (14 : Int32), aI (0 : Int32), aI (0 : Int32), aI (0 : Int32), aI (0 : Int32)] h3) (fun x47 h46 =>
                      if x47 = (-1000000001 : Int32) then
                        cI (Ex 321 [aR p0, aI (7 : Int32), aI (imod x4 x5), aI (0 : Int32), aI (0 : Int32), aI (0 : Int32)] h46) (fun x49 h48 =>
                        if x49 = (-1000000001 : Int32) then
                          some (.inl (some (aI (1 : Int32))), h48)
                        else
                          Ru 329 415 [] [] h48) xT
                      else
                        Ru 329 415 [] [] h46) xT
                    else
                      cI (Ex 319 [aR p1] h3) (fun x51 h50 =>
                      (gaI h50 p2 1000 (3 : Int32)).bind (fun x52 =>
                      if x52 = 0 then none else
                      if (imod x2 (22 : Int32)) = (20 : Int32) then
                        if p3 = 0 then
                          Ru 329 513 [(0, aR p0), (1, aR p1), (4, aI (imod x2 (22 : Int32))), (5, aI (imod x4 x5)), (6, aI (imod x51 x52))] [] h50
                        else
                          cI (Ex 319 [aR p1] h50) (fun x54 h53 =>
                          if (imod x54 (2 : Int32)) = 0 then
                            cI (Ex 319 [aR p1] h53) (fun x56 h55 =>
                            (gaI h55 p2 1000 (3 : Int32)).bind (fun x57 =>
                            if x57 = 0 then none else
                            Ru 329 468 [(0, aR p0), (1, aR p1), (2, aR p2), (6, aI (imod x51 x52))] [aI (imod x56 x57)] h55)) xT
                          else
                            (gaI h53 p2 1000 (3 : Int32)).bind (fun x58 =>
                            cI (Ex 320 [aR p1, aI x58, aI (999 : Int32)] h53) (fun x60 h59 =>
                            Ru 329 468 [(0, aR p0), (1, aR p1), (2, aR p2), (6, aI (imod x51 x52))] [aI x60] h59) xT)) xT
                      else
                        Ru 329 513 [(0, aR p0), (1, aR p1), (4, aI (imod x2 (22 : Int32))), (5, aI (imod x4 x5)), (6, aI (imod x51 x52))] [] h50)) xT)
        else
          cI (Ex 130 [aR p0, aI (0 : Int32)] h3) (fun x62 h61 =>
          cI (Ex 319 [aR p1] h61) (fun x64 h63 =>
          if (imod x64 (3 : Int32)) = 0 then
            cI (Ex 320 [aR p1, aI (8 : Int32), aI (20 : Int32)] h63) (fun x66 h65 =>
            Ru 329 112 [(0, aR p0), (6, aI x62)] [aI x66] h65) xT
          else
            cI (Ex 320 [aR p1, aI (1 : Int32), aI (4 : Int32)] h63) (fun x68 h67 =>
            Ru 329 112 [(0, aR p0), (6, aI x62)] [aI x68] h67) xT) xT) xT
      else
        cI (Ex 321 [aR p0, aI (5 : Int32), aI (imod x4 x5), aI (0 : Int32), aI (0 : Int32), aI (0 : Int32)] h3) (fun x70 h69 =>
        if x70 < 0 then
          Ru 329 70 [] [] h69
        else
          cI (Ex 321 [aR p0, aI (5 : Int32), aI (imod x4 x5), aI (0 : Int32), aI (0 : Int32), aI (0 : Int32)] h69) (fun x72 h71 =>
          if x72 = 0 then
            some (.inl (some (aI (1 : Int32))), h71)
          else
            Ru 329 70 [] [] h71) xT) xT
    else
      cI (Ex 328 [aR p0, aR p1, aR p2] h3) (fun x74 h73 =>
      gz x74 (some (.inl (some (aI x74)), h73))) xT)) xT) xT :=
  lift_of (k := 65) (rows := code_329) (cuts := cut_329) (hs := hdl_329) (r := fun R E =>
    cI (E 319 [aR p1] h) (fun x2 h1 =>
    cI (E 319 [aR p1] h1) (fun x4 h3 =>
    (gaI h3 p2 1000 (1 : Int32)).bind (fun x5 =>
    if x5 = 0 then none else
    if (7 : Int32) ≤ (imod x2 (22 : Int32)) then
      if (10 : Int32) ≤ (imod x2 (22 : Int32)) then
        if (15 : Int32) ≤ (imod x2 (22 : Int32)) then
          if (imod x2 (22 : Int32)) = (15 : Int32) then
            cI (E 319 [aR p1] h3) (fun x7 h6 =>
            cI (E 319 [aR p1] h6) (fun x9 h8 =>
            cI (E 320 [aR p1, aI (0 : Int32), aI (3 : Int32)] h8) (fun x11 h10 =>
            cI (E 321 [aR p0, aI (9 : Int32), aI (imod x4 x5), aI (imod x7 (2 : Int32)), aI (imod x9 (3 : Int32)), aI x11] h10) (fun x13 h12 =>
            if x13 < 0 then
              some (.inl (some (aI (0 : Int32))), h12)
            else
              some (.inl (some (aI (1 : Int32))), h12)) xT) xT) xT) xT
          else
            if (imod x2 (22 : Int32)) = (16 : Int32) then
              cI (E 319 [aR p1] h3) (fun x15 h14 =>
              cI (E 321 [aR p0, aI (10 : Int32), aI (imod x15 (2 : Int32)), aI (0 : Int32), aI (0 : Int32), aI (0 : Int32)] h14) (fun x17 h16 =>
              if x17 < 0 then
                R 228 [] [] h16
              else
                cI (E 130 [aR p0, aI (9 : Int32)] h16) (fun x19 h18 =>
                if x19 = 0 then
                  R 224 [] [] h18
                else
                  cI (E 130 [aR p0, aI (8 : Int32)] h18) (fun x21 h20 =>
                  if x21 = 0 then
                    R 224 [] [] h20
                  else
                    R 228 [] [] h20) xT) xT) xT) xT
            else
              if (imod x2 (22 : Int32)) = (17 : Int32) then
                cI (E 319 [aR p1] h3) (fun x23 h22 =>
                (gaI h22 p2 1000 (2 : Int32)).bind (fun x24 =>
                if x24 = 0 then none else
                cI (E 319 [aR p1] h22) (fun x26 h25 =>
                if (imod x26 (3 : Int32)) = 0 then
                  R 264 [] [aI (3 : Int32), aI (1 : Int32), aR p1, aI (imod x23 x24), aI (11 : Int32), aR p0] h25
                else
                  R 264 [] [aI (1 : Int32), aI (1 : Int32), aR p1, aI (imod x23 x24), aI (11 : Int32), aR p0] h25) xT)) xT
              else
                if (imod x2 (22 : Int32)) = (18 : Int32) then
                  cI (E 319 [aR p1] h3) (fun x28 h27 =>
                  if 0 < (imod x28 (4 : Int32)) then
                    R 355 [] [] h27
                  else
                    cI (E 319 [aR p1] h27) (fun x30 h29 =>
                    if (imod x30 (2 : Int32)) = 0 then
                      cI (E 319 [aR p1] h29) (fun x32 h31 =>
                      (gaI h31 p2 1000 (2 : Int32)).bind (fun x33 =>
                      if x33 = 0 then none else
                      cI (E 321 [aR p0, aI (12 : Int32), aI (imod x32 x33), aI (0 : Int32), aI (0 : Int32), aI (0 : Int32)] h31) (fun x35 h34 =>
                      if x35 < 0 then
                        R 359 [] [] h34
                      else
                        R 355 [] [] h34) xT)) xT
                    else
                      cI (E 319 [aR p1] h29) (fun x37 h36 =>
                      (gaI h36 p2 1000 (0 : Int32)).bind (fun x38 =>
                      if x38 = 0 then none else
                      cI (E 319 [aR p1] h36) (fun x40 h39 =>
                      cI (E 321 [aR p0, aI (13 : Int32), aI (imod x37 x38), aI (imod x40 (2 : Int32)), aI (0 : Int32), aI (0 : Int32)] h39) (fun x42 h41 =>
                      if x42 < 0 then
                        R 359 [] [] h41
                      else
                        R 355 [] [] h41) xT) xT)) xT) xT) xT
                else
                  if (imod x2 (22 : Int32)) = (19 : Int32) then
                    cI (E 330 [aR p0, aR p2] h3) (fun x44 h43 =>
                    gz x44 (some (.inl (some (aI x44)), h43))) xT
                  else
                    (gaI h3 p2 1000 (3 : Int32)).bind (fun x45 =>
                    if x45 = 0 then
                      cI (E 321 [aR p0, aI (14 : Int32), aI (0 : Int32), aI (0 : Int32), aI (0 : Int32), aI (0 : Int32)] h3) (fun x47 h46 =>
                      if x47 = (-1000000001 : Int32) then
                        cI (E 321 [aR p0, aI (7 : Int32), aI (imod x4 x5), aI (0 : Int32), aI (0 : Int32), aI (0 : Int32)] h46) (fun x49 h48 =>
                        if x49 = (-1000000001 : Int32) then
                          some (.inl (some (aI (1 : Int32))), h48)
                        else
                          R 415 [] [] h48) xT
                      else
                        R 415 [] [] h46) xT
                    else
                      cI (E 319 [aR p1] h3) (fun x51 h50 =>
                      (gaI h50 p2 1000 (3 : Int32)).bind (fun x52 =>
                      if x52 = 0 then none else
                      if (imod x2 (22 : Int32)) = (20 : Int32) then
                        if p3 = 0 then
                          R 513 [(0, aR p0), (1, aR p1), (4, aI (imod x2 (22 : Int32))), (5, aI (imod x4 x5)), (6, aI (imod x51 x52))] [] h50
                        else
                          cI (E 319 [aR p1] h50) (fun x54 h53 =>
                          if (imod x54 (2 : Int32)) = 0 then
                            cI (E 319 [aR p1] h53) (fun x56 h55 =>
                            (gaI h55 p2 1000 (3 : Int32)).bind (fun x57 =>
                            if x57 = 0 then none else
                            R 468 [(0, aR p0), (1, aR p1), (2, aR p2), (6, aI (imod x51 x52))] [aI (imod x56 x57)] h55)) xT
                          else
                            (gaI h53 p2 1000 (3 : Int32)).bind (fun x58 =>
                            cI (E 320 [aR p1, aI x58, aI (999 : Int32)] h53) (fun x60 h59 =>
                            R 468 [(0, aR p0), (1, aR p1), (2, aR p2), (6, aI (imod x51 x52))] [aI x60] h59) xT)) xT
                      else
                        R 513 [(0, aR p0), (1, aR p1), (4, aI (imod x2 (22 : Int32))), (5, aI (imod x4 x5)), (6, aI (imod x51 x52))] [] h50)) xT)
        else
          cI (E 130 [aR p0, aI (0 : Int32)] h3) (fun x62 h61 =>
          cI (E 319 [aR p1] h61) (fun x64 h63 =>
          if (imod x64 (3 : Int32)) = 0 then
            cI (E 320 [aR p1, aI (8 : Int32), aI (20 : Int32)] h63) (fun x66 h65 =>
            R 112 [(0, aR p0), (6, aI x62)] [aI x66] h65) xT
          else
            cI (E 320 [aR p1, aI (1 : Int32), aI (4 : Int32)] h63) (fun x68 h67 =>
            R 112 [(0, aR p0), (6, aI x62)] [aI x68] h67) xT) xT) xT
      else
        cI (E 321 [aR p0, aI (5 : Int32), aI (imod x4 x5), aI (0 : Int32), aI (0 : Int32), aI (0 : Int32)] h3) (fun x70 h69 =>
        if x70 < 0 then
          R 70 [] [] h69
        else
          cI (E 321 [aR p0, aI (5 : Int32), aI (imod x4 x5), aI (0 : Int32), aI (0 : Int32), aI (0 : Int32)] h69) (fun x72 h71 =>
          if x72 = 0 then
            some (.inl (some (aI (1 : Int32))), h71)
          else
            R 70 [] [] h71) xT) xT
    else
      cI (E 328 [aR p0, aR p1, aR p2] h3) (fun x74 h73 =>
      gz x74 (some (.inl (some (aI x74)), h73))) xT)) xT) xT) rfl rfl rfl (fun R E => rfl)
set_option maxRecDepth 100000 in
theorem lf_329_70  (h : Hp) : Ru 329 70 [] [] h =
    some (.inl (some (aI (0 : Int32))), h) :=
  lift_of (k := 3) (rows := code_329) (cuts := cut_329) (hs := hdl_329) (r := fun R E =>
    some (.inl (some (aI (0 : Int32))), h)) rfl rfl rfl (fun R E => rfl)
set_option maxRecDepth 100000 in
theorem lf_329_112 (o : Option (Nat × Nat)) (v6 : Int32) (s0 : Int32) (h : Hp) : Ru 329 112 [(0, aR o), (6, aI v6)] [aI s0] h =
    cI (Ex 321 [aR o, aI (8 : Int32), aI s0, aI (0 : Int32), aI (0 : Int32), aI (0 : Int32)] h) (fun x2 h1 =>
    if x2 = (v6 + s0) then
      some (.inl (some (aI (1 : Int32))), h1)
    else
      some (.inl (some (aI (0 : Int32))), h1)) xT :=
  lift_of (k := 16) (rows := code_329) (cuts := cut_329) (hs := hdl_329) (r := fun R E =>
    cI (E 321 [aR o, aI (8 : Int32), aI s0, aI (0 : Int32), aI (0 : Int32), aI (0 : Int32)] h) (fun x2 h1 =>
    if x2 = (v6 + s0) then
      some (.inl (some (aI (1 : Int32))), h1)
    else
      some (.inl (some (aI (0 : Int32))), h1)) xT) rfl rfl rfl (fun R E => rfl)
set_option maxRecDepth 100000 in
theorem lf_329_468 (o : Option (Nat × Nat)) (v1 : Option (Nat × Nat)) (v2 : Option (Nat × Nat)) (v6 : Int32) (s0 : Int32) (h : Hp) : Ru 329 468 [(0, aR o), (1, aR v1), (2, aR v2), (6, aI v6)] [aI s0] h =
    (pa h v2 1000 (4 : Int32) (aI (1 : Int32))).bind (fun h1 =>
    cI (Ex 319 [aR v1] h1) (fun x3 h2 =>
    (gaI h2 v2 1000 (1 : Int32)).bind (fun x4 =>
    if x4 = 0 then none else
    cI (Ex 321 [aR o, aI (7 : Int32), aI (imod x3 x4), aI v6, aI s0, aI (0 : Int32)] h2) (fun x6 h5 =>
    cI (Ex 321 [aR o, aI (16 : Int32), aI v6, aI (5 : Int32), aI (0 : Int32), aI (0 : Int32)] h5) (fun x8 h7 =>
    if x6 = x8 then
      some (.inl (some (aI (1 : Int32))), h7)
    else
      some (.inl (some (aI (0 : Int32))), h7)) xT) xT)) xT) :=
  lift_of (k := 29) (rows := code_329) (cuts := cut_329) (hs := hdl_329) (r := fun R E =>
    (pa h v2 1000 (4 : Int32) (aI (1 : Int32))).bind (fun h1 =>
    cI (E 319 [aR v1] h1) (fun x3 h2 =>
    (gaI h2 v2 1000 (1 : Int32)).bind (fun x4 =>
    if x4 = 0 then none else
    cI (E 321 [aR o, aI (7 : Int32), aI (imod x3 x4), aI v6, aI s0, aI (0 : Int32)] h2) (fun x6 h5 =>
    cI (E 321 [aR o, aI (16 : Int32), aI v6, aI (5 : Int32), aI (0 : Int32), aI (0 : Int32)] h5) (fun x8 h7 =>
    if x6 = x8 then
      some (.inl (some (aI (1 : Int32))), h7)
    else
      some (.inl (some (aI (0 : Int32))), h7)) xT) xT)) xT)) rfl rfl rfl (fun R E => rfl)
set_option maxRecDepth 100000 in
theorem lf_329_513 (o : Option (Nat × Nat)) (v1 : Option (Nat × Nat)) (v4 : Int32) (v5 : Int32) (v6 : Int32) (h : Hp) : Ru 329 513 [(0, aR o), (1, aR v1), (4, aI v4), (5, aI v5), (6, aI v6)] [] h =
    if v4 = (20 : Int32) then
      cI (Ex 320 [aR v1, aI (1 : Int32), aI (500 : Int32)] h) (fun x2 h1 =>
      cI (Ex 321 [aR o, aI (6 : Int32), aI v5, aI v6, aI x2, aI (0 : Int32)] h1) (fun x4 h3 =>
      cI (Ex 321 [aR o, aI (16 : Int32), aI v6, aI (2 : Int32), aI (0 : Int32), aI (0 : Int32)] h3) (fun x6 h5 =>
      if x6 = v5 then
        if 0 ≤ x4 then
          Ru 329 569 [] [] h5
        else
          if x4 = (-1000000003 : Int32) then
            Ru 329 569 [] [] h5
          else
            some (.inl (some (aI (0 : Int32))), h5)
      else
        if x4 = (-1000000002 : Int32) then
          some (.inl (some (aI (1 : Int32))), h5)
        else
          some (.inl (some (aI (0 : Int32))), h5)) xT) xT) xT
    else
      cI (Ex 321 [aR o, aI (17 : Int32), aI v6, aI (6 : Int32), aI (0 : Int32), aI (0 : Int32)] h) (fun x8 h7 =>
      cI (Ex 321 [aR o, aI (17 : Int32), aI v6, aI (7 : Int32), aI (0 : Int32), aI (0 : Int32)] h7) (fun x10 h9 =>
      cI (Ex 321 [aR o, aI (14 : Int32), aI v6, aI (0 : Int32), aI (0 : Int32), aI (0 : Int32)] h9) (fun x12 h11 =>
      if x12 = (-1000000003 : Int32) then
        cI (Ex 321 [aR o, aI (17 : Int32), aI v6, aI (6 : Int32), aI (0 : Int32), aI (0 : Int32)] h11) (fun x14 h13 =>
        if x14 = x8 then
          some (.inl (some (aI (1 : Int32))), h13)
        else
          some (.inl (some (aI (0 : Int32))), h13)) xT
      else
        if x12 = x8 then
          if x10 < 0 then
            Ru 329 720 [] [] h11
          else
            cI (Ex 130 [aR o, aI (1 : Int32)] h11) (fun x16 h15 =>
            if (1 : Int32) < (x16 - x10) then
              Ru 329 720 [] [] h15
            else
              cI (Ex 321 [aR o, aI (17 : Int32), aI v6, aI (6 : Int32), aI (0 : Int32), aI (0 : Int32)] h15) (fun x18 h17 =>
              if x18 = 0 then
                cI (Ex 321 [aR o, aI (14 : Int32), aI v6, aI (0 : Int32), aI (0 : Int32), aI (0 : Int32)] h17) (fun x20 h19 =>
                if x20 = (-1000000003 : Int32) then
                  some (.inl (some (aI (1 : Int32))), h19)
                else
                  Ru 329 720 [] [] h19) xT
              else
                Ru 329 720 [] [] h17) xT) xT
        else
          Ru 329 720 [] [] h11) xT) xT) xT :=
  lift_of (k := 63) (rows := code_329) (cuts := cut_329) (hs := hdl_329) (r := fun R E =>
    if v4 = (20 : Int32) then
      cI (E 320 [aR v1, aI (1 : Int32), aI (500 : Int32)] h) (fun x2 h1 =>
      cI (E 321 [aR o, aI (6 : Int32), aI v5, aI v6, aI x2, aI (0 : Int32)] h1) (fun x4 h3 =>
      cI (E 321 [aR o, aI (16 : Int32), aI v6, aI (2 : Int32), aI (0 : Int32), aI (0 : Int32)] h3) (fun x6 h5 =>
      if x6 = v5 then
        if 0 ≤ x4 then
          R 569 [] [] h5
        else
          if x4 = (-1000000003 : Int32) then
            R 569 [] [] h5
          else
            some (.inl (some (aI (0 : Int32))), h5)
      else
        if x4 = (-1000000002 : Int32) then
          some (.inl (some (aI (1 : Int32))), h5)
        else
          some (.inl (some (aI (0 : Int32))), h5)) xT) xT) xT
    else
      cI (E 321 [aR o, aI (17 : Int32), aI v6, aI (6 : Int32), aI (0 : Int32), aI (0 : Int32)] h) (fun x8 h7 =>
      cI (E 321 [aR o, aI (17 : Int32), aI v6, aI (7 : Int32), aI (0 : Int32), aI (0 : Int32)] h7) (fun x10 h9 =>
      cI (E 321 [aR o, aI (14 : Int32), aI v6, aI (0 : Int32), aI (0 : Int32), aI (0 : Int32)] h9) (fun x12 h11 =>
      if x12 = (-1000000003 : Int32) then
        cI (E 321 [aR o, aI (17 : Int32), aI v6, aI (6 : Int32), aI (0 : Int32), aI (0 : Int32)] h11) (fun x14 h13 =>
        if x14 = x8 then
          some (.inl (some (aI (1 : Int32))), h13)
        else
          some (.inl (some (aI (0 : Int32))), h13)) xT
      else
        if x12 = x8 then
          if x10 < 0 then
            R 720 [] [] h11
          else
            cI (E 130 [aR o, aI (1 : Int32)] h11) (fun x16 h15 =>
            if (1 : Int32) < (x16 - x10) then
              R 720 [] [] h15
            else
              cI (E 321 [aR o, aI (17 : Int32), aI v6, aI (6 : Int32), aI (0 : Int32), aI (0 : Int32)] h15) (fun x18 h17 =>
              if x18 = 0 then
                cI (E 321 [aR o, aI (14 : Int32), aI v6, aI (0 : Int32), aI (0 : Int32), aI (0 : Int32)] h17) (fun x20 h19 =>
                if x20 = (-1000000003 : Int32) then
                  some (.inl (some (aI (1 : Int32))), h19)
                else
                  R 720 [] [] h19) xT
              else
                R 720 [] [] h17) xT) xT
        else
          R 720 [] [] h11) xT) xT) xT) rfl rfl rfl (fun R E => rfl)
set_option maxRecDepth 100000 in
theorem lf_329_720  (h : Hp) : Ru 329 720 [] [] h =
    some (.inl (some (aI (0 : Int32))), h) :=
  lift_of (k := 3) (rows := code_329) (cuts := cut_329) (hs := hdl_329) (r := fun R E =>
    some (.inl (some (aI (0 : Int32))), h)) rfl rfl rfl (fun R E => rfl)
set_option maxRecDepth 100000 in
theorem lf_329_569  (h : Hp) : Ru 329 569 [] [] h =
    some (.inl (some (aI (1 : Int32))), h) :=
  lift_of (k := 4) (rows := code_329) (cuts := cut_329) (hs := hdl_329) (r := fun R E =>
    some (.inl (some (aI (1 : Int32))), h)) rfl rfl rfl (fun R E => rfl)
set_option maxRecDepth 100000 in
theorem lf_329_415  (h : Hp) : Ru 329 415 [] [] h =
    some (.inl (some (aI (0 : Int32))), h) :=
  lift_of (k := 3) (rows := code_329) (cuts := cut_329) (hs := hdl_329) (r := fun R E =>
    some (.inl (some (aI (0 : Int32))), h)) rfl rfl rfl (fun R E => rfl)
set_option maxRecDepth 100000 in
theorem lf_329_359  (h : Hp) : Ru 329 359 [] [] h =
    some (.inl (some (aI (0 : Int32))), h) :=
  lift_of (k := 3) (rows := code_329) (cuts := cut_329) (hs := hdl_329) (r := fun R E =>
    some (.inl (some (aI (0 : Int32))), h)) rfl rfl rfl (fun R E => rfl)
set_option maxRecDepth 100000 in
theorem lf_329_355  (h : Hp) : Ru 329 355 [] [] h =
    some (.inl (some (aI (1 : Int32))), h) :=
  lift_of (k := 4) (rows := code_329) (cuts := cut_329) (hs := hdl_329) (r := fun R E =>
    some (.inl (some (aI (1 : Int32))), h)) rfl rfl rfl (fun R E => rfl)
set_option maxRecDepth 100000 in
theorem lf_329_264 (s0 : Option (Nat × Nat)) (s1 : Int32) (s2 : Int32) (s3 : Option (Nat × Nat)) (s4 : Int32) (s5 : Int32) (h : Hp) : Ru 329 264 [] [aI s5, aI s4, aR s3, aI s2, aI s1, aR s0] h =
    cI (Ex 320 [aR s3, aI s4, aI s5] h) (fun x2 h1 =>
    cI (Ex 321 [aR s0, aI s1, aI s2, aI x2, aI (0 : Int32), aI (0 : Int32)] h1) (fun x4 h3 =>
    if x4 < (1 : Int32) then
      some (.inl (some (aI (0 : Int32))), h3)
    else
      some (.inl (some (aI (1 : Int32))), h3)) xT) xT :=
  lift_of (k := 10) (rows := code_329) (cuts := cut_329) (hs := hdl_329) (r := fun R E =>
    cI (E 320 [aR s3, aI s4, aI s5] h) (fun x2 h1 =>
    cI (E 321 [aR s0, aI s1, aI s2, aI x2, aI (0 : Int32), aI (0 : Int32)] h1) (fun x4 h3 =>
    if x4 < (1 : Int32) then
      some (.inl (some (aI (0 : Int32))), h3)
    else
      some (.inl (some (aI (1 : Int32))), h3)) xT) xT) rfl rfl rfl (fun R E => rfl)
set_option maxRecDepth 100000 in
theorem lf_329_224  (h : Hp) : Ru 329 224 [] [] h =
    some (.inl (some (aI (1 : Int32))), h) :=
  lift_of (k := 4) (rows := code_329) (cuts := cut_329) (hs := hdl_329) (r := fun R E =>
    some (.inl (some (aI (1 : Int32))), h)) rfl rfl rfl (fun R E => rfl)
set_option maxRecDepth 100000 in
theorem lf_329_228  (h : Hp) : Ru 329 228 [] [] h =
    some (.inl (some (aI (0 : Int32))), h) :=
  lift_of (k := 3) (rows := code_329) (cuts := cut_329) (hs := hdl_329) (r := fun R E =>
    some (.inl (some (aI (0 : Int32))), h)) rfl rfl rfl (fun R E => rfl)
-- 330 ChipcardhouseLaw.days(LChipcardhouse;[I)Z
set_option maxRecDepth 100000 in
theorem lf_330_0 (p0 : Option (Nat × Nat)) (p1 : Option (Nat × Nat)) (h : Hp) : Ru 330 0 [(0, aR p0), (1, aR p1)] [] h =
    cL (Ex 131 [aR p0] h) (fun x2 h1 =>
    Ru 330 11 [(0, aR p0), (1, aR p1), (2, aL x2), (4, aL (0 : Int64)), (6, aI (0 : Int32))] [] h1) xT :=
  lift_of (k := 8) (rows := code_330) (cuts := cut_330) (hs := hdl_330) (r := fun R E =>
    cL (E 131 [aR p0] h) (fun x2 h1 =>
    R 11 [(0, aR p0), (1, aR p1), (2, aL x2), (4, aL (0 : Int64)), (6, aI (0 : Int32))] [] h1) xT) rfl rfl rfl (fun R E => rfl)
set_option maxRecDepth 100000 in
theorem lf_330_11 (o : Option (Nat × Nat)) (v1 : Option (Nat × Nat)) (v2 : Int64) (v4 : Int64) (v6 : Int32) (h : Hp) : Ru 330 11 [(0, aR o), (1, aR v1), (2, aL v2), (4, aL v4), (6, aI v6)] [] h =
    (gaI h v1 1000 (1 : Int32)).bind (fun x1 =>
    if x1 ≤ v6 then
      cI (Ex 130 [aR o, aI (1 : Int32)] h) (fun x3 h2 =>
      cI (Ex 123 [aR o] h2) (fun x5 h4 =>
      if x5 = (x3 + (1 : Int32)) then
        cL (Ex 131 [aR o] h4) (fun x7 h6 =>
        if (lg_cmp x7 v2) < 0 then
          Ru 330 82 [(0, aR o), (1, aR v1), (2, aL v2), (4, aL v4), (7, aI (0 : Int32)), (8, aI (0 : Int32))] [] h6
        else
          Ru 330 82 [(0, aR o), (1, aR v1), (2, aL v2), (4, aL v4), (7, aI (1 : Int32)), (8, aI (0 : Int32))] [] h6) xT
      else
        Ru 330 82 [(0, aR o), (1, aR v1), (2, aL v2), (4, aL v4), (7, aI (0 : Int32)), (8, aI (0 : Int32))] [] h4) xT) xT
    else
      cL (Ex 129 [aR o, aI v6, aI (0 : Int32)] h) (fun x9 h8 =>
      cL (Ex 129 [aR o, aI v6, aI (1 : Int32)] h8) (fun x11 h10 =>
      Ru 330 11 [(0, aR o), (1, aR v1), (2, aL v2), (4, aL (v4 + (x9 + x11))), (6, aI (v6 + (1 : Int32)))] [] h10) xT) xT) :=
  lift_of (k := 26) (rows := code_330) (cuts := cut_330) (hs := hdl_330) (r := fun R E =>
    (gaI h v1 1000 (1 : Int32)).bind (fun x1 =>
    if x1 ≤ v6 then
      cI (E 130 [aR o, aI (1 : Int32)] h) (fun x3 h2 =>
      cI (E 123 [aR o] h2) (fun x5 h4 =>
      if x5 = (x3 + (1 : Int32)) then
        cL (E 131 [aR o] h4) (fun x7 h6 =>
        if (lg_cmp x7 v2) < 0 then
          R 82 [(0, aR o), (1, aR v1), (2, aL v2), (4, aL v4), (7, aI (0 : Int32)), (8, aI (0 : Int32))] [] h6
        else
          R 82 [(0, aR o), (1, aR v1), (2, aL v2), (4, aL v4), (7, aI (1 : Int32)), (8, aI (0 : Int32))] [] h6) xT
      else
        R 82 [(0, aR o), (1, aR v1), (2, aL v2), (4, aL v4), (7, aI (0 : Int32)), (8, aI (0 : Int32))] [] h4) xT) xT
    else
      cL (E 129 [aR o, aI v6, aI (0 : Int32)] h) (fun x9 h8 =>
      cL (E 129 [aR o, aI v6, aI (1 : Int32)] h8) (fun x11 h10 =>
      R 11 [(0, aR o), (1, aR v1), (2, aL v2), (4, aL (v4 + (x9 + x11))), (6, aI (v6 + (1 : Int32)))] [] h10) xT) xT)) rfl rfl rfl (fun R E => rfl)
set_option maxRecDepth 100000 in
theorem lf_330_82 (o : Option (Nat × Nat)) (v1 : Option (Nat × Nat)) (v2 : Int64) (v4 : Int64) (v7 : Int32) (v8 : Int32) (h : Hp) : Ru 330 82 [(0, aR o), (1, aR v1), (2, aL v2), (4, aL v4), (7, aI v7), (8, aI v8)] [] h =
    (gaI h v1 1000 (1 : Int32)).bind (fun x1 =>
    if x1 ≤ v8 then
      if v7 = 0 then
        some (.inl (some (aI (0 : Int32))), h)
      else
        cL (Ex 131 [aR o] h) (fun x3 h2 =>
        if (lg_cmp v4 (x3 - v2)) = 0 then
          some (.inl (some (aI (1 : Int32))), h2)
        else
          some (.inl (some (aI (0 : Int32))), h2)) xT
    else
      cL (Ex 129 [aR o, aI v8, aI (0 : Int32)] h) (fun x5 h4 =>
      cL (Ex 129 [aR o, aI v8, aI (1 : Int32)] h4) (fun x7 h6 =>
      if v7 = 0 then
        Ru 330 82 [(0, aR o), (1, aR v1), (2, aL v2), (4, aL (v4 - (x5 + x7))), (7, aI (0 : Int32)), (8, aI (v8 + (1 : Int32)))] [] h6
      else
        cL (Ex 129 [aR o, aI v8, aI (1 : Int32)] h6) (fun x9 h8 =>
        if 0 < (lg_cmp x9 (0 : Int64)) then
          Ru 330 82 [(0, aR o), (1, aR v1), (2, aL v2), (4, aL (v4 - (x5 + x7))), (7, aI (0 : Int32)), (8, aI (v8 + (1 : Int32)))] [] h8
        else
          cL (Ex 129 [aR o, aI v8, aI (1 : Int32)] h8) (fun x11 h10 =>
          if (lg_cmp x11 (0 : Int64)) = 0 then
            Ru 330 82 [(0, aR o), (1, aR v1), (2, aL v2), (4, aL (v4 - (x5 + x7))), (7, aI (1 : Int32)), (8, aI (v8 + (1 : Int32)))] [] h10
          else
            cL (Ex 129 [aR o, aI v8, aI (0 : Int32)] h10) (fun x13 h12 =>
            if (lg_cmp x13 (0 : Int64)) = 0 then
              Ru 330 82 [(0, aR o), (1, aR v1), (2, aL v2), (4, aL (v4 - (x5 + x7))), (7, aI (1 : Int32)), (8, aI (v8 + (1 : Int32)))] [] h12
            else
              Ru 330 82 [(0, aR o), (1, aR v1), (2, aL v2), (4, aL (v4 - (x5 + x7))), (7, aI (0 : Int32)), (8, aI (v8 + (1 : Int32)))] [] h12) xT) xT) xT) xT) xT) :=
  lift_of (k := 46) (rows := code_330) (cuts := cut_330) (hs := hdl_330) (r := fun R E =>
    (gaI h v1 1000 (1 : Int32)).bind (fun x1 =>
    if x1 ≤ v8 then
      if v7 = 0 then
        some (.inl (some (aI (0 : Int32))), h)
      else
        cL (E 131 [aR o] h) (fun x3 h2 =>
        if (lg_cmp v4 (x3 - v2)) = 0 then
          some (.inl (some (aI (1 : Int32))), h2)
        else
          some (.inl (some (aI (0 : Int32))), h2)) xT
    else
      cL (E 129 [aR o, aI v8, aI (0 : Int32)] h) (fun x5 h4 =>
      cL (E 129 [aR o, aI v8, aI (1 : Int32)] h4) (fun x7 h6 =>
      if v7 = 0 then
        R 82 [(0, aR o), (1, aR v1), (2, aL v2), (4, aL (v4 - (x5 + x7))), (7, aI (0 : Int32)), (8, aI (v8 + (1 : Int32)))] [] h6
      else
        cL (E 129 [aR o, aI v8, aI (1 : Int32)] h6) (fun x9 h8 =>
        if 0 < (lg_cmp x9 (0 : Int64)) then
          R 82 [(0, aR o), (1, aR v1), (2, aL v2), (4, aL (v4 - (x5 + x7))), (7, aI (0 : Int32)), (8, aI (v8 + (1 : Int32)))] [] h8
        else
          cL (E 129 [aR o, aI v8, aI (1 : Int32)] h8) (fun x11 h10 =>
          if (lg_cmp x11 (0 : Int64)) = 0 then
            R 82 [(0, aR o), (1, aR v1), (2, aL v2), (4, aL (v4 - (x5 + x7))), (7, aI (1 : Int32)), (8, aI (v8 + (1 : Int32)))] [] h10
          else
            cL (E 129 [aR o, aI v8, aI (0 : Int32)] h10) (fun x13 h12 =>
            if (lg_cmp x13 (0 : Int64)) = 0 then
              R 82 [(0, aR o), (1, aR v1), (2, aL v2), (4, aL (v4 - (x5 + x7))), (7, aI (1 : Int32)), (8, aI (v8 + (1 : Int32)))] [] h12
            else
              R 82 [(0, aR o), (1, aR v1), (2, aL v2), (4, aL (v4 - (x5 + x7))), (7, aI (0 : Int32)), (8, aI (v8 + (1 : Int32)))] [] h12) xT) xT) xT) xT) xT)) rfl rfl rfl (fun R E => rfl)
-- 331 ChipcardhouseLaw.comesOut(LChipcardhouse;[I[I)Z
set_option maxRecDepth 100000 in
theorem lf_331_0 (p0 : Option (Nat × Nat)) (p1 : Option (Nat × Nat)) (p2 : Option (Nat × Nat)) (h : Hp) : Ru 331 0 [(0, aR p0), (1, aR p1), (2, aR p2)] [] h =
    cI (Ex 321 [aR p0, aI (10 : Int32), aI (1 : Int32), aI (0 : Int32), aI (0 : Int32), aI (0 : Int32)] h) (fun x2 h1 =>
    if x2 < 0 then
      Ru 331 36 [(0, aR p0), (2, aR p2), (3, aI (0 : Int32)), (4, aI (0 : Int32))] [] h1
    else
      cI (Ex 321 [aR p0, aI (8 : Int32), aI (60 : Int32), aI (0 : Int32), aI (0 : Int32), aI (0 : Int32)] h1) (fun x4 h3 =>
      if x4 ≤ 0 then
        Ru 331 36 [(0, aR p0), (2, aR p2), (3, aI (0 : Int32)), (4, aI (0 : Int32))] [] h3
      else
        Ru 331 36 [(0, aR p0), (2, aR p2), (3, aI (1 : Int32)), (4, aI (0 : Int32))] [] h3) xT) xT :=
  lift_of (k := 22) (rows := code_331) (cuts := cut_331) (hs := hdl_331) (r := fun R E =>
    cI (E 321 [aR p0, aI (10 : Int32), aI (1 : Int32), aI (0 : Int32), aI (0 : Int32), aI (0 : Int32)] h) (fun x2 h1 =>
    if x2 < 0 then
      R 36 [(0, aR p0), (2, aR p2), (3, aI (0 : Int32)), (4, aI (0 : Int32))] [] h1
    else
      cI (E 321 [aR p0, aI (8 : Int32), aI (60 : Int32), aI (0 : Int32), aI (0 : Int32), aI (0 : Int32)] h1) (fun x4 h3 =>
      if x4 ≤ 0 then
        R 36 [(0, aR p0), (2, aR p2), (3, aI (0 : Int32)), (4, aI (0 : Int32))] [] h3
      else
        R 36 [(0, aR p0), (2, aR p2), (3, aI (1 : Int32)), (4, aI (0 : Int32))] [] h3) xT) xT) rfl rfl rfl (fun R E => rfl)
set_option maxRecDepth 100000 in
theorem lf_331_36 (o : Option (Nat × Nat)) (v2 : Option (Nat × Nat)) (v3 : Int32) (v4 : Int32) (h : Hp) : Ru 331 36 [(0, aR o), (2, aR v2), (3, aI v3), (4, aI v4)] [] h =
    (gaI h v2 1000 (1 : Int32)).bind (fun x1 =>
    if x1 ≤ v4 then
      if v3 = 0 then
        Ru 331 116 [(0, aR o), (2, aR v2), (3, aI (0 : Int32)), (4, aI (0 : Int32))] [] h
      else
        cI (Ex 321 [aR o, aI (8 : Int32), aI (200 : Int32), aI (0 : Int32), aI (0 : Int32), aI (0 : Int32)] h) (fun x3 h2 =>
        if x3 ≤ 0 then
          Ru 331 116 [(0, aR o), (2, aR v2), (3, aI (0 : Int32)), (4, aI (0 : Int32))] [] h2
        else
          cI (Ex 321 [aR o, aI (8 : Int32), aI (200 : Int32), aI (0 : Int32), aI (0 : Int32), aI (0 : Int32)] h2) (fun x5 h4 =>
          if x5 ≤ 0 then
            Ru 331 116 [(0, aR o), (2, aR v2), (3, aI (0 : Int32)), (4, aI (0 : Int32))] [] h4
          else
            Ru 331 116 [(0, aR o), (2, aR v2), (3, aI (1 : Int32)), (4, aI (0 : Int32))] [] h4) xT) xT
    else
      if v3 = 0 then
        if v3 = 0 then
          Ru 331 116 [(0, aR o), (2, aR v2), (3, aI (0 : Int32)), (4, aI (0 : Int32))] [] h
        else
          cI (Ex 321 [aR o, aI (8 : Int32), aI (200 : Int32), aI (0 : Int32), aI (0 : Int32), aI (0 : Int32)] h) (fun x7 h6 =>
          if x7 ≤ 0 then
            Ru 331 116 [(0, aR o), (2, aR v2), (3, aI (0 : Int32)), (4, aI (0 : Int32))] [] h6
          else
            cI (Ex 321 [aR o, aI (8 : Int32), aI (200 : Int32), aI (0 : Int32), aI (0 : Int32), aI (0 : Int32)] h6) (fun x9 h8 =>
            if x9 ≤ 0 then
              Ru 331 116 [(0, aR o), (2, aR v2), (3, aI (0 : Int32)), (4, aI (0 : Int32))] [] h8
            else
              Ru 331 116 [(0, aR o), (2, aR v2), (3, aI (1 : Int32)), (4, aI (0 : Int32))] [] h8) xT) xT
      else
        cI (Ex 321 [aR o, aI (5 : Int32), aI v4, aI (0 : Int32), aI (0 : Int32), aI (0 : Int32)] h) (fun x11 h10 =>
        if x11 < 0 then
          Ru 331 36 [(0, aR o), (2, aR v2), (3, aI (0 : Int32)), (4, aI (v4 + (1 : Int32)))] [] h10
        else
          Ru 331 36 [(0, aR o), (2, aR v2), (3, aI (1 : Int32)), (4, aI (v4 + (1 : Int32)))] [] h10) xT) :=
  lift_of (k := 31) (rows := code_331) (cuts := cut_331) (hs := hdl_331) (r := fun R E =>
    (gaI h v2 1000 (1 : Int32)).bind (fun x1 =>
    if x1 ≤ v4 then
      if v3 = 0 then
        R 116 [(0, aR o), (2, aR v2), (3, aI (0 : Int32)), (4, aI (0 : Int32))] [] h
      else
        cI (E 321 [aR o, aI (8 : Int32), aI (200 : Int32), aI (0 : Int32), aI (0 : Int32), aI (0 : Int32)] h) (fun x3 h2 =>
        if x3 ≤ 0 then
          R 116 [(0, aR o), (2, aR v2), (3, aI (0 : Int32)), (4, aI (0 : Int32))] [] h2
        else
          cI (E 321 [aR o, aI (8 : Int32), aI (200 : Int32), aI (0 : Int32), aI (0 : Int32), aI (0 : Int32)] h2) (fun x5 h4 =>
          if x5 ≤ 0 then
            R 116 [(0, aR o), (2, aR v2), (3, aI (0 : Int32)), (4, aI (0 : Int32))] [] h4
          else
            R 116 [(0, aR o), (2, aR v2), (3, aI (1 : Int32)), (4, aI (0 : Int32))] [] h4) xT) xT
    else
      if v3 = 0 then
        if v3 = 0 then
          R 116 [(0, aR o), (2, aR v2), (3, aI (0 : Int32)), (4, aI (0 : Int32))] [] h
        else
          cI (E 321 [aR o, aI (8 : Int32), aI (200 : Int32), aI (0 : Int32), aI (0 : Int32), aI (0 : Int32)] h) (fun x7 h6 =>
          if x7 ≤ 0 then
            R 116 [(0, aR o), (2, aR v2), (3, aI (0 : Int32)), (4, aI (0 : Int32))] [] h6
          else
            cI (E 321 [aR o, aI (8 : Int32), aI (200 : Int32), aI (0 : Int32), aI (0 : Int32), aI (0 : Int32)] h6) (fun x9 h8 =>
            if x9 ≤ 0 then
              R 116 [(0, aR o), (2, aR v2), (3, aI (0 : Int32)), (4, aI (0 : Int32))] [] h8
            else
              R 116 [(0, aR o), (2, aR v2), (3, aI (1 : Int32)), (4, aI (0 : Int32))] [] h8) xT) xT
      else
        cI (E 321 [aR o, aI (5 : Int32), aI v4, aI (0 : Int32), aI (0 : Int32), aI (0 : Int32)] h) (fun x11 h10 =>
        if x11 < 0 then
          R 36 [(0, aR o), (2, aR v2), (3, aI (0 : Int32)), (4, aI (v4 + (1 : Int32)))] [] h10
        else
          R 36 [(0, aR o), (2, aR v2), (3, aI (1 : Int32)), (4, aI (v4 + (1 : Int32)))] [] h10) xT)) rfl rfl rfl (fun R E => rfl)
set_option maxRecDepth 100000 in
theorem lf_331_116 (o : Option (Nat × Nat)) (v2 : Option (Nat × Nat)) (v3 : Int32) (v4 : Int32) (h : Hp) : Ru 331 116 [(0, aR o), (2, aR v2), (3, aI v3), (4, aI v4)] [] h =
    (gaI h v2 1000 (1 : Int32)).bind (fun x1 =>
    if x1 ≤ v4 then
      Ru 331 179 [(0, aR o), (2, aR v2), (3, aI v3), (4, aI (0 : Int32))] [] h
    else
      if v3 = 0 then
        Ru 331 179 [(0, aR o), (2, aR v2), (3, aI v3), (4, aI (0 : Int32))] [] h
      else
        cL (Ex 129 [aR o, aI v4, aI (3 : Int32)] h) (fun x3 h2 =>
        if (lg_cmp x3 (0 : Int64)) = 0 then
          cL (Ex 129 [aR o, aI v4, aI (4 : Int32)] h2) (fun x5 h4 =>
          if (lg_cmp x5 (0 : Int64)) = 0 then
            cL (Ex 129 [aR o, aI v4, aI (5 : Int32)] h4) (fun x7 h6 =>
            if (lg_cmp x7 (0 : Int64)) = 0 then
              Ru 331 116 [(0, aR o), (2, aR v2), (3, aI (1 : Int32)), (4, aI (v4 + (1 : Int32)))] [] h6
            else
              Ru 331 116 [(0, aR o), (2, aR v2), (3, aI (0 : Int32)), (4, aI (v4 + (1 : Int32)))] [] h6) xT
          else
            Ru 331 116 [(0, aR o), (2, aR v2), (3, aI (0 : Int32)), (4, aI (v4 + (1 : Int32)))] [] h4) xT
        else
          Ru 331 116 [(0, aR o), (2, aR v2), (3, aI (0 : Int32)), (4, aI (v4 + (1 : Int32)))] [] h2) xT) :=
  lift_of (k := 34) (rows := code_331) (cuts := cut_331) (hs := hdl_331) (r := fun R E =>
    (gaI h v2 1000 (1 : Int32)).bind (fun x1 =>
    if x1 ≤ v4 then
      R 179 [(0, aR o), (2, aR v2), (3, aI v3), (4, aI (0 : Int32))] [] h
    else
      if v3 = 0 then
        R 179 [(0, aR o), (2, aR v2), (3, aI v3), (4, aI (0 : Int32))] [] h
      else
        cL (E 129 [aR o, aI v4, aI (3 : Int32)] h) (fun x3 h2 =>
        if (lg_cmp x3 (0 : Int64)) = 0 then
          cL (E 129 [aR o, aI v4, aI (4 : Int32)] h2) (fun x5 h4 =>
          if (lg_cmp x5 (0 : Int64)) = 0 then
            cL (E 129 [aR o, aI v4, aI (5 : Int32)] h4) (fun x7 h6 =>
            if (lg_cmp x7 (0 : Int64)) = 0 then
              R 116 [(0, aR o), (2, aR v2), (3, aI (1 : Int32)), (4, aI (v4 + (1 : Int32)))] [] h6
            else
              R 116 [(0, aR o), (2, aR v2), (3, aI (0 : Int32)), (4, aI (v4 + (1 : Int32)))] [] h6) xT
          else
            R 116 [(0, aR o), (2, aR v2), (3, aI (0 : Int32)), (4, aI (v4 + (1 : Int32)))] [] h4) xT
        else
          R 116 [(0, aR o), (2, aR v2), (3, aI (0 : Int32)), (4, aI (v4 + (1 : Int32)))] [] h2) xT)) rfl rfl rfl (fun R E => rfl)
set_option maxRecDepth 100000 in
theorem lf_331_179 (o : Option (Nat × Nat)) (v2 : Option (Nat × Nat)) (v3 : Int32) (v4 : Int32) (h : Hp) : Ru 331 179 [(0, aR o), (2, aR v2), (3, aI v3), (4, aI v4)] [] h =
    (gaI h v2 1000 (3 : Int32)).bind (fun x1 =>
    if x1 ≤ v4 then
      Ru 331 282 [(0, aR o), (2, aR v2), (3, aI v3), (4, aI (0 : Int32))] [] h
    else
      if v3 = 0 then
        Ru 331 282 [(0, aR o), (2, aR v2), (3, aI v3), (4, aI (0 : Int32))] [] h
      else
        cI (Ex 326 [aR o, aI v4] h) (fun x3 h2 =>
        cI (Ex 321 [aR o, aI (16 : Int32), aI v4, aI (0 : Int32), aI (0 : Int32), aI (0 : Int32)] h2) (fun x5 h4 =>
        if x5 = (1 : Int32) then
          Ru 331 179 [(0, aR o), (2, aR v2), (3, aI (0 : Int32)), (4, aI (v4 + (1 : Int32)))] [] h4
        else
          (gaI h4 v2 1000 (4 : Int32)).bind (fun x6 =>
          if x6 = (1 : Int32) then
            (gaI h4 v2 1000 (4 : Int32)).bind (fun x7 =>
            if x7 = (1 : Int32) then
              Ru 331 179 [(0, aR o), (2, aR v2), (3, aI (1 : Int32)), (4, aI (v4 + (1 : Int32)))] [] h4
            else
              cI (Ex 321 [aR o, aI (17 : Int32), aI v4, aI (1 : Int32), aI (0 : Int32), aI (0 : Int32)] h4) (fun x9 h8 =>
              if x9 = 0 then
                Ru 331 179 [(0, aR o), (2, aR v2), (3, aI (1 : Int32)), (4, aI (v4 + (1 : Int32)))] [] h8
              else
                Ru 331 179 [(0, aR o), (2, aR v2), (3, aI (0 : Int32)), (4, aI (v4 + (1 : Int32)))] [] h8) xT)
          else
            cI (Ex 321 [aR o, aI (17 : Int32), aI v4, aI (2 : Int32), aI (0 : Int32), aI (0 : Int32)] h4) (fun x11 h10 =>
            if x11 = (1 : Int32) then
              if (1 : Int32) = x3 then
                (gaI h10 v2 1000 (4 : Int32)).bind (fun x12 =>
                if x12 = (1 : Int32) then
                  Ru 331 179 [(0, aR o), (2, aR v2), (3, aI (1 : Int32)), (4, aI (v4 + (1 : Int32)))] [] h10
                else
                  cI (Ex 321 [aR o, aI (17 : Int32), aI v4, aI (1 : Int32), aI (0 : Int32), aI (0 : Int32)] h10) (fun x14 h13 =>
                  if x14 = 0 then
                    Ru 331 179 [(0, aR o), (2, aR v2), (3, aI (1 : Int32)), (4, aI (v4 + (1 : Int32)))] [] h13
                  else
                    Ru 331 179 [(0, aR o), (2, aR v2), (3, aI (0 : Int32)), (4, aI (v4 + (1 : Int32)))] [] h13) xT)
              else
                Ru 331 179 [(0, aR o), (2, aR v2), (3, aI (0 : Int32)), (4, aI (v4 + (1 : Int32)))] [] h10
            else
              if (0 : Int32) = x3 then
                (gaI h10 v2 1000 (4 : Int32)).bind (fun x15 =>
                if x15 = (1 : Int32) then
                  Ru 331 179 [(0, aR o), (2, aR v2), (3, aI (1 : Int32)), (4, aI (v4 + (1 : Int32)))] [] h10
                else
                  cI (Ex 321 [aR o, aI (17 : Int32), aI v4, aI (1 : Int32), aI (0 : Int32), aI (0 : Int32)] h10) (fun x17 h16 =>
                  if x17 = 0 then
                    Ru 331 179 [(0, aR o), (2, aR v2), (3, aI (1 : Int32)), (4, aI (v4 + (1 : Int32)))] [] h16
                  else
                    Ru 331 179 [(0, aR o), (2, aR v2), (3, aI (0 : Int32)), (4, aI (v4 + (1 : Int32)))] [] h16) xT)
              else
                Ru 331 179 [(0, aR o), (2, aR v2), (3, aI (0 : Int32)), (4, aI (v4 + (1 : Int32)))] [] h10) xT)) xT) xT) :=
  lift_of (k := 57) (rows := code_331) (cuts := cut_331) (hs := hdl_331) (r := fun R E =>
    (gaI h v2 1000 (3 : Int32)).bind (fun x1 =>
    if x1 ≤ v4 then
      R 282 [(0, aR o), (2, aR v2), (3, aI v3), (4, aI (0 : Int32))] [] h
    else
      if v3 = 0 then
        R 282 [(0, aR o), (2, aR v2), (3, aI v3), (4, aI (0 : Int32))] [] h
      else
        cI (E 326 [aR o, aI v4] h) (fun x3 h2 =>
        cI (E 321 [aR o, aI (16 : Int32), aI v4, aI (0 : Int32), aI (0 : Int32), aI (0 : Int32)] h2) (fun x5 h4 =>
        if x5 = (1 : Int32) then
          R 179 [(0, aR o), (2, aR v2), (3, aI (0 : Int32)), (4, aI (v4 + (1 : Int32)))] [] h4
        else
          (gaI h4 v2 1000 (4 : Int32)).bind (fun x6 =>
          if x6 = (1 : Int32) then
            (gaI h4 v2 1000 (4 : Int32)).bind (fun x7 =>
            if x7 = (1 : Int32) then
              R 179 [(0, aR o), (2, aR v2), (3, aI (1 : Int32)), (4, aI (v4 + (1 : Int32)))] [] h4
            else
              cI (E 321 [aR o, aI (17 : Int32), aI v4, aI (1 : Int32), aI (0 : Int32), aI (0 : Int32)] h4) (fun x9 h8 =>
              if x9 = 0 then
                R 179 [(0, aR o), (2, aR v2), (3, aI (1 : Int32)), (4, aI (v4 + (1 : Int32)))] [] h8
              else
                R 179 [(0, aR o), (2, aR v2), (3, aI (0 : Int32)), (4, aI (v4 + (1 : Int32)))] [] h8) xT)
          else
            cI (E 321 [aR o, aI (17 : Int32), aI v4, aI (2 : Int32), aI (0 : Int32), aI (0 : Int32)] h4) (fun x11 h10 =>
            if x11 = (1 : Int32) then
              if (1 : Int32) = x3 then
                (gaI h10 v2 1000 (4 : Int32)).bind (fun x12 =>
                if x12 = (1 : Int32) then
                  R 179 [(0, aR o), (2, aR v2), (3, aI (1 : Int32)), (4, aI (v4 + (1 : Int32)))] [] h10
                else
                  cI (E 321 [aR o, aI (17 : Int32), aI v4, aI (1 : Int32), aI (0 : Int32), aI (0 : Int32)] h10) (fun x14 h13 =>
                  if x14 = 0 then
                    R 179 [(0, aR o), (2, aR v2), (3, aI (1 : Int32)), (4, aI (v4 + (1 : Int32)))] [] h13
                  else
                    R 179 [(0, aR o), (2, aR v2), (3, aI (0 : Int32)), (4, aI (v4 + (1 : Int32)))] [] h13) xT)
              else
                R 179 [(0, aR o), (2, aR v2), (3, aI (0 : Int32)), (4, aI (v4 + (1 : Int32)))] [] h10
            else
              if (0 : Int32) = x3 then
                (gaI h10 v2 1000 (4 : Int32)).bind (fun x15 =>
                if x15 = (1 : Int32) then
                  R 179 [(0, aR o), (2, aR v2), (3, aI (1 : Int32)), (4, aI (v4 + (1 : Int32)))] [] h10
                else
                  cI (E 321 [aR o, aI (17 : Int32), aI v4, aI (1 : Int32), aI (0 : Int32), aI (0 : Int32)] h10) (fun x17 h16 =>
                  if x17 = 0 then
                    R 179 [(0, aR o), (2, aR v2), (3, aI (1 : Int32)), (4, aI (v4 + (1 : Int32)))] [] h16
                  else
                    R 179 [(0, aR o), (2, aR v2), (3, aI (0 : Int32)), (4, aI (v4 + (1 : Int32)))] [] h16) xT)
              else
                R 179 [(0, aR o), (2, aR v2), (3, aI (0 : Int32)), (4, aI (v4 + (1 : Int32)))] [] h10) xT)) xT) xT)) rfl rfl rfl (fun R E => rfl)
set_option maxRecDepth 100000 in
theorem lf_331_282 (o : Option (Nat × Nat)) (v2 : Option (Nat × Nat)) (v3 : Int32) (v4 : Int32) (h : Hp) : Ru 331 282 [(0, aR o), (2, aR v2), (3, aI v3), (4, aI v4)] [] h =
    (gaI h v2 1000 (0 : Int32)).bind (fun x1 =>
    if x1 ≤ v4 then
      gz v3 (some (.inl (some (aI v3)), h))
    else
      if v3 = 0 then
        gz v3 (some (.inl (some (aI v3)), h))
      else
        (gaI h v2 1000 (4 : Int32)).bind (fun x2 =>
        if x2 = 0 then
          (gaI h v2 1000 ((10 : Int32) + v4)).bind (fun x3 =>
          Ru 331 313 [(0, aR o), (2, aR v2), (4, aI v4), (5, aL x3.toInt64), (7, aI (0 : Int32))] [] h)
        else
          gz v3 (some (.inl (some (aI v3)), h)))) :=
  lift_of (k := 21) (rows := code_331) (cuts := cut_331) (hs := hdl_331) (r := fun R E =>
    (gaI h v2 1000 (0 : Int32)).bind (fun x1 =>
    if x1 ≤ v4 then
      gz v3 (some (.inl (some (aI v3)), h))
    else
      if v3 = 0 then
        gz v3 (some (.inl (some (aI v3)), h))
      else
        (gaI h v2 1000 (4 : Int32)).bind (fun x2 =>
        if x2 = 0 then
          (gaI h v2 1000 ((10 : Int32) + v4)).bind (fun x3 =>
          R 313 [(0, aR o), (2, aR v2), (4, aI v4), (5, aL x3.toInt64), (7, aI (0 : Int32))] [] h)
        else
          gz v3 (some (.inl (some (aI v3)), h))))) rfl rfl rfl (fun R E => rfl)
set_option maxRecDepth 100000 in
theorem lf_331_313 (o : Option (Nat × Nat)) (v2 : Option (Nat × Nat)) (v4 : Int32) (v5 : Int64) (v7 : Int32) (h : Hp) : Ru 331 313 [(0, aR o), (2, aR v2), (4, aI v4), (5, aL v5), (7, aI v7)] [] h =
    (gaI h v2 1000 (3 : Int32)).bind (fun x1 =>
    if x1 ≤ v7 then
      cL (Ex 128 [aR o, aI v4, aI (0 : Int32)] h) (fun x3 h2 =>
      if (lg_cmp x3 v5) = 0 then
        cL (Ex 128 [aR o, aI v4, aI (1 : Int32)] h2) (fun x5 h4 =>
        if (lg_cmp x5 (0 : Int64)) = 0 then
          Ru 331 282 [(0, aR o), (2, aR v2), (3, aI (1 : Int32)), (4, aI (v4 + (1 : Int32)))] [] h4
        else
          Ru 331 282 [(0, aR o), (2, aR v2), (3, aI (0 : Int32)), (4, aI (v4 + (1 : Int32)))] [] h4) xT
      else
        Ru 331 282 [(0, aR o), (2, aR v2), (3, aI (0 : Int32)), (4, aI (v4 + (1 : Int32)))] [] h2) xT
    else
      cI (Ex 321 [aR o, aI (16 : Int32), aI v7, aI (1 : Int32), aI (0 : Int32), aI (0 : Int32)] h) (fun x7 h6 =>
      (gaI h6 v2 1000 ((20 : Int32) + x7)).bind (fun x8 =>
      if x8 = v4 then
        cI (Ex 321 [aR o, aI (17 : Int32), aI v7, aI (6 : Int32), aI (0 : Int32), aI (0 : Int32)] h6) (fun x10 h9 =>
        Ru 331 313 [(0, aR o), (2, aR v2), (4, aI v4), (5, aL (v5 - x10.toInt64)), (7, aI (v7 + (1 : Int32)))] [] h9) xT
      else
        Ru 331 313 [(0, aR o), (2, aR v2), (4, aI v4), (5, aL (v5 - (0 : Int64))), (7, aI (v7 + (1 : Int32)))] [] h6)) xT) :=
  lift_of (k := 33) (rows := code_331) (cuts := cut_331) (hs := hdl_331) (r := fun R E =>
    (gaI h v2 1000 (3 : Int32)).bind (fun x1 =>
    if x1 ≤ v7 then
      cL (E 128 [aR o, aI v4, aI (0 : Int32)] h) (fun x3 h2 =>
      if (lg_cmp x3 v5) = 0 then
        cL (E 128 [aR o, aI v4, aI (1 : Int32)] h2) (fun x5 h4 =>
        if (lg_cmp x5 (0 : Int64)) = 0 then
          R 282 [(0, aR o), (2, aR v2), (3, aI (1 : Int32)), (4, aI (v4 + (1 : Int32)))] [] h4
        else
          R 282 [(0, aR o), (2, aR v2), (3, aI (0 : Int32)), (4, aI (v4 + (1 : Int32)))] [] h4) xT
      else
        R 282 [(0, aR o), (2, aR v2), (3, aI (0 : Int32)), (4, aI (v4 + (1 : Int32)))] [] h2) xT
    else
      cI (E 321 [aR o, aI (16 : Int32), aI v7, aI (1 : Int32), aI (0 : Int32), aI (0 : Int32)] h) (fun x7 h6 =>
      (gaI h6 v2 1000 ((20 : Int32) + x7)).bind (fun x8 =>
      if x8 = v4 then
        cI (E 321 [aR o, aI (17 : Int32), aI v7, aI (6 : Int32), aI (0 : Int32), aI (0 : Int32)] h6) (fun x10 h9 =>
        R 313 [(0, aR o), (2, aR v2), (4, aI v4), (5, aL (v5 - x10.toInt64)), (7, aI (v7 + (1 : Int32)))] [] h9) xT
      else
        R 313 [(0, aR o), (2, aR v2), (4, aI v4), (5, aL (v5 - (0 : Int64))), (7, aI (v7 + (1 : Int32)))] [] h6)) xT)) rfl rfl rfl (fun R E => rfl)
-- 332 ChipcardhouseLaw.plays([I[I)Z
set_option maxRecDepth 100000 in
theorem lf_332_0 (p0 : Option (Nat × Nat)) (p1 : Option (Nat × Nat)) (h : Hp) : Ru 332 0 [(0, aR p0), (1, aR p1)] [] h =
    cV (Ex 76 [aR (nob h 96 11 [4, 4, 4, 4, 4, 4, 4, 4, 0, 1, 1, 0]).1] (nob h 96 11 [4, 4, 4, 4, 4, 4, 4, 4, 0, 1, 1, 0]).2) (fun h1 =>
    cI (Ex 319 [aR p0] h1) (fun x3 h2 =>
    if (imod x3 (4 : Int32)) = 0 then
      cI (Ex 78 [aR (nob h 96 11 [4, 4, 4, 4, 4, 4, 4, 4, 0, 1, 1, 0]).1] h2) (fun x5 h4 =>
      if x5 = (-1 : Int32) then
        cI (Ex 130 [aR (nob h 96 11 [4, 4, 4, 4, 4, 4, 4, 4, 0, 1, 1, 0]).1, aI (9 : Int32)] h4) (fun x7 h6 =>
        if x7 = (1 : Int32) then
          cI (Ex 322 [aR (nob h 96 11 [4, 4, 4, 4, 4, 4, 4, 4, 0, 1, 1, 0]).1, aR p0, aR p1] h6) (fun x9 h8 =>
          if x9 = 0 then
            Ru 332 60 [(0, aR p0), (1, aR p1), (2, aR (nob h 96 11 [4, 4, 4, 4, 4, 4, 4, 4, 0, 1, 1, 0]).1), (3, aI (1 : Int32)), (4, aI (0 : Int32)), (5, aI (0 : Int32))] [] h8
          else
            Ru 332 60 [(0, aR p0), (1, aR p1), (2, aR (nob h 96 11 [4, 4, 4, 4, 4, 4, 4, 4, 0, 1, 1, 0]).1), (3, aI (1 : Int32)), (4, aI (1 : Int32)), (5, aI (0 : Int32))] [] h8) xT
        else
          Ru 332 60 [(0, aR p0), (1, aR p1), (2, aR (nob h 96 11 [4, 4, 4, 4, 4, 4, 4, 4, 0, 1, 1, 0]).1), (3, aI (1 : Int32)), (4, aI (0 : Int32)), (5, aI (0 : Int32))] [] h6) xT
      else
        Ru 332 60 [(0, aR p0), (1, aR p1), (2, aR (nob h 96 11 [4, 4, 4, 4, 4, 4, 4, 4, 0, 1, 1, 0]).1), (3, aI (1 : Int32)), (4, aI (0 : Int32)), (5, aI (0 : Int32))] [] h4) xT
    else
      cI (Ex 78 [aR (nob h 96 11 [4, 4, 4, 4, 4, 4, 4, 4, 0, 1, 1, 0]).1] h2) (fun x11 h10 =>
      if x11 = (-1 : Int32) then
        cI (Ex 130 [aR (nob h 96 11 [4, 4, 4, 4, 4, 4, 4, 4, 0, 1, 1, 0]).1, aI (9 : Int32)] h10) (fun x13 h12 =>
        if x13 = (1 : Int32) then
          cI (Ex 322 [aR (nob h 96 11 [4, 4, 4, 4, 4, 4, 4, 4, 0, 1, 1, 0]).1, aR p0, aR p1] h12) (fun x15 h14 =>
          if x15 = 0 then
            Ru 332 60 [(0, aR p0), (1, aR p1), (2, aR (nob h 96 11 [4, 4, 4, 4, 4, 4, 4, 4, 0, 1, 1, 0]).1), (3, aI (0 : Int32)), (4, aI (0 : Int32)), (5, aI (0 : Int32))] [] h14
          else
            Ru 332 60 [(0, aR p0), (1, aR p1), (2, aR (nob h 96 11 [4, 4, 4, 4, 4, 4, 4, 4, 0, 1, 1, 0]).1), (3, aI (0 : Int32)), (4, aI (1 : Int32)), (5, aI (0 : Int32))] [] h14) xT
        else
          Ru 332 60 [(0, aR p0), (1, aR p1), (2, aR (nob h 96 11 [4, 4, 4, 4, 4, 4, 4, 4, 0, 1, 1, 0]).1), (3, aI (0 : Int32)), (4, aI (0 : Int32)), (5, aI (0 : Int32))] [] h12) xT
      else
        Ru 332 60 [(0, aR p0), (1, aR p1), (2, aR (nob h 96 11 [4, 4, 4, 4, 4, 4, 4, 4, 0, 1, 1, 0]).1), (3, aI (0 : Int32)), (4, aI (0 : Int32)), (5, aI (0 : Int32))] [] h10) xT) xT) xT :=
  lift_of (k := 32) (rows := code_332) (cuts := cut_332) (hs := hdl_332) (r := fun R E =>
    cV (E 76 [aR (nob h 96 11 [4, 4, 4, 4, 4, 4, 4, 4, 0, 1, 1, 0]).1] (nob h 96 11 [4, 4, 4, 4, 4, 4, 4, 4, 0, 1, 1, 0]).2) (fun h1 =>
    cI (E 319 [aR p0] h1) (fun x3 h2 =>
    if (imod x3 (4 : Int32)) = 0 then
      cI (E 78 [aR (nob h 96 11 [4, 4, 4, 4, 4, 4, 4, 4, 0, 1, 1, 0]).1] h2) (fun x5 h4 =>
      if x5 = (-1 : Int32) then
        cI (E 130 [aR (nob h 96 11 [4, 4, 4, 4, 4, 4, 4, 4, 0, 1, 1, 0]).1, aI (9 : Int32)] h4) (fun x7 h6 =>
        if x7 = (1 : Int32) then
          cI (E 322 [aR (nob h 96 11 [4, 4, 4, 4, 4, 4, 4, 4, 0, 1, 1, 0]).1, aR p0, aR p1] h6) (fun x9 h8 =>
          if x9 = 0 then
            R 60 [(0, aR p0), (1, aR p1), (2, aR (nob h 96 11 [4, 4, 4, 4, 4, 4, 4, 4, 0, 1, 1, 0]).1), (3, aI (1 : Int32)), (4, aI (0 : Int32)), (5, aI (0 : Int32))] [] h8
          else
            R 60 [(0, aR p0), (1, aR p1), (2, aR (nob h 96 11 [4, 4, 4, 4, 4, 4, 4, 4, 0, 1, 1, 0]).1), (3, aI (1 : Int32)), (4, aI (1 : Int32)), (5, aI (0 : Int32))] [] h8) xT
        else
          R 60 [(0, aR p0), (1, aR p1), (2, aR (nob h 96 11 [4, 4, 4, 4, 4, 4, 4, 4, 0, 1, 1, 0]).1), (3, aI (1 : Int32)), (4, aI (0 : Int32)), (5, aI (0 : Int32))] [] h6) xT
      else
        R 60 [(0, aR p0), (1, aR p1), (2, aR (nob h 96 11 [4, 4, 4, 4, 4, 4, 4, 4, 0, 1, 1, 0]).1), (3, aI (1 : Int32)), (4, aI (0 : Int32)), (5, aI (0 : Int32))] [] h4) xT
    else
      cI (E 78 [aR (nob h 96 11 [4, 4, 4, 4, 4, 4, 4, 4, 0, 1, 1, 0]).1] h2) (fun x11 h10 =>
      if x11 = (-1 : Int32) then
        cI (E 130 [aR (nob h 96 11 [4, 4, 4, 4, 4, 4, 4, 4, 0, 1, 1, 0]).1, aI (9 : Int32)] h10) (fun x13 h12 =>
        if x13 = (1 : Int32) then
          cI (E 322 [aR (nob h 96 11 [4, 4, 4, 4, 4, 4, 4, 4, 0, 1, 1, 0]).1, aR p0, aR p1] h12) (fun x15 h14 =>
          if x15 = 0 then
            R 60 [(0, aR p0), (1, aR p1), (2, aR (nob h 96 11 [4, 4, 4, 4, 4, 4, 4, 4, 0, 1, 1, 0]).1), (3, aI (0 : Int32)), (4, aI (0 : Int32)), (5, aI (0 : Int32))] [] h14
          else
            R 60 [(0, aR p0), (1, aR p1), (2, aR (nob h 96 11 [4, 4, 4, 4, 4, 4, 4, 4, 0, 1, 1, 0]).1), (3, aI (0 : Int32)), (4, aI (1 : Int32)), (5, aI (0 : Int32))] [] h14) xT
        else
          R 60 [(0, aR p0), (1, aR p1), (2, aR (nob h 96 11 [4, 4, 4, 4, 4, 4, 4, 4, 0, 1, 1, 0]).1), (3, aI (0 : Int32)), (4, aI (0 : Int32)), (5, aI (0 : Int32))] [] h12) xT
      else
        R 60 [(0, aR p0), (1, aR p1), (2, aR (nob h 96 11 [4, 4, 4, 4, 4, 4, 4, 4, 0, 1, 1, 0]).1), (3, aI (0 : Int32)), (4, aI (0 : Int32)), (5, aI (0 : Int32))] [] h10) xT) xT) xT) rfl rfl rfl (fun R E => rfl)
set_option maxRecDepth 100000 in
theorem lf_332_60 (o : Option (Nat × Nat)) (v1 : Option (Nat × Nat)) (v2 : Option (Nat × Nat)) (v3 : Int32) (v4 : Int32) (v5 : Int32) (h : Hp) : Ru 332 60 [(0, aR o), (1, aR v1), (2, aR v2), (3, aI v3), (4, aI v4), (5, aI v5)] [] h =
    if (70 : Int32) ≤ v5 then
      Ru 332 138 [(0, aR o), (1, aR v1), (2, aR v2), (4, aI v4)] [] h
    else
      if v4 = 0 then
        Ru 332 138 [(0, aR o), (1, aR v1), (2, aR v2), (4, aI v4)] [] h
      else
        cI (Ex 329 [aR v2, aR o, aR v1, aI v3] h) (fun x2 h1 =>
        if x2 = 0 then
          if x2 = 0 then
            Ru 332 60 [(0, aR o), (1, aR v1), (2, aR v2), (3, aI v3), (4, aI (0 : Int32)), (5, aI (v5 + (1 : Int32)))] [] h1
          else
            if (imod v5 (20 : Int32)) = (19 : Int32) then
              cI (Ex 135 [aR v2] h1) (fun x4 h3 =>
              if x4 = 0 then
                Ru 332 60 [(0, aR o), (1, aR v1), (2, aR v2), (3, aI v3), (4, aI (1 : Int32)), (5, aI (v5 + (1 : Int32)))] [] h3
              else
                Ru 332 60 [(0, aR o), (1, aR v1), (2, aR v2), (3, aI v3), (4, aI (0 : Int32)), (5, aI (v5 + (1 : Int32)))] [] h3) xT
            else
              Ru 332 60 [(0, aR o), (1, aR v1), (2, aR v2), (3, aI v3), (4, aI (1 : Int32)), (5, aI (v5 + (1 : Int32)))] [] h1
        else
          if (imod v5 (7 : Int32)) = (6 : Int32) then
            cI (Ex 327 [aR v2, aR v1] h1) (fun x6 h5 =>
            if x6 = 0 then
              Ru 332 60 [(0, aR o), (1, aR v1), (2, aR v2), (3, aI v3), (4, aI (0 : Int32)), (5, aI (v5 + (1 : Int32)))] [] h5
            else
              if (imod v5 (20 : Int32)) = (19 : Int32) then
                cI (Ex 135 [aR v2] h5) (fun x8 h7 =>
                if x8 = 0 then
                  Ru 332 60 [(0, aR o), (1, aR v1), (2, aR v2), (3, aI v3), (4, aI (1 : Int32)), (5, aI (v5 + (1 : Int32)))] [] h7
                else
                  Ru 332 60 [(0, aR o), (1, aR v1), (2, aR v2), (3, aI v3), (4, aI (0 : Int32)), (5, aI (v5 + (1 : Int32)))] [] h7) xT
              else
                Ru 332 60 [(0, aR o), (1, aR v1), (2, aR v2), (3, aI v3), (4, aI (1 : Int32)), (5, aI (v5 + (1 : Int32)))] [] h5) xT
          else
            if x2 = 0 then
              Ru 332 60 [(0, aR o), (1, aR v1), (2, aR v2), (3, aI v3), (4, aI (0 : Int32)), (5, aI (v5 + (1 : Int32)))] [] h1
            else
              if (imod v5 (20 : Int32)) = (19 : Int32) then
                cI (Ex 135 [aR v2] h1) (fun x10 h9 =>
                if x10 = 0 then
                  Ru 332 60 [(0, aR o), (1, aR v1), (2, aR v2), (3, aI v3), (4, aI (1 : Int32)), (5, aI (v5 + (1 : Int32)))] [] h9
                else
                  Ru 332 60 [(0, aR o), (1, aR v1), (2, aR v2), (3, aI v3), (4, aI (0 : Int32)), (5, aI (v5 + (1 : Int32)))] [] h9) xT
              else
                Ru 332 60 [(0, aR o), (1, aR v1), (2, aR v2), (3, aI v3), (4, aI (1 : Int32)), (5, aI (v5 + (1 : Int32)))] [] h1) xT :=
  lift_of (k := 38) (rows := code_332) (cuts := cut_332) (hs := hdl_332) (r := fun R E =>
    if (70 : Int32) ≤ v5 then
      R 138 [(0, aR o), (1, aR v1), (2, aR v2), (4, aI v4)] [] h
    else
      if v4 = 0 then
        R 138 [(0, aR o), (1, aR v1), (2, aR v2), (4, aI v4)] [] h
      else
        cI (E 329 [aR v2, aR o, aR v1, aI v3] h) (fun x2 h1 =>
        if x2 = 0 then
          if x2 = 0 then
            R 60 [(0, aR o), (1, aR v1), (2, aR v2), (3, aI v3), (4, aI (0 : Int32)), (5, aI (v5 + (1 : Int32)))] [] h1
          else
            if (imod v5 (20 : Int32)) = (19 : Int32) then
              cI (E 135 [aR v2] h1) (fun x4 h3 =>
              if x4 = 0 then
                R 60 [(0, aR o), (1, aR v1), (2, aR v2), (3, aI v3), (4, aI (1 : Int32)), (5, aI (v5 + (1 : Int32)))] [] h3
              else
                R 60 [(0, aR o), (1, aR v1), (2, aR v2), (3, aI v3), (4, aI (0 : Int32)), (5, aI (v5 + (1 : Int32)))] [] h3) xT
            else
              R 60 [(0, aR o), (1, aR v1), (2, aR v2), (3, aI v3), (4, aI (1 : Int32)), (5, aI (v5 + (1 : Int32)))] [] h1
        else
          if (imod v5 (7 : Int32)) = (6 : Int32) then
            cI (E 327 [aR v2, aR v1] h1) (fun x6 h5 =>
            if x6 = 0 then
              R 60 [(0, aR o), (1, aR v1), (2, aR v2), (3, aI v3), (4, aI (0 : Int32)), (5, aI (v5 + (1 : Int32)))] [] h5
            else
              if (imod v5 (20 : Int32)) = (19 : Int32) then
                cI (E 135 [aR v2] h5) (fun x8 h7 =>
                if x8 = 0 then
                  R 60 [(0, aR o), (1, aR v1), (2, aR v2), (3, aI v3), (4, aI (1 : Int32)), (5, aI (v5 + (1 : Int32)))] [] h7
                else
                  R 60 [(0, aR o), (1, aR v1), (2, aR v2), (3, aI v3), (4, aI (0 : Int32)), (5, aI (v5 + (1 : Int32)))] [] h7) xT
              else
                R 60 [(0, aR o), (1, aR v1), (2, aR v2), (3, aI v3), (4, aI (1 : Int32)), (5, aI (v5 + (1 : Int32)))] [] h5) xT
          else
            if x2 = 0 then
              R 60 [(0, aR o), (1, aR v1), (2, aR v2), (3, aI v3), (4, aI (0 : Int32)), (5, aI (v5 + (1 : Int32)))] [] h1
            else
              if (imod v5 (20 : Int32)) = (19 : Int32) then
                cI (E 135 [aR v2] h1) (fun x10 h9 =>
                if x10 = 0 then
                  R 60 [(0, aR o), (1, aR v1), (2, aR v2), (3, aI v3), (4, aI (1 : Int32)), (5, aI (v5 + (1 : Int32)))] [] h9
                else
                  R 60 [(0, aR o), (1, aR v1), (2, aR v2), (3, aI v3), (4, aI (0 : Int32)), (5, aI (v5 + (1 : Int32)))] [] h9) xT
              else
                R 60 [(0, aR o), (1, aR v1), (2, aR v2), (3, aI v3), (4, aI (1 : Int32)), (5, aI (v5 + (1 : Int32)))] [] h1) xT) rfl rfl rfl (fun R E => rfl)
set_option maxRecDepth 100000 in
theorem lf_332_138 (o : Option (Nat × Nat)) (v1 : Option (Nat × Nat)) (v2 : Option (Nat × Nat)) (v4 : Int32) (h : Hp) : Ru 332 138 [(0, aR o), (1, aR v1), (2, aR v2), (4, aI v4)] [] h =
    if v4 = 0 then
      Ru 332 165 [(1, aR v1), (2, aR v2)] [aI (0 : Int32)] h
    else
      cI (Ex 331 [aR v2, aR o, aR v1] h) (fun x2 h1 =>
      if x2 = 0 then
        Ru 332 165 [(1, aR v1), (2, aR v2)] [aI (0 : Int32)] h1
      else
        cI (Ex 327 [aR v2, aR v1] h1) (fun x4 h3 =>
        if x4 = 0 then
          Ru 332 165 [(1, aR v1), (2, aR v2)] [aI (0 : Int32)] h3
        else
          Ru 332 165 [(1, aR v1), (2, aR v2)] [aI (1 : Int32)] h3) xT) xT :=
  lift_of (k := 14) (rows := code_332) (cuts := cut_332) (hs := hdl_332) (r := fun R E =>
    if v4 = 0 then
      R 165 [(1, aR v1), (2, aR v2)] [aI (0 : Int32)] h
    else
      cI (E 331 [aR v2, aR o, aR v1] h) (fun x2 h1 =>
      if x2 = 0 then
        R 165 [(1, aR v1), (2, aR v2)] [aI (0 : Int32)] h1
      else
        cI (E 327 [aR v2, aR v1] h1) (fun x4 h3 =>
        if x4 = 0 then
          R 165 [(1, aR v1), (2, aR v2)] [aI (0 : Int32)] h3
        else
          R 165 [(1, aR v1), (2, aR v2)] [aI (1 : Int32)] h3) xT) xT) rfl rfl rfl (fun R E => rfl)
set_option maxRecDepth 100000 in
theorem lf_332_165 (v1 : Option (Nat × Nat)) (v2 : Option (Nat × Nat)) (s0 : Int32) (h : Hp) : Ru 332 165 [(1, aR v1), (2, aR v2)] [aI s0] h =
    if s0 = 0 then
      some (.inl (some (aI (0 : Int32))), h)
    else
      cI (Ex 135 [aR v2] h) (fun x2 h1 =>
      if x2 = 0 then
        (gaI h1 v1 1000 (2 : Int32)).bind (fun x3 =>
        cI (Ex 321 [aR v2, aI (15 : Int32), aI x3, aI (0 : Int32), aI (0 : Int32), aI (0 : Int32)] h1) (fun x5 h4 =>
        if x5 = (-1000000001 : Int32) then
          cI (Ex 321 [aR v2, aI (17 : Int32), aI (1000 : Int32), aI (0 : Int32), aI (0 : Int32), aI (0 : Int32)] h4) (fun x7 h6 =>
          if x7 = (-1000000001 : Int32) then
            cI (Ex 321 [aR v2, aI (4 : Int32), aI (0 : Int32), aI (0 : Int32), aI (0 : Int32), aI (-1 : Int32)] h6) (fun x9 h8 =>
            if x9 = (-1000000002 : Int32) then
              cI (Ex 321 [aR v2, aI (8 : Int32), aI (201 : Int32), aI (0 : Int32), aI (0 : Int32), aI (0 : Int32)] h8) (fun x11 h10 =>
              if x11 = (-1000000002 : Int32) then
                cI (Ex 321 [aR v2, aI (11 : Int32), aI (0 : Int32), aI (4 : Int32), aI (0 : Int32), aI (0 : Int32)] h10) (fun x13 h12 =>
                if x13 = (-1000000002 : Int32) then
                  some (.inl (some (aI (1 : Int32))), h12)
                else
                  some (.inl (some (aI (0 : Int32))), h12)) xT
              else
                some (.inl (some (aI (0 : Int32))), h10)) xT
            else
              some (.inl (some (aI (0 : Int32))), h8)) xT
          else
            some (.inl (some (aI (0 : Int32))), h6)) xT
        else
          some (.inl (some (aI (0 : Int32))), h4)) xT)
      else
        some (.inl (some (aI (0 : Int32))), h1)) xT :=
  lift_of (k := 57) (rows := code_332) (cuts := cut_332) (hs := hdl_332) (r := fun R E =>
    if s0 = 0 then
      some (.inl (some (aI (0 : Int32))), h)
    else
      cI (E 135 [aR v2] h) (fun x2 h1 =>
      if x2 = 0 then
        (gaI h1 v1 1000 (2 : Int32)).bind (fun x3 =>
        cI (E 321 [aR v2, aI (15 : Int32), aI x3, aI (0 : Int32), aI (0 : Int32), aI (0 : Int32)] h1) (fun x5 h4 =>
        if x5 = (-1000000001 : Int32) then
          cI (E 321 [aR v2, aI (17 : Int32), aI (1000 : Int32), aI (0 : Int32), aI (0 : Int32), aI (0 : Int32)] h4) (fun x7 h6 =>
          if x7 = (-1000000001 : Int32) then
            cI (E 321 [aR v2, aI (4 : Int32), aI (0 : Int32), aI (0 : Int32), aI (0 : Int32), aI (-1 : Int32)] h6) (fun x9 h8 =>
            if x9 = (-1000000002 : Int32) then
              cI (E 321 [aR v2, aI (8 : Int32), aI (201 : Int32), aI (0 : Int32), aI (0 : Int32), aI (0 : Int32)] h8) (fun x11 h10 =>
              if x11 = (-1000000002 : Int32) then
                cI (E 321 [aR v2, aI (11 : Int32), aI (0 : Int32), aI (4 : Int32), aI (0 : Int32), aI (0 : Int32)] h10) (fun x13 h12 =>
                if x13 = (-1000000002 : Int32) then
                  some (.inl (some (aI (1 : Int32))), h12)
                else
                  some (.inl (some (aI (0 : Int32))), h12)) xT
              else
                some (.inl (some (aI (0 : Int32))), h10)) xT
            else
              some (.inl (some (aI (0 : Int32))), h8)) xT
          else
            some (.inl (some (aI (0 : Int32))), h6)) xT
        else
          some (.inl (some (aI (0 : Int32))), h4)) xT)
      else
        some (.inl (some (aI (0 : Int32))), h1)) xT) rfl rfl rfl (fun R E => rfl)
-- 333 ChipcardhouseLaw.law([I)Z
set_option maxRecDepth 100000 in
theorem lf_333_0 (p0 : Option (Nat × Nat)) (h : Hp) : Ru 333 0 [(0, aR p0)] [] h =
    (nwa h 100 1000 (1 : Int32)).bind (fun q1 =>
    (pa q1.2 q1.1 1000 (0 : Int32) (aI (59441 : Int32))).bind (fun h2 =>
    Ru 333 11 [(0, aR p0), (1, aR q1.1), (2, aI (0 : Int32))] [] h2)) :=
  lift_of (k := 10) (rows := code_333) (cuts := cut_333) (hs := hdl_333) (r := fun R E =>
    (nwa h 100 1000 (1 : Int32)).bind (fun q1 =>
    (pa q1.2 q1.1 1000 (0 : Int32) (aI (59441 : Int32))).bind (fun h2 =>
    R 11 [(0, aR p0), (1, aR q1.1), (2, aI (0 : Int32))] [] h2))) rfl rfl rfl (fun R E => rfl)
set_option maxRecDepth 100000 in
theorem lf_333_11 (o : Option (Nat × Nat)) (v1 : Option (Nat × Nat)) (v2 : Int32) (h : Hp) : Ru 333 11 [(0, aR o), (1, aR v1), (2, aI v2)] [] h =
    (len h o).bind (fun x1 =>
    if x1 ≤ v2 then
      (nwa h 101 1000 (60 : Int32)).bind (fun q2 =>
      cI (Ex 332 [aR v1, aR q2.1] q2.2) (fun x4 h3 =>
      gz x4 (some (.inl (some (aI x4)), h3))) xT)
    else
      (gaI h v1 1000 (0 : Int32)).bind (fun x5 =>
      (gaI h o 1000 v2).bind (fun x6 =>
      (pa h v1 1000 (0 : Int32) (aI (((31 : Int32) * x5) + x6))).bind (fun h7 =>
      Ru 333 11 [(0, aR o), (1, aR v1), (2, aI (v2 + (1 : Int32)))] [] h7)))) :=
  lift_of (k := 19) (rows := code_333) (cuts := cut_333) (hs := hdl_333) (r := fun R E =>
    (len h o).bind (fun x1 =>
    if x1 ≤ v2 then
      (nwa h 101 1000 (60 : Int32)).bind (fun q2 =>
      cI (E 332 [aR v1, aR q2.1] q2.2) (fun x4 h3 =>
      gz x4 (some (.inl (some (aI x4)), h3))) xT)
    else
      (gaI h v1 1000 (0 : Int32)).bind (fun x5 =>
      (gaI h o 1000 v2).bind (fun x6 =>
      (pa h v1 1000 (0 : Int32) (aI (((31 : Int32) * x5) + x6))).bind (fun h7 =>
      R 11 [(0, aR o), (1, aR v1), (2, aI (v2 + (1 : Int32)))] [] h7))))) rfl rfl rfl (fun R E => rfl)
