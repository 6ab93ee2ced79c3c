-- ChipcardhouseLaw.law
set_option maxRecDepth 100000 in
theorem lf_316_0 (p0 : Option (Nat × Nat)) (h : Hp) : Ru 316 0 [(0, aR p0)] [] h =
    cV (Ex 76 [aR (nob h 96 11 [4, 4, 4, 4, 4, 4, 4, 4, 0, 1, 1, 0]).1] (nob h 96 11 [4, 4, 4, 4, 4, 4, 4, 4, 0, 1, 1, 0]).2) (fun h1 =>
    cV (Ex 248 [aR (nob h1 97 20 [4, 4, 4, 4, 4, 0, 0, 0, 0]).1] (nob h1 97 20 [4, 4, 4, 4, 4, 0, 0, 0, 0]).2) (fun h2 =>
    (nwa h2 98 1001 (1 : Int32)).bind (fun q3 =>
    (nwa q3.2 99 1005 (1 : Int32)).bind (fun q4 =>
    Ru 316 28 [(0, aR p0), (1, aR (nob h 96 11 [4, 4, 4, 4, 4, 4, 4, 4, 0, 1, 1, 0]).1), (2, aR (nob h1 97 20 [4, 4, 4, 4, 4, 0, 0, 0, 0]).1), (3, aR q3.1), (4, aR q4.1), (5, aI (0 : Int32))] [] q4.2))) xT) xT :=
  lift_of (k := 17) (rows := code_316) (cuts := cut_316) (hs := hdl_316) (r := fun R E =>
    cV (E 76 [aR (nob h 96 11 [4, 4, 4, 4, 4, 4, 4, 4, 0, 1, 1, 0]).1] (nob h 96 11 [4, 4, 4, 4, 4, 4, 4, 4, 0, 1, 1, 0]).2) (fun h1 =>
    cV (E 248 [aR (nob h1 97 20 [4, 4, 4, 4, 4, 0, 0, 0, 0]).1] (nob h1 97 20 [4, 4, 4, 4, 4, 0, 0, 0, 0]).2) (fun h2 =>
    (nwa h2 98 1001 (1 : Int32)).bind (fun q3 =>
    (nwa q3.2 99 1005 (1 : Int32)).bind (fun q4 =>
    R 28 [(0, aR p0), (1, aR (nob h 96 11 [4, 4, 4, 4, 4, 4, 4, 4, 0, 1, 1, 0]).1), (2, aR (nob h1 97 20 [4, 4, 4, 4, 4, 0, 0, 0, 0]).1), (3, aR q3.1), (4, aR q4.1), (5, aI (0 : Int32))] [] q4.2))) xT) xT) rfl rfl rfl (fun R E => rfl)
set_option maxRecDepth 100000 in
theorem lf_316_28 (o : Option (Nat × Nat)) (v1 : Option (Nat × Nat)) (v2 : Option (Nat × Nat)) (v3 : Option (Nat × Nat)) (v4 : Option (Nat × Nat)) (v5 : Int32) (h : Hp) : Ru 316 28 [(0, aR o), (1, aR v1), (2, aR v2), (3, aR v3), (4, aR v4), (5, aI v5)] [] h =
    (len h o).bind (fun x1 =>
    if (x1 - (5 : Int32)) < v5 then
      some (.inl (some (aI (1 : Int32))), h)
    else
      (gaI h o 1000 v5).bind (fun x2 =>
      if (x2 &&& (31 : Int32)).toInt = 0 then
        (gaI h o 1000 (v5 + (1 : Int32))).bind (fun x3 =>
        (gaI h o 1000 (v5 + (2 : Int32))).bind (fun x4 =>
        cI (Ex 293 [aR v1, aL ((x3.toInt64 <<< ((32 : Int32).toInt64 &&& 63)) ||| (x4.toInt64 &&& (4294967295 : Int64))), aR v3] h) (fun x6 h5 =>
        (gaI h5 o 1000 (v5 + (1 : Int32))).bind (fun x7 =>
        (gaI h5 o 1000 (v5 + (2 : Int32))).bind (fun x8 =>
        cI (Ex 258 [aR v2, aL ((x7.toInt64 <<< ((32 : Int32).toInt64 &&& 63)) ||| (x8.toInt64 &&& (4294967295 : Int64)))] h5) (fun x10 h9 =>
        cI (Ex 249 [aR v2] h9) (fun x12 h11 =>
        if x12 = x6 then
          if x6 = 0 then
            (gaL h11 v3 1001 (0 : Int32)).bind (fun x13 =>
            if (lg_cmp x13 x10.toInt64) = 0 then
              Ru 316 28 [(0, aR o), (1, aR v1), (2, aR v2), (3, aR v3), (4, aR v4), (5, aI (v5 + (5 : Int32)))] [] h11
            else
              some (.inl (some (aI (0 : Int32))), h11))
          else
            Ru 316 28 [(0, aR o), (1, aR v1), (2, aR v2), (3, aR v3), (4, aR v4), (5, aI (v5 + (5 : Int32)))] [] h11
        else
          some (.inl (some (aI (0 : Int32))), h11)) xT) xT))) xT))
      else if (x2 &&& (31 : Int32)).toInt = 1 then
        cI (Ex 78 [aR v1] h) (fun x15 h14 =>
        cI (Ex 259 [aR v2] h14) (fun x17 h16 =>
        if x15 = x17 then
          Ru 316 28 [(0, aR o), (1, aR v1), (2, aR v2), (3, aR v3), (4, aR v4), (5, aI (v5 + (5 : Int32)))] [] h16
        else
          some (.inl (some (aI (0 : Int32))), h16)) xT) xT
      else if (x2 &&& (31 : Int32)).toInt = 2 then
        cI (Ex 294 [aR v1, aR v3] h) (fun x19 h18 =>
        cI (Ex 260 [aR v2] h18) (fun x21 h20 =>
        cI (Ex 249 [aR v2] h20) (fun x23 h22 =>
        if x23 = x19 then
          if x19 = 0 then
            (gaL h22 v3 1001 (0 : Int32)).bind (fun x24 =>
            if (lg_cmp x24 x21.toInt64) = 0 then
              Ru 316 28 [(0, aR o), (1, aR v1), (2, aR v2), (3, aR v3), (4, aR v4), (5, aI (v5 + (5 : Int32)))] [] h22
            else
              some (.inl (some (aI (0 : Int32))), h22))
          else
            Ru 316 28 [(0, aR o), (1, aR v1), (2, aR v2), (3, aR v3), (4, aR v4), (5, aI (v5 + (5 : Int32)))] [] h22
        else
          some (.inl (some (aI (0 : Int32))), h22)) xT) xT) xT
      else if (x2 &&& (31 : Int32)).toInt = 3 then
        (gaI h o 1000 (v5 + (1 : Int32))).bind (fun x25 =>
        cI (Ex 295 [aR v1, aI x25, aR v3] h) (fun x27 h26 =>
        (gaI h26 o 1000 (v5 + (1 : Int32))).bind (fun x28 =>
        cI (Ex 262 [aR v2, aI x28] h26) (fun x30 h29 =>
        cI (Ex 249 [aR v2] h29) (fun x32 h31 =>
        if x32 = x27 then
          if x27 = 0 then
            (gaL h31 v3 1001 (0 : Int32)).bind (fun x33 =>
            if (lg_cmp x33 x30.toInt64) = 0 then
              Ru 316 28 [(0, aR o), (1, aR v1), (2, aR v2), (3, aR v3), (4, aR v4), (5, aI (v5 + (5 : Int32)))] [] h31
            else
              some (.inl (some (aI (0 : Int32))), h31))
          else
            Ru 316 28 [(0, aR o), (1, aR v1), (2, aR v2), (3, aR v3), (4, aR v4), (5, aI (v5 + (5 : Int32)))] [] h31
        else
          some (.inl (some (aI (0 : Int32))), h31)) xT) xT)) xT)
      else if (x2 &&& (31 : Int32)).toInt = 4 then
        (gaI h o 1000 (v5 + (1 : Int32))).bind (fun x34 =>
        (gaI h o 1000 (v5 + (2 : Int32))).bind (fun x35 =>
        cI (Ex 296 [aR v1, aI x34, aI x35, aR v3] h) (fun x37 h36 =>
        (gaI h36 o 1000 (v5 + (1 : Int32))).bind (fun x38 =>
        (gaI h36 o 1000 (v5 + (2 : Int32))).bind (fun x39 =>
        cI (Ex 263 [aR v2, aI x38, aI x39] h36) (fun x41 h40 =>
        cI (Ex 249 [aR v2] h40) (fun x43 h42 =>
        if x43 = x37 then
          if x37 = 0 then
            (gaL h42 v3 1001 (0 : Int32)).bind (fun x44 =>
            if (lg_cmp x44 x41.toInt64) = 0 then
              Ru 316 28 [(0, aR o), (1, aR v1), (2, aR v2), (3, aR v3), (4, aR v4), (5, aI (v5 + (5 : Int32)))] [] h42
            else
              some (.inl (some (aI (0 : Int32))), h42))
          else
            Ru 316 28 [(0, aR o), (1, aR v1), (2, aR v2), (3, aR v3), (4, aR v4), (5, aI (v5 + (5 : Int32)))] [] h42
        else
          some (.inl (some (aI (0 : Int32))), h42)) xT) xT))) xT))
      else if (x2 &&& (31 : Int32)).toInt = 5 then
        (gaI h o 1000 (v5 + (1 : Int32))).bind (fun x45 =>
        (gaI h o 1000 (v5 + (2 : Int32))).bind (fun x46 =>
        (gaI h o 1000 (v5 + (3 : Int32))).bind (fun x47 =>
        (gaI h o 1000 (v5 + (4 : Int32))).bind (fun x48 =>
        cI (Ex 297 [aR v1, aI x45, aI x46, aI x47, aI x48, aR v3] h) (fun x50 h49 =>
        (gaI h49 o 1000 (v5 + (1 : Int32))).bind (fun x51 =>
        (gaI h49 o 1000 (v5 + (2 : Int32))).bind (fun x52 =>
        (gaI h49 o 1000 (v5 + (3 : Int32))).bind (fun x53 =>
        (gaI h49 o 1000 (v5 + (4 : Int32))).bind (fun x54 =>
        cI (Ex 264 [aR v2, aI x51, aI x52, aI x53, aI x54] h49) (fun x56 h55 =>
        cI (Ex 249 [aR v2] h55) (fun x58 h57 =>
        if x58 = x50 then
          if x50 = 0 then
            (gaL h57 v3 1001 (0 : Int32)).bind (fun x59 =>
            if (lg_cmp x59 x56.toInt64) = 0 then
              Ru 316 28 [(0, aR o), (1, aR v1), (2, aR v2), (3, aR v3), (4, aR v4), (5, aI (v5 + (5 : Int32)))] [] h57
            else
              some (.inl (some (aI (0 : Int32))), h57))
          else
            Ru 316 28 [(0, aR o), (1, aR v1), (2, aR v2), (3, aR v3), (4, aR v4), (5, aI (v5 + (5 : Int32)))] [] h57
        else
          some (.inl (some (aI (0 : Int32))), h57)) xT) xT))))) xT))))
      else if (x2 &&& (31 : Int32)).toInt = 6 then
        (gaI h o 1000 (v5 + (1 : Int32))).bind (fun x60 =>
        (gaI h o 1000 (v5 + (2 : Int32))).bind (fun x61 =>
        (gaI h o 1000 (v5 + (3 : Int32))).bind (fun x62 =>
        cI (Ex 298 [aR v1, aI x60, aI x61, aI x62, aR v3] h) (fun x64 h63 =>
        (gaI h63 o 1000 (v5 + (1 : Int32))).bind (fun x65 =>
        (gaI h63 o 1000 (v5 + (2 : Int32))).bind (fun x66 =>
        (gaI h63 o 1000 (v5 + (3 : Int32))).bind (fun x67 =>
        cI (Ex 265 [aR v2, aI x65, aI x66, aI x67] h63) (fun x69 h68 =>
        cI (Ex 249 [aR v2] h68) (fun x71 h70 =>
        if x71 = x64 then
          if x64 = 0 then
            (gaL h70 v3 1001 (0 : Int32)).bind (fun x72 =>
            if (lg_cmp x72 x69.toInt64) = 0 then
              Ru 316 28 [(0, aR o), (1, aR v1), (2, aR v2), (3, aR v3), (4, aR v4), (5, aI (v5 + (5 : Int32)))] [] h70
            else
              some (.inl (some (aI (0 : Int32))), h70))
          else
            Ru 316 28 [(0, aR o), (1, aR v1), (2, aR v2), (3, aR v3), (4, aR v4), (5, aI (v5 + (5 : Int32)))] [] h70
        else
          some (.inl (some (aI (0 : Int32))), h70)) xT) xT)))) xT)))
      else if (x2 &&& (31 : Int32)).toInt = 7 then
        (gaI h o 1000 (v5 + (1 : Int32))).bind (fun x73 =>
        (gaI h o 1000 (v5 + (2 : Int32))).bind (fun x74 =>
        (gaI h o 1000 (v5 + (3 : Int32))).bind (fun x75 =>
        (gaI h o 1000 (v5 + (4 : Int32))).bind (fun x76 =>
        cI (Ex 299 [aR v1, aI x73, aI x74, aI x75, aI x76, aR v3] h) (fun x78 h77 =>
        (gaI h77 o 1000 (v5 + (1 : Int32))).bind (fun x79 =>
        (gaI h77 o 1000 (v5 + (2 : Int32))).bind (fun x80 =>
        (gaI h77 o 1000 (v5 + (3 : Int32))).bind (fun x81 =>
        (gaI h77 o 1000 (v5 + (4 : Int32))).bind (fun x82 =>
        cI (Ex 266 [aR v2, aI x79, aI x80, aI x81, aI x82] h77) (fun x84 h83 =>
        cI (Ex 249 [aR v2] h83) (fun x86 h85 =>
        if x86 = x78 then
          if x78 = 0 then
            (gaL h85 v3 1001 (0 : Int32)).bind (fun x87 =>
            if (lg_cmp x87 x84.toInt64) = 0 then
              Ru 316 28 [(0, aR o), (1, aR v1), (2, aR v2), (3, aR v3), (4, aR v4), (5, aI (v5 + (5 : Int32)))] [] h85
            else
              some (.inl (some (aI (0 : Int32))), h85))
          else
            Ru 316 28 [(0, aR o), (1, aR v1), (2, aR v2), (3, aR v3), (4, aR v4), (5, aI (v5 + (5 : Int32)))] [] h85
        else
          some (.inl (some (aI (0 : Int32))), h85)) xT) xT))))) xT))))
      else if (x2 &&& (31 : Int32)).toInt = 8 then
        (gaI h o 1000 (v5 + (1 : Int32))).bind (fun x88 =>
        cI (Ex 300 [aR v1, aI x88, aR v3] h) (fun x90 h89 =>
        (gaI h89 o 1000 (v5 + (1 : Int32))).bind (fun x91 =>
        cI (Ex 267 [aR v2, aI x91] h89) (fun x93 h92 =>
        cI (Ex 249 [aR v2] h92) (fun x95 h94 =>
        if x95 = x90 then
          if x90 = 0 then
            (gaL h94 v3 1001 (0 : Int32)).bind (fun x96 =>
            if (lg_cmp x96 x93.toInt64) = 0 then
              Ru 316 28 [(0, aR o), (1, aR v1), (2, aR v2), (3, aR v3), (4, aR v4), (5, aI (v5 + (5 : Int32)))] [] h94
            else
              some (.inl (some (aI (0 : Int32))), h94))
          else
            Ru 316 28 [(0, aR o), (1, aR v1), (2, aR v2), (3, aR v3), (4, aR v4), (5, aI (v5 + (5 : Int32)))] [] h94
        else
          some (.inl (some (aI (0 : Int32))), h94)) xT) xT)) xT)
      else if (x2 &&& (31 : Int32)).toInt = 9 then
        (gaI h o 1000 (v5 + (1 : Int32))).bind (fun x97 =>
        (gaI h o 1000 (v5 + (2 : Int32))).bind (fun x98 =>
        (gaI h o 1000 (v5 + (3 : Int32))).bind (fun x99 =>
        cI (Ex 301 [aR v1, aI x97, aI x98, aI x99, aR v3] h) (fun x101 h100 =>
        (gaI h100 o 1000 (v5 + (1 : Int32))).bind (fun x102 =>
        (gaI h100 o 1000 (v5 + (2 : Int32))).bind (fun x103 =>
        (gaI h100 o 1000 (v5 + (3 : Int32))).bind (fun x104 =>
        cI (Ex 268 [aR v2, aI x102, aI x103, aI x104] h100) (fun x106 h105 =>
        cI (Ex 249 [aR v2] h105) (fun x108 h107 =>
        if x108 = x101 then
          if x101 = 0 then
            (gaL h107 v3 1001 (0 : Int32)).bind (fun x109 =>
            if (lg_cmp x109 x106.toInt64) = 0 then
              Ru 316 28 [(0, aR o), (1, aR v1), (2, aR v2), (3, aR v3), (4, aR v4), (5, aI (v5 + (5 : Int32)))] [] h107
            else
              some (.inl (some (aI (0 : Int32))), h107))
          else
            Ru 316 28 [(0, aR o), (1, aR v1), (2, aR v2), (3, aR v3), (4, aR v4), (5, aI (v5 + (5 : Int32)))] [] h107
        else
          some (.inl (some (aI (0 : Int32))), h107)) xT) xT)))) xT)))
      else if (x2 &&& (31 : Int32)).toInt = 10 then
        (gaI h o 1000 (v5 + (1 : Int32))).bind (fun x110 =>
        (gaI h o 1000 (v5 + (2 : Int32))).bind (fun x111 =>
        (gaI h o 1000 (v5 + (3 : Int32))).bind (fun x112 =>
        cI (Ex 302 [aR v1, aI x110, aI x111, aI x112, aR v3] h) (fun x114 h113 =>
        (gaI h113 o 1000 (v5 + (1 : Int32))).bind (fun x115 =>
        (gaI h113 o 1000 (v5 + (2 : Int32))).bind (fun x116 =>
        (gaI h113 o 1000 (v5 + (3 : Int32))).bind (fun x117 =>
        cI (Ex 269 [aR v2, aI x115, aI x116, aI x117] h113) (fun x119 h118 =>
        cI (Ex 249 [aR v2] h118) (fun x121 h120 =>
        if x121 = x114 then
          if x114 = 0 then
            (gaL h120 v3 1001 (0 : Int32)).bind (fun x122 =>
            if (lg_cmp x122 x119.toInt64) = 0 then
              Ru 316 28 [(0, aR o), (1, aR v1), (2, aR v2), (3, aR v3), (4, aR v4), (5, aI (v5 + (5 : Int32)))] [] h120
            else
              some (.inl (some (aI (0 : Int32))), h120))
          else
            Ru 316 28 [(0, aR o), (1, aR v1), (2, aR v2), (3, aR v3), (4, aR v4), (5, aI (v5 + (5 : Int32)))] [] h120
        else
          some (.inl (some (aI (0 : Int32))), h120)) xT) xT)))) xT)))
      else if (x2 &&& (31 : Int32)).toInt = 11 then
        (gaI h o 1000 (v5 + (1 : Int32))).bind (fun x123 =>
        cI (Ex 303 [aR v1, aI x123, aR v3] h) (fun x125 h124 =>
        (gaI h124 o 1000 (v5 + (1 : Int32))).bind (fun x126 =>
        cI (Ex 271 [aR v2, aI x126] h124) (fun x128 h127 =>
        cI (Ex 249 [aR v2] h127) (fun x130 h129 =>
        if x130 = x125 then
          if x125 = 0 then
            (gaL h129 v3 1001 (0 : Int32)).bind (fun x131 =>
            if (lg_cmp x131 x128.toInt64) = 0 then
              Ru 316 28 [(0, aR o), (1, aR v1), (2, aR v2), (3, aR v3), (4, aR v4), (5, aI (v5 + (5 : Int32)))] [] h129
            else
              some (.inl (some (aI (0 : Int32))), h129))
          else
            Ru 316 28 [(0, aR o), (1, aR v1), (2, aR v2), (3, aR v3), (4, aR v4), (5, aI (v5 + (5 : Int32)))] [] h129
        else
          some (.inl (some (aI (0 : Int32))), h129)) xT) xT)) xT)
      else if (x2 &&& (31 : Int32)).toInt = 12 then
        (gaI h o 1000 (v5 + (1 : Int32))).bind (fun x132 =>
        (gaI h o 1000 (v5 + (2 : Int32))).bind (fun x133 =>
        (gaI h o 1000 (v5 + (3 : Int32))).bind (fun x134 =>
        (gaI h o 1000 (v5 + (4 : Int32))).bind (fun x135 =>
        cI (Ex 304 [aR v1, aI x132, aI x133, aI x134, aI x135, aR v3] h) (fun x137 h136 =>
        (gaI h136 o 1000 (v5 + (1 : Int32))).bind (fun x138 =>
        (gaI h136 o 1000 (v5 + (2 : Int32))).bind (fun x139 =>
        (gaI h136 o 1000 (v5 + (3 : Int32))).bind (fun x140 =>
        (gaI h136 o 1000 (v5 + (4 : Int32))).bind (fun x141 =>
        cI (Ex 272 [aR v2, aI x138, aI x139, aI x140, aI x141] h136) (fun x143 h142 =>
        cI (Ex 249 [aR v2] h142) (fun x145 h144 =>
        if x145 = x137 then
          if x137 = 0 then
            (gaL h144 v3 1001 (0 : Int32)).bind (fun x146 =>
            if (lg_cmp x146 x143.toInt64) = 0 then
              Ru 316 28 [(0, aR o), (1, aR v1), (2, aR v2), (3, aR v3), (4, aR v4), (5, aI (v5 + (5 : Int32)))] [] h144
            else
              some (.inl (some (aI (0 : Int32))), h144))
          else
            Ru 316 28 [(0, aR o), (1, aR v1), (2, aR v2), (3, aR v3), (4, aR v4), (5, aI (v5 + (5 : Int32)))] [] h144
        else
          some (.inl (some (aI (0 : Int32))), h144)) xT) xT))))) xT))))
      else if (x2 &&& (31 : Int32)).toInt = 13 then
        (gaI h o 1000 (v5 + (1 : Int32))).bind (fun x147 =>
        if x147 = 0 then
          cI (Ex 111 [aR v1, aI (0 : Int32)] h) (fun x149 h148 =>
          (gaI h148 o 1000 (v5 + (1 : Int32))).bind (fun x150 =>
          if x150 = 0 then
            cI (Ex 273 [aR v2, aI (0 : Int32)] h148) (fun x152 h151 =>
            if x149 = x152 then
              Ru 316 28 [(0, aR o), (1, aR v1), (2, aR v2), (3, aR v3), (4, aR v4), (5, aI (v5 + (5 : Int32)))] [] h151
            else
              some (.inl (some (aI (0 : Int32))), h151)) xT
          else
            cI (Ex 273 [aR v2, aI (1 : Int32)] h148) (fun x154 h153 =>
            if x149 = x154 then
              Ru 316 28 [(0, aR o), (1, aR v1), (2, aR v2), (3, aR v3), (4, aR v4), (5, aI (v5 + (5 : Int32)))] [] h153
            else
              some (.inl (some (aI (0 : Int32))), h153)) xT)) xT
        else
          cI (Ex 111 [aR v1, aI (1 : Int32)] h) (fun x156 h155 =>
          (gaI h155 o 1000 (v5 + (1 : Int32))).bind (fun x157 =>
          if x157 = 0 then
            cI (Ex 273 [aR v2, aI (0 : Int32)] h155) (fun x159 h158 =>
            if x156 = x159 then
              Ru 316 28 [(0, aR o), (1, aR v1), (2, aR v2), (3, aR v3), (4, aR v4), (5, aI (v5 + (5 : Int32)))] [] h158
            else
              some (.inl (some (aI (0 : Int32))), h158)) xT
          else
            cI (Ex 273 [aR v2, aI (1 : Int32)] h155) (fun x161 h160 =>
            if x156 = x161 then
              Ru 316 28 [(0, aR o), (1, aR v1), (2, aR v2), (3, aR v3), (4, aR v4), (5, aI (v5 + (5 : Int32)))] [] h160
            else
              some (.inl (some (aI (0 : Int32))), h160)) xT)) xT)
      else if (x2 &&& (31 : Int32)).toInt = 14 then
        (gaI h o 1000 (v5 + (1 : Int32))).bind (fun x162 =>
        (gaI h o 1000 (v5 + (2 : Int32))).bind (fun x163 =>
        cI (Ex 305 [aR v1, aI x162, aI x163, aR v3] h) (fun x165 h164 =>
        (gaI h164 o 1000 (v5 + (1 : Int32))).bind (fun x166 =>
        (gaI h164 o 1000 (v5 + (2 : Int32))).bind (fun x167 =>
        cI (Ex 274 [aR v2, aI x166, aI x167] h164) (fun x169 h168 =>
        cI (Ex 249 [aR v2] h168) (fun x171 h170 =>
        if x171 = x165 then
          if x165 = 0 then
            (gaL h170 v3 1001 (0 : Int32)).bind (fun x172 =>
            if (lg_cmp x172 x169.toInt64) = 0 then
              Ru 316 28 [(0, aR o), (1, aR v1), (2, aR v2), (3, aR v3), (4, aR v4), (5, aI (v5 + (5 : Int32)))] [] h170
            else
              some (.inl (some (aI (0 : Int32))), h170))
          else
            Ru 316 28 [(0, aR o), (1, aR v1), (2, aR v2), (3, aR v3), (4, aR v4), (5, aI (v5 + (5 : Int32)))] [] h170
        else
          some (.inl (some (aI (0 : Int32))), h170)) xT) xT))) xT))
      else if (x2 &&& (31 : Int32)).toInt = 15 then
        (gaI h o 1000 (v5 + (1 : Int32))).bind (fun x173 =>
        cI (Ex 306 [aR v1, aI x173, aR v3] h) (fun x175 h174 =>
        (gaI h174 o 1000 (v5 + (1 : Int32))).bind (fun x176 =>
        cI (Ex 275 [aR v2, aI x176] h174) (fun x178 h177 =>
        cI (Ex 249 [aR v2] h177) (fun x180 h179 =>
        if x180 = x175 then
          if x175 = 0 then
            (gaL h179 v3 1001 (0 : Int32)).bind (fun x181 =>
            if x178 = 0 then
              if (lg_cmp x181 (0 : Int64)) = 0 then
                Ru 316 28 [(0, aR o), (1, aR v1), (2, aR v2), (3, aR v3), (4, aR v4), (5, aI (v5 + (5 : Int32)))] [] h179
              else
                some (.inl (some (aI (0 : Int32))), h179)
            else
              if (lg_cmp x181 (1 : Int64)) = 0 then
                Ru 316 28 [(0, aR o), (1, aR v1), (2, aR v2), (3, aR v3), (4, aR v4), (5, aI (v5 + (5 : Int32)))] [] h179
              else
                some (.inl (some (aI (0 : Int32))), h179))
          else
            Ru 316 28 [(0, aR o), (1, aR v1), (2, aR v2), (3, aR v3), (4, aR v4), (5, aI (v5 + (5 : Int32)))] [] h179
        else
          some (.inl (some (aI (0 : Int32))), h179)) xT) xT)) xT)
      else if (x2 &&& (31 : Int32)).toInt = 16 then
        (gaI h o 1000 (v5 + (1 : Int32))).bind (fun x182 =>
        (gaI h o 1000 (v5 + (2 : Int32))).bind (fun x183 =>
        if x183 = 0 then
          cI (Ex 307 [aR v1, aI x182, aI (0 : Int32), aR v3] h) (fun x185 h184 =>
          (gaI h184 o 1000 (v5 + (1 : Int32))).bind (fun x186 =>
          (gaI h184 o 1000 (v5 + (2 : Int32))).bind (fun x187 =>
          if x187 = 0 then
            cI (Ex 276 [aR v2, aI x186, aI (0 : Int32)] h184) (fun x189 h188 =>
            cI (Ex 249 [aR v2] h188) (fun x191 h190 =>
            if x191 = x185 then
              if x185 = 0 then
                (gaL h190 v3 1001 (0 : Int32)).bind (fun x192 =>
                if x189 = 0 then
                  if (lg_cmp x192 (0 : Int64)) = 0 then
                    Ru 316 28 [(0, aR o), (1, aR v1), (2, aR v2), (3, aR v3), (4, aR v4), (5, aI (v5 + (5 : Int32)))] [] h190
                  else
                    some (.inl (some (aI (0 : Int32))), h190)
                else
                  if (lg_cmp x192 (1 : Int64)) = 0 then
                    Ru 316 28 [(0, aR o), (1, aR v1), (2, aR v2), (3, aR v3), (4, aR v4), (5, aI (v5 + (5 : Int32)))] [] h190
                  else
                    some (.inl (some (aI (0 : Int32))), h190))
              else
                Ru 316 28 [(0, aR o), (1, aR v1), (2, aR v2), (3, aR v3), (4, aR v4), (5, aI (v5 + (5 : Int32)))] [] h190
            else
              some (.inl (some (aI (0 : Int32))), h190)) xT) xT
          else
            cI (Ex 276 [aR v2, aI x186, aI (1 : Int32)] h184) (fun x194 h193 =>
            cI (Ex 249 [aR v2] h193) (fun x196 h195 =>
            if x196 = x185 then
              if x185 = 0 then
                (gaL h195 v3 1001 (0 : Int32)).bind (fun x197 =>
                if x194 = 0 then
                  if (lg_cmp x197 (0 : Int64)) = 0 then
                    Ru 316 28 [(0, aR o), (1, aR v1), (2, aR v2), (3, aR v3), (4, aR v4), (5, aI (v5 + (5 : Int32)))] [] h195
                  else
                    some (.inl (some (aI (0 : Int32))), h195)
                else
                  if (lg_cmp x197 (1 : Int64)) = 0 then
                    Ru 316 28 [(0, aR o), (1, aR v1), (2, aR v2), (3, aR v3), (4, aR v4), (5, aI (v5 + (5 : Int32)))] [] h195
                  else
                    some (.inl (some (aI (0 : Int32))), h195))
              else
                Ru 316 28 [(0, aR o), (1, aR v1), (2, aR v2), (3, aR v3), (4, aR v4), (5, aI (v5 + (5 : Int32)))] [] h195
            else
              some (.inl (some (aI (0 : Int32))), h195)) xT) xT))) xT
        else
          cI (Ex 307 [aR v1, aI x182, aI (1 : Int32), aR v3] h) (fun x199 h198 =>
          (gaI h198 o 1000 (v5 + (1 : Int32))).bind (fun x200 =>
          (gaI h198 o 1000 (v5 + (2 : Int32))).bind (fun x201 =>
          if x201 = 0 then
            cI (Ex 276 [aR v2, aI x200, aI (0 : Int32)] h198) (fun x203 h202 =>
            cI (Ex 249 [aR v2] h202) (fun x205 h204 =>
            if x205 = x199 then
              if x199 = 0 then
                (gaL h204 v3 1001 (0 : Int32)).bind (fun x206 =>
                if x203 = 0 then
                  if (lg_cmp x206 (0 : Int64)) = 0 then
                    Ru 316 28 [(0, aR o), (1, aR v1), (2, aR v2), (3, aR v3), (4, aR v4), (5, aI (v5 + (5 : Int32)))] [] h204
                  else
                    some (.inl (some (aI (0 : Int32))), h204)
                else
                  if (lg_cmp x206 (1 : Int64)) = 0 then
                    Ru 316 28 [(0, aR o), (1, aR v1), (2, aR v2), (3, aR v3), (4, aR v4), (5, aI (v5 + (5 : Int32)))] [] h204
                  else
                    some (.inl (some (aI (0 : Int32))), h204))
              else
                Ru 316 28 [(0, aR o), (1, aR v1), (2, aR v2), (3, aR v3), (4, aR v4), (5, aI (v5 + (5 : Int32)))] [] h204
            else
              some (.inl (some (aI (0 : Int32))), h204)) xT) xT
          else
            cI (Ex 276 [aR v2, aI x200, aI (1 : Int32)] h198) (fun x208 h207 =>
            cI (Ex 249 [aR v2] h207) (fun x210 h209 =>
            if x210 = x199 then
              if x199 = 0 then
                (gaL h209 v3 1001 (0 : Int32)).bind (fun x211 =>
                if x208 = 0 then
                  if (lg_cmp x211 (0 : Int64)) = 0 then
                    Ru 316 28 [(0, aR o), (1, aR v1), (2, aR v2), (3, aR v3), (4, aR v4), (5, aI (v5 + (5 : Int32)))] [] h209
                  else
                    some (.inl (some (aI (0 : Int32))), h209)
                else
                  if (lg_cmp x211 (1 : Int64)) = 0 then
                    Ru 316 28 [(0, aR o), (1, aR v1), (2, aR v2), (3, aR v3), (4, aR v4), (5, aI (v5 + (5 : Int32)))] [] h209
                  else
                    some (.inl (some (aI (0 : Int32))), h209))
              else
                Ru 316 28 [(0, aR o), (1, aR v1), (2, aR v2), (3, aR v3), (4, aR v4), (5, aI (v5 + (5 : Int32)))] [] h209
            else
              some (.inl (some (aI (0 : Int32))), h209)) xT) xT))) xT))
      else if (x2 &&& (31 : Int32)).toInt = 17 then
        (gaI h o 1000 (v5 + (1 : Int32))).bind (fun x212 =>
        cI (Ex 308 [aR v1, aI x212, aR v3] h) (fun x214 h213 =>
        (gaI h213 o 1000 (v5 + (1 : Int32))).bind (fun x215 =>
        cI (Ex 277 [aR v2, aI x215] h213) (fun x217 h216 =>
        cI (Ex 249 [aR v2] h216) (fun x219 h218 =>
        if x219 = x214 then
          if x214 = 0 then
            (gaL h218 v3 1001 (0 : Int32)).bind (fun x220 =>
            if (lg_cmp x220 x217.toInt64) = 0 then
              Ru 316 28 [(0, aR o), (1, aR v1), (2, aR v2), (3, aR v3), (4, aR v4), (5, aI (v5 + (5 : Int32)))] [] h218
            else
              some (.inl (some (aI (0 : Int32))), h218))
          else
            Ru 316 28 [(0, aR o), (1, aR v1), (2, aR v2), (3, aR v3), (4, aR v4), (5, aI (v5 + (5 : Int32)))] [] h218
        else
          some (.inl (some (aI (0 : Int32))), h218)) xT) xT)) xT)
      else if (x2 &&& (31 : Int32)).toInt = 18 then
        cI (Ex 123 [aR v1] h) (fun x222 h221 =>
        cI (Ex 278 [aR v2] h221) (fun x224 h223 =>
        if x222 = x224 then
          Ru 316 28 [(0, aR o), (1, aR v1), (2, aR v2), (3, aR v3), (4, aR v4), (5, aI (v5 + (5 : Int32)))] [] h223
        else
          some (.inl (some (aI (0 : Int32))), h223)) xT) xT
      else if (x2 &&& (31 : Int32)).toInt = 19 then
        (gaI h o 1000 (v5 + (1 : Int32))).bind (fun x225 =>
        (gaI h o 1000 (v5 + (2 : Int32))).bind (fun x226 =>
        cI (Ex 309 [aR v1, aI x225, aI x226, aR v3] h) (fun x228 h227 =>
        (gaI h227 o 1000 (v5 + (1 : Int32))).bind (fun x229 =>
        (gaI h227 o 1000 (v5 + (2 : Int32))).bind (fun x230 =>
        cI (Ex 279 [aR v2, aI x229, aI x230] h227) (fun x232 h231 =>
        cI (Ex 249 [aR v2] h231) (fun x234 h233 =>
        if x234 = x228 then
          if x228 = 0 then
            (gaL h233 v3 1001 (0 : Int32)).bind (fun x235 =>
            if (lg_cmp x235 x232.toInt64) = 0 then
              Ru 316 28 [(0, aR o), (1, aR v1), (2, aR v2), (3, aR v3), (4, aR v4), (5, aI (v5 + (5 : Int32)))] [] h233
            else
              some (.inl (some (aI (0 : Int32))), h233))
          else
            Ru 316 28 [(0, aR o), (1, aR v1), (2, aR v2), (3, aR v3), (4, aR v4), (5, aI (v5 + (5 : Int32)))] [] h233
        else
          some (.inl (some (aI (0 : Int32))), h233)) xT) xT))) xT))
      else if (x2 &&& (31 : Int32)).toInt = 20 then
        (gaI h o 1000 (v5 + (1 : Int32))).bind (fun x236 =>
        (gaI h o 1000 (v5 + (2 : Int32))).bind (fun x237 =>
        cI (Ex 310 [aR v1, aI x236, aI x237, aR v3] h) (fun x239 h238 =>
        (gaI h238 o 1000 (v5 + (1 : Int32))).bind (fun x240 =>
        (gaI h238 o 1000 (v5 + (2 : Int32))).bind (fun x241 =>
        cI (Ex 280 [aR v2, aI x240, aI x241] h238) (fun x243 h242 =>
        cI (Ex 249 [aR v2] h242) (fun x245 h244 =>
        if x245 = x239 then
          if x239 = 0 then
            (gaL h244 v3 1001 (0 : Int32)).bind (fun x246 =>
            if (lg_cmp x246 x243.toInt64) = 0 then
              Ru 316 28 [(0, aR o), (1, aR v1), (2, aR v2), (3, aR v3), (4, aR v4), (5, aI (v5 + (5 : Int32)))] [] h244
            else
              some (.inl (some (aI (0 : Int32))), h244))
          else
            Ru 316 28 [(0, aR o), (1, aR v1), (2, aR v2), (3, aR v3), (4, aR v4), (5, aI (v5 + (5 : Int32)))] [] h244
        else
          some (.inl (some (aI (0 : Int32))), h244)) xT) xT))) xT))
      else if (x2 &&& (31 : Int32)).toInt = 21 then
        (gaI h o 1000 (v5 + (1 : Int32))).bind (fun x247 =>
        (gaI h o 1000 (v5 + (2 : Int32))).bind (fun x248 =>
        cI (Ex 311 [aR v1, aI x247, aI x248, aR v3] h) (fun x250 h249 =>
        (gaI h249 o 1000 (v5 + (1 : Int32))).bind (fun x251 =>
        (gaI h249 o 1000 (v5 + (2 : Int32))).bind (fun x252 =>
        cI (Ex 281 [aR v2, aI x251, aI x252] h249) (fun x254 h253 =>
        cI (Ex 249 [aR v2] h253) (fun x256 h255 =>
        if x256 = x250 then
          if x250 = 0 then
            (gaL h255 v3 1001 (0 : Int32)).bind (fun x257 =>
            if (lg_cmp x257 x254.toInt64) = 0 then
              Ru 316 28 [(0, aR o), (1, aR v1), (2, aR v2), (3, aR v3), (4, aR v4), (5, aI (v5 + (5 : Int32)))] [] h255
            else
              some (.inl (some (aI (0 : Int32))), h255))
          else
            Ru 316 28 [(0, aR o), (1, aR v1), (2, aR v2), (3, aR v3), (4, aR v4), (5, aI (v5 + (5 : Int32)))] [] h255
        else
          some (.inl (some (aI (0 : Int32))), h255)) xT) xT))) xT))
      else if (x2 &&& (31 : Int32)).toInt = 22 then
        (gaI h o 1000 (v5 + (1 : Int32))).bind (fun x258 =>
        (gaI h o 1000 (v5 + (2 : Int32))).bind (fun x259 =>
        cI (Ex 312 [aR v1, aI x258, aI x259, aR v3] h) (fun x261 h260 =>
        (gaI h260 o 1000 (v5 + (1 : Int32))).bind (fun x262 =>
        (gaI h260 o 1000 (v5 + (2 : Int32))).bind (fun x263 =>
        cL (Ex 282 [aR v2, aI x262, aI x263] h260) (fun x265 h264 =>
        cI (Ex 249 [aR v2] h264) (fun x267 h266 =>
        if x267 = x261 then
          if x261 = 0 then
            (gaL h266 v3 1001 (0 : Int32)).bind (fun x268 =>
            if (lg_cmp x268 x265) = 0 then
              Ru 316 28 [(0, aR o), (1, aR v1), (2, aR v2), (3, aR v3), (4, aR v4), (5, aI (v5 + (5 : Int32)))] [] h266
            else
              some (.inl (some (aI (0 : Int32))), h266))
          else
            Ru 316 28 [(0, aR o), (1, aR v1), (2, aR v2), (3, aR v3), (4, aR v4), (5, aI (v5 + (5 : Int32)))] [] h266
        else
          some (.inl (some (aI (0 : Int32))), h266)) xT) xT))) xT))
      else if (x2 &&& (31 : Int32)).toInt = 23 then
        (gaI h o 1000 (v5 + (1 : Int32))).bind (fun x269 =>
        (gaI h o 1000 (v5 + (2 : Int32))).bind (fun x270 =>
        cI (Ex 313 [aR v1, aI x269, aI x270, aR v3] h) (fun x272 h271 =>
        (gaI h271 o 1000 (v5 + (1 : Int32))).bind (fun x273 =>
        (gaI h271 o 1000 (v5 + (2 : Int32))).bind (fun x274 =>
        cL (Ex 284 [aR v2, aI x273, aI x274] h271) (fun x276 h275 =>
        cI (Ex 249 [aR v2] h275) (fun x278 h277 =>
        if x278 = x272 then
          if x272 = 0 then
            (gaL h277 v3 1001 (0 : Int32)).bind (fun x279 =>
            if (lg_cmp x279 x276) = 0 then
              Ru 316 28 [(0, aR o), (1, aR v1), (2, aR v2), (3, aR v3), (4, aR v4), (5, aI (v5 + (5 : Int32)))] [] h277
            else
              some (.inl (some (aI (0 : Int32))), h277))
          else
            Ru 316 28 [(0, aR o), (1, aR v1), (2, aR v2), (3, aR v3), (4, aR v4), (5, aI (v5 + (5 : Int32)))] [] h277
        else
          some (.inl (some (aI (0 : Int32))), h277)) xT) xT))) xT))
      else if (x2 &&& (31 : Int32)).toInt = 24 then
        (gaI h o 1000 (v5 + (1 : Int32))).bind (fun x280 =>
        cI (Ex 314 [aR v1, aI x280, aR v3] h) (fun x282 h281 =>
        (gaI h281 o 1000 (v5 + (1 : Int32))).bind (fun x283 =>
        cI (Ex 285 [aR v2, aI x283] h281) (fun x285 h284 =>
        cI (Ex 249 [aR v2] h284) (fun x287 h286 =>
        if x287 = x282 then
          if x282 = 0 then
            (gaL h286 v3 1001 (0 : Int32)).bind (fun x288 =>
            if (lg_cmp x288 x285.toInt64) = 0 then
              Ru 316 28 [(0, aR o), (1, aR v1), (2, aR v2), (3, aR v3), (4, aR v4), (5, aI (v5 + (5 : Int32)))] [] h286
            else
              some (.inl (some (aI (0 : Int32))), h286))
          else
            Ru 316 28 [(0, aR o), (1, aR v1), (2, aR v2), (3, aR v3), (4, aR v4), (5, aI (v5 + (5 : Int32)))] [] h286
        else
          some (.inl (some (aI (0 : Int32))), h286)) xT) xT)) xT)
      else if (x2 &&& (31 : Int32)).toInt = 25 then
        cL (Ex 131 [aR v1] h) (fun x290 h289 =>
        cL (Ex 286 [aR v2] h289) (fun x292 h291 =>
        if (lg_cmp x290 x292) = 0 then
          Ru 316 28 [(0, aR o), (1, aR v1), (2, aR v2), (3, aR v3), (4, aR v4), (5, aI (v5 + (5 : Int32)))] [] h291
        else
          some (.inl (some (aI (0 : Int32))), h291)) xT) xT
      else if (x2 &&& (31 : Int32)).toInt = 26 then
        (gaI h o 1000 (v5 + (1 : Int32))).bind (fun x293 =>
        cI (Ex 315 [aR v1, aI x293, aR v4] h) (fun x295 h294 =>
        (gaI h294 o 1000 (v5 + (1 : Int32))).bind (fun x296 =>
        cD (Ex 288 [aR v2, aI x296] h294) (fun x298 h297 =>
        cI (Ex 249 [aR v2] h297) (fun x300 h299 =>
        if x300 = x295 then
          if x295 = 0 then
            (gaD h299 v4 1005 (0 : Int32)).bind (fun x301 =>
            if (Op.cmpValue (FP.dcmp x301 x298) .l) = 0 then
              Ru 316 28 [(0, aR o), (1, aR v1), (2, aR v2), (3, aR v3), (4, aR v4), (5, aI (v5 + (5 : Int32)))] [] h299
            else
              (gaD h299 v4 1005 (0 : Int32)).bind (fun x302 =>
              (gaD h299 v4 1005 (0 : Int32)).bind (fun x303 =>
              if (Op.cmpValue (FP.dcmp x302 x303) .l) = 0 then
                some (.inl (some (aI (0 : Int32))), h299)
              else
                if (Op.cmpValue (FP.dcmp x298 x298) .l) = 0 then
                  some (.inl (some (aI (0 : Int32))), h299)
                else
                  Ru 316 28 [(0, aR o), (1, aR v1), (2, aR v2), (3, aR v3), (4, aR v4), (5, aI (v5 + (5 : Int32)))] [] h299)))
          else
            Ru 316 28 [(0, aR o), (1, aR v1), (2, aR v2), (3, aR v3), (4, aR v4), (5, aI (v5 + (5 : Int32)))] [] h299
        else
          some (.inl (some (aI (0 : Int32))), h299)) xT) xT)) xT)
      else if (x2 &&& (31 : Int32)).toInt = 27 then
        cF (Ex 133 [aR v1] h) (fun x305 h304 =>
        if (FP.f2d x305) &&& 0x7fffffffffffffff ≤ 0x7ff0000000000000 then
        cF (Ex 289 [aR v2] h304) (fun x307 h306 =>
        if (FP.f2d x307) &&& 0x7fffffffffffffff ≤ 0x7ff0000000000000 then
        if (Op.cmpValue (FP.dcmp (FP.f2d x305) (FP.f2d x307)) .l) = 0 then
          Ru 316 28 [(0, aR o), (1, aR v1), (2, aR v2), (3, aR v3), (4, aR v4), (5, aI (v5 + (5 : Int32)))] [] h306
        else
          if (Op.cmpValue (FP.dcmp (FP.f2d x305) (FP.f2d x305)) .l) = 0 then
            some (.inl (some (aI (0 : Int32))), h306)
          else
            if (Op.cmpValue (FP.dcmp (FP.f2d x307) (FP.f2d x307)) .l) = 0 then
              some (.inl (some (aI (0 : Int32))), h306)
            else
              Ru 316 28 [(0, aR o), (1, aR v1), (2, aR v2), (3, aR v3), (4, aR v4), (5, aI (v5 + (5 : Int32)))] [] h306
        else none) xT
        else none) xT
      else if (x2 &&& (31 : Int32)).toInt = 28 then
        cL (Ex 134 [aR v1] h) (fun x309 h308 =>
        cL (Ex 290 [aR v2] h308) (fun x311 h310 =>
        if (lg_cmp x309 x311) = 0 then
          Ru 316 28 [(0, aR o), (1, aR v1), (2, aR v2), (3, aR v3), (4, aR v4), (5, aI (v5 + (5 : Int32)))] [] h310
        else
          some (.inl (some (aI (0 : Int32))), h310)) xT) xT
      else if (x2 &&& (31 : Int32)).toInt = 29 then
        cI (Ex 135 [aR v1] h) (fun x313 h312 =>
        cI (Ex 292 [aR v2] h312) (fun x315 h314 =>
        if x313 = x315 then
          Ru 316 28 [(0, aR o), (1, aR v1), (2, aR v2), (3, aR v3), (4, aR v4), (5, aI (v5 + (5 : Int32)))] [] h314
        else
          some (.inl (some (aI (0 : Int32))), h314)) xT) xT
      else Ru 316 28 [(0, aR o), (1, aR v1), (2, aR v2), (3, aR v3), (4, aR v4), (5, aI (v5 + (5 : Int32)))] [] h)) :=
  lift_of (k := 76) (rows := code_316) (cuts := cut_316) (hs := hdl_316) (r := fun R E =>
    (len h o).bind (fun x1 =>
    if (x1 - (5 : Int32)) < v5 then
      some (.inl (some (aI (1 : Int32))), h)
    else
      (gaI h o 1000 v5).bind (fun x2 =>
      if (x2 &&& (31 : Int32)).toInt = 0 then
        (gaI h o 1000 (v5 + (1 : Int32))).bind (fun x3 =>
        (gaI h o 1000 (v5 + (2 : Int32))).bind (fun x4 =>
        cI (E 293 [aR v1, aL ((x3.toInt64 <<< ((32 : Int32).toInt64 &&& 63)) ||| (x4.toInt64 &&& (4294967295 : Int64))), aR v3] h) (fun x6 h5 =>
        (gaI h5 o 1000 (v5 + (1 : Int32))).bind (fun x7 =>
        (gaI h5 o 1000 (v5 + (2 : Int32))).bind (fun x8 =>
        cI (E 258 [aR v2, aL ((x7.toInt64 <<< ((32 : Int32).toInt64 &&& 63)) ||| (x8.toInt64 &&& (4294967295 : Int64)))] h5) (fun x10 h9 =>
        cI (E 249 [aR v2] h9) (fun x12 h11 =>
        if x12 = x6 then
          if x6 = 0 then
            (gaL h11 v3 1001 (0 : Int32)).bind (fun x13 =>
            if (lg_cmp x13 x10.toInt64) = 0 then
              R 28 [(0, aR o), (1, aR v1), (2, aR v2), (3, aR v3), (4, aR v4), (5, aI (v5 + (5 : Int32)))] [] h11
            else
              some (.inl (some (aI (0 : Int32))), h11))
          else
            R 28 [(0, aR o), (1, aR v1), (2, aR v2), (3, aR v3), (4, aR v4), (5, aI (v5 + (5 : Int32)))] [] h11
        else
          some (.inl (some (aI (0 : Int32))), h11)) xT) xT))) xT))
      else if (x2 &&& (31 : Int32)).toInt = 1 then
        cI (E 78 [aR v1] h) (fun x15 h14 =>
        cI (E 259 [aR v2] h14) (fun x17 h16 =>
        if x15 = x17 then
          R 28 [(0, aR o), (1, aR v1), (2, aR v2), (3, aR v3), (4, aR v4), (5, aI (v5 + (5 : Int32)))] [] h16
        else
          some (.inl (some (aI (0 : Int32))), h16)) xT) xT
      else if (x2 &&& (31 : Int32)).toInt = 2 then
        cI (E 294 [aR v1, aR v3] h) (fun x19 h18 =>
        cI (E 260 [aR v2] h18) (fun x21 h20 =>
        cI (E 249 [aR v2] h20) (fun x23 h22 =>
        if x23 = x19 then
          if x19 = 0 then
            (gaL h22 v3 1001 (0 : Int32)).bind (fun x24 =>
            if (lg_cmp x24 x21.toInt64) = 0 then
              R 28 [(0, aR o), (1, aR v1), (2, aR v2), (3, aR v3), (4, aR v4), (5, aI (v5 + (5 : Int32)))] [] h22
            else
              some (.inl (some (aI (0 : Int32))), h22))
          else
            R 28 [(0, aR o), (1, aR v1), (2, aR v2), (3, aR v3), (4, aR v4), (5, aI (v5 + (5 : Int32)))] [] h22
        else
          some (.inl (some (aI (0 : Int32))), h22)) xT) xT) xT
      else if (x2 &&& (31 : Int32)).toInt = 3 then
        (gaI h o 1000 (v5 + (1 : Int32))).bind (fun x25 =>
        cI (E 295 [aR v1, aI x25, aR v3] h) (fun x27 h26 =>
        (gaI h26 o 1000 (v5 + (1 : Int32))).bind (fun x28 =>
        cI (E 262 [aR v2, aI x28] h26) (fun x30 h29 =>
        cI (E 249 [aR v2] h29) (fun x32 h31 =>
        if x32 = x27 then
          if x27 = 0 then
            (gaL h31 v3 1001 (0 : Int32)).bind (fun x33 =>
            if (lg_cmp x33 x30.toInt64) = 0 then
              R 28 [(0, aR o), (1, aR v1), (2, aR v2), (3, aR v3), (4, aR v4), (5, aI (v5 + (5 : Int32)))] [] h31
            else
              some (.inl (some (aI (0 : Int32))), h31))
          else
            R 28 [(0, aR o), (1, aR v1), (2, aR v2), (3, aR v3), (4, aR v4), (5, aI (v5 + (5 : Int32)))] [] h31
        else
          some (.inl (some (aI (0 : Int32))), h31)) xT) xT)) xT)
      else if (x2 &&& (31 : Int32)).toInt = 4 then
        (gaI h o 1000 (v5 + (1 : Int32))).bind (fun x34 =>
        (gaI h o 1000 (v5 + (2 : Int32))).bind (fun x35 =>
        cI (E 296 [aR v1, aI x34, aI x35, aR v3] h) (fun x37 h36 =>
        (gaI h36 o 1000 (v5 + (1 : Int32))).bind (fun x38 =>
        (gaI h36 o 1000 (v5 + (2 : Int32))).bind (fun x39 =>
        cI (E 263 [aR v2, aI x38, aI x39] h36) (fun x41 h40 =>
        cI (E 249 [aR v2] h40) (fun x43 h42 =>
        if x43 = x37 then
          if x37 = 0 then
            (gaL h42 v3 1001 (0 : Int32)).bind (fun x44 =>
            if (lg_cmp x44 x41.toInt64) = 0 then
              R 28 [(0, aR o), (1, aR v1), (2, aR v2), (3, aR v3), (4, aR v4), (5, aI (v5 + (5 : Int32)))] [] h42
            else
              some (.inl (some (aI (0 : Int32))), h42))
          else
            R 28 [(0, aR o), (1, aR v1), (2, aR v2), (3, aR v3), (4, aR v4), (5, aI (v5 + (5 : Int32)))] [] h42
        else
          some (.inl (some (aI (0 : Int32))), h42)) xT) xT))) xT))
      else if (x2 &&& (31 : Int32)).toInt = 5 then
        (gaI h o 1000 (v5 + (1 : Int32))).bind (fun x45 =>
        (gaI h o 1000 (v5 + (2 : Int32))).bind (fun x46 =>
        (gaI h o 1000 (v5 + (3 : Int32))).bind (fun x47 =>
        (gaI h o 1000 (v5 + (4 : Int32))).bind (fun x48 =>
        cI (E 297 [aR v1, aI x45, aI x46, aI x47, aI x48, aR v3] h) (fun x50 h49 =>
        (gaI h49 o 1000 (v5 + (1 : Int32))).bind (fun x51 =>
        (gaI h49 o 1000 (v5 + (2 : Int32))).bind (fun x52 =>
        (gaI h49 o 1000 (v5 + (3 : Int32))).bind (fun x53 =>
        (gaI h49 o 1000 (v5 + (4 : Int32))).bind (fun x54 =>
        cI (E 264 [aR v2, aI x51, aI x52, aI x53, aI x54] h49) (fun x56 h55 =>
        cI (E 249 [aR v2] h55) (fun x58 h57 =>
        if x58 = x50 then
          if x50 = 0 then
            (gaL h57 v3 1001 (0 : Int32)).bind (fun x59 =>
            if (lg_cmp x59 x56.toInt64) = 0 then
              R 28 [(0, aR o), (1, aR v1), (2, aR v2), (3, aR v3), (4, aR v4), (5, aI (v5 + (5 : Int32)))] [] h57
            else
              some (.inl (some (aI (0 : Int32))), h57))
          else
            R 28 [(0, aR o), (1, aR v1), (2, aR v2), (3, aR v3), (4, aR v4), (5, aI (v5 + (5 : Int32)))] [] h57
        else
          some (.inl (some (aI (0 : Int32))), h57)) xT) xT))))) xT))))
      else if (x2 &&& (31 : Int32)).toInt = 6 then
        (gaI h o 1000 (v5 + (1 : Int32))).bind (fun x60 =>
        (gaI h o 1000 (v5 + (2 : Int32))).bind (fun x61 =>
        (gaI h o 1000 (v5 + (3 : Int32))).bind (fun x62 =>
        cI (E 298 [aR v1, aI x60, aI x61, aI x62, aR v3] h) (fun x64 h63 =>
        (gaI h63 o 1000 (v5 + (1 : Int32))).bind (fun x65 =>
        (gaI h63 o 1000 (v5 + (2 : Int32))).bind (fun x66 =>
        (gaI h63 o 1000 (v5 + (3 : Int32))).bind (fun x67 =>
        cI (E 265 [aR v2, aI x65, aI x66, aI x67] h63) (fun x69 h68 =>
        cI (E 249 [aR v2] h68) (fun x71 h70 =>
        if x71 = x64 then
          if x64 = 0 then
            (gaL h70 v3 1001 (0 : Int32)).bind (fun x72 =>
            if (lg_cmp x72 x69.toInt64) = 0 then
              R 28 [(0, aR o), (1, aR v1), (2, aR v2), (3, aR v3), (4, aR v4), (5, aI (v5 + (5 : Int32)))] [] h70
            else
              some (.inl (some (aI (0 : Int32))), h70))
          else
            R 28 [(0, aR o), (1, aR v1), (2, aR v2), (3, aR v3), (4, aR v4), (5, aI (v5 + (5 : Int32)))] [] h70
        else
          some (.inl (some (aI (0 : Int32))), h70)) xT) xT)))) xT)))
      else if (x2 &&& (31 : Int32)).toInt = 7 then
        (gaI h o 1000 (v5 + (1 : Int32))).bind (fun x73 =>
        (gaI h o 1000 (v5 + (2 : Int32))).bind (fun x74 =>
        (gaI h o 1000 (v5 + (3 : Int32))).bind (fun x75 =>
        (gaI h o 1000 (v5 + (4 : Int32))).bind (fun x76 =>
        cI (E 299 [aR v1, aI x73, aI x74, aI x75, aI x76, aR v3] h) (fun x78 h77 =>
        (gaI h77 o 1000 (v5 + (1 : Int32))).bind (fun x79 =>
        (gaI h77 o 1000 (v5 + (2 : Int32))).bind (fun x80 =>
        (gaI h77 o 1000 (v5 + (3 : Int32))).bind (fun x81 =>
        (gaI h77 o 1000 (v5 + (4 : Int32))).bind (fun x82 =>
        cI (E 266 [aR v2, aI x79, aI x80, aI x81, aI x82] h77) (fun x84 h83 =>
        cI (E 249 [aR v2] h83) (fun x86 h85 =>
        if x86 = x78 then
          if x78 = 0 then
            (gaL h85 v3 1001 (0 : Int32)).bind (fun x87 =>
            if (lg_cmp x87 x84.toInt64) = 0 then
              R 28 [(0, aR o), (1, aR v1), (2, aR v2), (3, aR v3), (4, aR v4), (5, aI (v5 + (5 : Int32)))] [] h85
            else
              some (.inl (some (aI (0 : Int32))), h85))
          else
            R 28 [(0, aR o), (1, aR v1), (2, aR v2), (3, aR v3), (4, aR v4), (5, aI (v5 + (5 : Int32)))] [] h85
        else
          some (.inl (some (aI (0 : Int32))), h85)) xT) xT))))) xT))))
      else if (x2 &&& (31 : Int32)).toInt = 8 then
        (gaI h o 1000 (v5 + (1 : Int32))).bind (fun x88 =>
        cI (E 300 [aR v1, aI x88, aR v3] h) (fun x90 h89 =>
        (gaI h89 o 1000 (v5 + (1 : Int32))).bind (fun x91 =>
        cI (E 267 [aR v2, aI x91] h89) (fun x93 h92 =>
        cI (E 249 [aR v2] h92) (fun x95 h94 =>
        if x95 = x90 then
          if x90 = 0 then
            (gaL h94 v3 1001 (0 : Int32)).bind (fun x96 =>
            if (lg_cmp x96 x93.toInt64) = 0 then
              R 28 [(0, aR o), (1, aR v1), (2, aR v2), (3, aR v3), (4, aR v4), (5, aI (v5 + (5 : Int32)))] [] h94
            else
              some (.inl (some (aI (0 : Int32))), h94))
          else
            R 28 [(0, aR o), (1, aR v1), (2, aR v2), (3, aR v3), (4, aR v4), (5, aI (v5 + (5 : Int32)))] [] h94
        else
          some (.inl (some (aI (0 : Int32))), h94)) xT) xT)) xT)
      else if (x2 &&& (31 : Int32)).toInt = 9 then
        (gaI h o 1000 (v5 + (1 : Int32))).bind (fun x97 =>
        (gaI h o 1000 (v5 + (2 : Int32))).bind (fun x98 =>
        (gaI h o 1000 (v5 + (3 : Int32))).bind (fun x99 =>
        cI (E 301 [aR v1, aI x97, aI x98, aI x99, aR v3] h) (fun x101 h100 =>
        (gaI h100 o 1000 (v5 + (1 : Int32))).bind (fun x102 =>
        (gaI h100 o 1000 (v5 + (2 : Int32))).bind (fun x103 =>
        (gaI h100 o 1000 (v5 + (3 : Int32))).bind (fun x104 =>
        cI (E 268 [aR v2, aI x102, aI x103, aI x104] h100) (fun x106 h105 =>
        cI (E 249 [aR v2] h105) (fun x108 h107 =>
        if x108 = x101 then
          if x101 = 0 then
            (gaL h107 v3 1001 (0 : Int32)).bind (fun x109 =>
            if (lg_cmp x109 x106.toInt64) = 0 then
              R 28 [(0, aR o), (1, aR v1), (2, aR v2), (3, aR v3), (4, aR v4), (5, aI (v5 + (5 : Int32)))] [] h107
            else
              some (.inl (some (aI (0 : Int32))), h107))
          else
            R 28 [(0, aR o), (1, aR v1), (2, aR v2), (3, aR v3), (4, aR v4), (5, aI (v5 + (5 : Int32)))] [] h107
        else
          some (.inl (some (aI (0 : Int32))), h107)) xT) xT)))) xT)))
      else if (x2 &&& (31 : Int32)).toInt = 10 then
        (gaI h o 1000 (v5 + (1 : Int32))).bind (fun x110 =>
        (gaI h o 1000 (v5 + (2 : Int32))).bind (fun x111 =>
        (gaI h o 1000 (v5 + (3 : Int32))).bind (fun x112 =>
        cI (E 302 [aR v1, aI x110, aI x111, aI x112, aR v3] h) (fun x114 h113 =>
        (gaI h113 o 1000 (v5 + (1 : Int32))).bind (fun x115 =>
        (gaI h113 o 1000 (v5 + (2 : Int32))).bind (fun x116 =>
        (gaI h113 o 1000 (v5 + (3 : Int32))).bind (fun x117 =>
        cI (E 269 [aR v2, aI x115, aI x116, aI x117] h113) (fun x119 h118 =>
        cI (E 249 [aR v2] h118) (fun x121 h120 =>
        if x121 = x114 then
          if x114 = 0 then
            (gaL h120 v3 1001 (0 : Int32)).bind (fun x122 =>
            if (lg_cmp x122 x119.toInt64) = 0 then
              R 28 [(0, aR o), (1, aR v1), (2, aR v2), (3, aR v3), (4, aR v4), (5, aI (v5 + (5 : Int32)))] [] h120
            else
              some (.inl (some (aI (0 : Int32))), h120))
          else
            R 28 [(0, aR o), (1, aR v1), (2, aR v2), (3, aR v3), (4, aR v4), (5, aI (v5 + (5 : Int32)))] [] h120
        else
          some (.inl (some (aI (0 : Int32))), h120)) xT) xT)))) xT)))
      else if (x2 &&& (31 : Int32)).toInt = 11 then
        (gaI h o 1000 (v5 + (1 : Int32))).bind (fun x123 =>
        cI (E 303 [aR v1, aI x123, aR v3] h) (fun x125 h124 =>
        (gaI h124 o 1000 (v5 + (1 : Int32))).bind (fun x126 =>
        cI (E 271 [aR v2, aI x126] h124) (fun x128 h127 =>
        cI (E 249 [aR v2] h127) (fun x130 h129 =>
        if x130 = x125 then
          if x125 = 0 then
            (gaL h129 v3 1001 (0 : Int32)).bind (fun x131 =>
            if (lg_cmp x131 x128.toInt64) = 0 then
              R 28 [(0, aR o), (1, aR v1), (2, aR v2), (3, aR v3), (4, aR v4), (5, aI (v5 + (5 : Int32)))] [] h129
            else
              some (.inl (some (aI (0 : Int32))), h129))
          else
            R 28 [(0, aR o), (1, aR v1), (2, aR v2), (3, aR v3), (4, aR v4), (5, aI (v5 + (5 : Int32)))] [] h129
        else
          some (.inl (some (aI (0 : Int32))), h129)) xT) xT)) xT)
      else if (x2 &&& (31 : Int32)).toInt = 12 then
        (gaI h o 1000 (v5 + (1 : Int32))).bind (fun x132 =>
        (gaI h o 1000 (v5 + (2 : Int32))).bind (fun x133 =>
        (gaI h o 1000 (v5 + (3 : Int32))).bind (fun x134 =>
        (gaI h o 1000 (v5 + (4 : Int32))).bind (fun x135 =>
        cI (E 304 [aR v1, aI x132, aI x133, aI x134, aI x135, aR v3] h) (fun x137 h136 =>
        (gaI h136 o 1000 (v5 + (1 : Int32))).bind (fun x138 =>
        (gaI h136 o 1000 (v5 + (2 : Int32))).bind (fun x139 =>
        (gaI h136 o 1000 (v5 + (3 : Int32))).bind (fun x140 =>
        (gaI h136 o 1000 (v5 + (4 : Int32))).bind (fun x141 =>
        cI (E 272 [aR v2, aI x138, aI x139, aI x140, aI x141] h136) (fun x143 h142 =>
        cI (E 249 [aR v2] h142) (fun x145 h144 =>
        if x145 = x137 then
          if x137 = 0 then
            (gaL h144 v3 1001 (0 : Int32)).bind (fun x146 =>
            if (lg_cmp x146 x143.toInt64) = 0 then
              R 28 [(0, aR o), (1, aR v1), (2, aR v2), (3, aR v3), (4, aR v4), (5, aI (v5 + (5 : Int32)))] [] h144
            else
              some (.inl (some (aI (0 : Int32))), h144))
          else
            R 28 [(0, aR o), (1, aR v1), (2, aR v2), (3, aR v3), (4, aR v4), (5, aI (v5 + (5 : Int32)))] [] h144
        else
          some (.inl (some (aI (0 : Int32))), h144)) xT) xT))))) xT))))
      else if (x2 &&& (31 : Int32)).toInt = 13 then
        (gaI h o 1000 (v5 + (1 : Int32))).bind (fun x147 =>
        if x147 = 0 then
          cI (E 111 [aR v1, aI (0 : Int32)] h) (fun x149 h148 =>
          (gaI h148 o 1000 (v5 + (1 : Int32))).bind (fun x150 =>
          if x150 = 0 then
            cI (E 273 [aR v2, aI (0 : Int32)] h148) (fun x152 h151 =>
            if x149 = x152 then
              R 28 [(0, aR o), (1, aR v1), (2, aR v2), (3, aR v3), (4, aR v4), (5, aI (v5 + (5 : Int32)))] [] h151
            else
              some (.inl (some (aI (0 : Int32))), h151)) xT
          else
            cI (E 273 [aR v2, aI (1 : Int32)] h148) (fun x154 h153 =>
            if x149 = x154 then
              R 28 [(0, aR o), (1, aR v1), (2, aR v2), (3, aR v3), (4, aR v4), (5, aI (v5 + (5 : Int32)))] [] h153
            else
              some (.inl (some (aI (0 : Int32))), h153)) xT)) xT
        else
          cI (E 111 [aR v1, aI (1 : Int32)] h) (fun x156 h155 =>
          (gaI h155 o 1000 (v5 + (1 : Int32))).bind (fun x157 =>
          if x157 = 0 then
            cI (E 273 [aR v2, aI (0 : Int32)] h155) (fun x159 h158 =>
            if x156 = x159 then
              R 28 [(0, aR o), (1, aR v1), (2, aR v2), (3, aR v3), (4, aR v4), (5, aI (v5 + (5 : Int32)))] [] h158
            else
              some (.inl (some (aI (0 : Int32))), h158)) xT
          else
            cI (E 273 [aR v2, aI (1 : Int32)] h155) (fun x161 h160 =>
            if x156 = x161 then
              R 28 [(0, aR o), (1, aR v1), (2, aR v2), (3, aR v3), (4, aR v4), (5, aI (v5 + (5 : Int32)))] [] h160
            else
              some (.inl (some (aI (0 : Int32))), h160)) xT)) xT)
      else if (x2 &&& (31 : Int32)).toInt = 14 then
        (gaI h o 1000 (v5 + (1 : Int32))).bind (fun x162 =>
        (gaI h o 1000 (v5 + (2 : Int32))).bind (fun x163 =>
        cI (E 305 [aR v1, aI x162, aI x163, aR v3] h) (fun x165 h164 =>
        (gaI h164 o 1000 (v5 + (1 : Int32))).bind (fun x166 =>
        (gaI h164 o 1000 (v5 + (2 : Int32))).bind (fun x167 =>
        cI (E 274 [aR v2, aI x166, aI x167] h164) (fun x169 h168 =>
        cI (E 249 [aR v2] h168) (fun x171 h170 =>
        if x171 = x165 then
          if x165 = 0 then
            (gaL h170 v3 1001 (0 : Int32)).bind (fun x172 =>
            if (lg_cmp x172 x169.toInt64) = 0 then
              R 28 [(0, aR o), (1, aR v1), (2, aR v2), (3, aR v3), (4, aR v4), (5, aI (v5 + (5 : Int32)))] [] h170
            else
              some (.inl (some (aI (0 : Int32))), h170))
          else
            R 28 [(0, aR o), (1, aR v1), (2, aR v2), (3, aR v3), (4, aR v4), (5, aI (v5 + (5 : Int32)))] [] h170
        else
          some (.inl (some (aI (0 : Int32))), h170)) xT) xT))) xT))
      else if (x2 &&& (31 : Int32)).toInt = 15 then
        (gaI h o 1000 (v5 + (1 : Int32))).bind (fun x173 =>
        cI (E 306 [aR v1, aI x173, aR v3] h) (fun x175 h174 =>
        (gaI h174 o 1000 (v5 + (1 : Int32))).bind (fun x176 =>
        cI (E 275 [aR v2, aI x176] h174) (fun x178 h177 =>
        cI (E 249 [aR v2] h177) (fun x180 h179 =>
        if x180 = x175 then
          if x175 = 0 then
            (gaL h179 v3 1001 (0 : Int32)).bind (fun x181 =>
            if x178 = 0 then
              if (lg_cmp x181 (0 : Int64)) = 0 then
                R 28 [(0, aR o), (1, aR v1), (2, aR v2), (3, aR v3), (4, aR v4), (5, aI (v5 + (5 : Int32)))] [] h179
              else
                some (.inl (some (aI (0 : Int32))), h179)
            else
              if (lg_cmp x181 (1 : Int64)) = 0 then
                R 28 [(0, aR o), (1, aR v1), (2, aR v2), (3, aR v3), (4, aR v4), (5, aI (v5 + (5 : Int32)))] [] h179
              else
                some (.inl (some (aI (0 : Int32))), h179))
          else
            R 28 [(0, aR o), (1, aR v1), (2, aR v2), (3, aR v3), (4, aR v4), (5, aI (v5 + (5 : Int32)))] [] h179
        else
          some (.inl (some (aI (0 : Int32))), h179)) xT) xT)) xT)
      else if (x2 &&& (31 : Int32)).toInt = 16 then
        (gaI h o 1000 (v5 + (1 : Int32))).bind (fun x182 =>
        (gaI h o 1000 (v5 + (2 : Int32))).bind (fun x183 =>
        if x183 = 0 then
          cI (E 307 [aR v1, aI x182, aI (0 : Int32), aR v3] h) (fun x185 h184 =>
          (gaI h184 o 1000 (v5 + (1 : Int32))).bind (fun x186 =>
          (gaI h184 o 1000 (v5 + (2 : Int32))).bind (fun x187 =>
          if x187 = 0 then
            cI (E 276 [aR v2, aI x186, aI (0 : Int32)] h184) (fun x189 h188 =>
            cI (E 249 [aR v2] h188) (fun x191 h190 =>
            if x191 = x185 then
              if x185 = 0 then
                (gaL h190 v3 1001 (0 : Int32)).bind (fun x192 =>
                if x189 = 0 then
                  if (lg_cmp x192 (0 : Int64)) = 0 then
                    R 28 [(0, aR o), (1, aR v1), (2, aR v2), (3, aR v3), (4, aR v4), (5, aI (v5 + (5 : Int32)))] [] h190
                  else
                    some (.inl (some (aI (0 : Int32))), h190)
                else
                  if (lg_cmp x192 (1 : Int64)) = 0 then
                    R 28 [(0, aR o), (1, aR v1), (2, aR v2), (3, aR v3), (4, aR v4), (5, aI (v5 + (5 : Int32)))] [] h190
                  else
                    some (.inl (some (aI (0 : Int32))), h190))
              else
                R 28 [(0, aR o), (1, aR v1), (2, aR v2), (3, aR v3), (4, aR v4), (5, aI (v5 + (5 : Int32)))] [] h190
            else
              some (.inl (some (aI (0 : Int32))), h190)) xT) xT
          else
            cI (E 276 [aR v2, aI x186, aI (1 : Int32)] h184) (fun x194 h193 =>
            cI (E 249 [aR v2] h193) (fun x196 h195 =>
            if x196 = x185 then
              if x185 = 0 then
                (gaL h195 v3 1001 (0 : Int32)).bind (fun x197 =>
                if x194 = 0 then
                  if (lg_cmp x197 (0 : Int64)) = 0 then
                    R 28 [(0, aR o), (1, aR v1), (2, aR v2), (3, aR v3), (4, aR v4), (5, aI (v5 + (5 : Int32)))] [] h195
                  else
                    some (.inl (some (aI (0 : Int32))), h195)
                else
                  if (lg_cmp x197 (1 : Int64)) = 0 then
                    R 28 [(0, aR o), (1, aR v1), (2, aR v2), (3, aR v3), (4, aR v4), (5, aI (v5 + (5 : Int32)))] [] h195
                  else
                    some (.inl (some (aI (0 : Int32))), h195))
              else
                R 28 [(0, aR o), (1, aR v1), (2, aR v2), (3, aR v3), (4, aR v4), (5, aI (v5 + (5 : Int32)))] [] h195
            else
              some (.inl (some (aI (0 : Int32))), h195)) xT) xT))) xT
        else
          cI (E 307 [aR v1, aI x182, aI (1 : Int32), aR v3] h) (fun x199 h198 =>
          (gaI h198 o 1000 (v5 + (1 : Int32))).bind (fun x200 =>
          (gaI h198 o 1000 (v5 + (2 : Int32))).bind (fun x201 =>
          if x201 = 0 then
            cI (E 276 [aR v2, aI x200, aI (0 : Int32)] h198) (fun x203 h202 =>
            cI (E 249 [aR v2] h202) (fun x205 h204 =>
            if x205 = x199 then
              if x199 = 0 then
                (gaL h204 v3 1001 (0 : Int32)).bind (fun x206 =>
                if x203 = 0 then
                  if (lg_cmp x206 (0 : Int64)) = 0 then
                    R 28 [(0, aR o), (1, aR v1), (2, aR v2), (3, aR v3), (4, aR v4), (5, aI (v5 + (5 : Int32)))] [] h204
                  else
                    some (.inl (some (aI (0 : Int32))), h204)
                else
                  if (lg_cmp x206 (1 : Int64)) = 0 then
                    R 28 [(0, aR o), (1, aR v1), (2, aR v2), (3, aR v3), (4, aR v4), (5, aI (v5 + (5 : Int32)))] [] h204
                  else
                    some (.inl (some (aI (0 : Int32))), h204))
              else
                R 28 [(0, aR o), (1, aR v1), (2, aR v2), (3, aR v3), (4, aR v4), (5, aI (v5 + (5 : Int32)))] [] h204
            else
              some (.inl (some (aI (0 : Int32))), h204)) xT) xT
          else
            cI (E 276 [aR v2, aI x200, aI (1 : Int32)] h198) (fun x208 h207 =>
            cI (E 249 [aR v2] h207) (fun x210 h209 =>
            if x210 = x199 then
              if x199 = 0 then
                (gaL h209 v3 1001 (0 : Int32)).bind (fun x211 =>
                if x208 = 0 then
                  if (lg_cmp x211 (0 : Int64)) = 0 then
                    R 28 [(0, aR o), (1, aR v1), (2, aR v2), (3, aR v3), (4, aR v4), (5, aI (v5 + (5 : Int32)))] [] h209
                  else
                    some (.inl (some (aI (0 : Int32))), h209)
                else
                  if (lg_cmp x211 (1 : Int64)) = 0 then
                    R 28 [(0, aR o), (1, aR v1), (2, aR v2), (3, aR v3), (4, aR v4), (5, aI (v5 + (5 : Int32)))] [] h209
                  else
                    some (.inl (some (aI (0 : Int32))), h209))
              else
                R 28 [(0, aR o), (1, aR v1), (2, aR v2), (3, aR v3), (4, aR v4), (5, aI (v5 + (5 : Int32)))] [] h209
            else
              some (.inl (some (aI (0 : Int32))), h209)) xT) xT))) xT))
      else if (x2 &&& (31 : Int32)).toInt = 17 then
        (gaI h o 1000 (v5 + (1 : Int32))).bind (fun x212 =>
        cI (E 308 [aR v1, aI x212, aR v3] h) (fun x214 h213 =>
        (gaI h213 o 1000 (v5 + (1 : Int32))).bind (fun x215 =>
        cI (E 277 [aR v2, aI x215] h213) (fun x217 h216 =>
        cI (E 249 [aR v2] h216) (fun x219 h218 =>
        if x219 = x214 then
          if x214 = 0 then
            (gaL h218 v3 1001 (0 : Int32)).bind (fun x220 =>
            if (lg_cmp x220 x217.toInt64) = 0 then
              R 28 [(0, aR o), (1, aR v1), (2, aR v2), (3, aR v3), (4, aR v4), (5, aI (v5 + (5 : Int32)))] [] h218
            else
              some (.inl (some (aI (0 : Int32))), h218))
          else
            R 28 [(0, aR o), (1, aR v1), (2, aR v2), (3, aR v3), (4, aR v4), (5, aI (v5 + (5 : Int32)))] [] h218
        else
          some (.inl (some (aI (0 : Int32))), h218)) xT) xT)) xT)
      else if (x2 &&& (31 : Int32)).toInt = 18 then
        cI (E 123 [aR v1] h) (fun x222 h221 =>
        cI (E 278 [aR v2] h221) (fun x224 h223 =>
        if x222 = x224 then
          R 28 [(0, aR o), (1, aR v1), (2, aR v2), (3, aR v3), (4, aR v4), (5, aI (v5 + (5 : Int32)))] [] h223
        else
          some (.inl (some (aI (0 : Int32))), h223)) xT) xT
      else if (x2 &&& (31 : Int32)).toInt = 19 then
        (gaI h o 1000 (v5 + (1 : Int32))).bind (fun x225 =>
        (gaI h o 1000 (v5 + (2 : Int32))).bind (fun x226 =>
        cI (E 309 [aR v1, aI x225, aI x226, aR v3] h) (fun x228 h227 =>
        (gaI h227 o 1000 (v5 + (1 : Int32))).bind (fun x229 =>
        (gaI h227 o 1000 (v5 + (2 : Int32))).bind (fun x230 =>
        cI (E 279 [aR v2, aI x229, aI x230] h227) (fun x232 h231 =>
        cI (E 249 [aR v2] h231) (fun x234 h233 =>
        if x234 = x228 then
          if x228 = 0 then
            (gaL h233 v3 1001 (0 : Int32)).bind (fun x235 =>
            if (lg_cmp x235 x232.toInt64) = 0 then
              R 28 [(0, aR o), (1, aR v1), (2, aR v2), (3, aR v3), (4, aR v4), (5, aI (v5 + (5 : Int32)))] [] h233
            else
              some (.inl (some (aI (0 : Int32))), h233))
          else
            R 28 [(0, aR o), (1, aR v1), (2, aR v2), (3, aR v3), (4, aR v4), (5, aI (v5 + (5 : Int32)))] [] h233
        else
          some (.inl (some (aI (0 : Int32))), h233)) xT) xT))) xT))
      else if (x2 &&& (31 : Int32)).toInt = 20 then
        (gaI h o 1000 (v5 + (1 : Int32))).bind (fun x236 =>
        (gaI h o 1000 (v5 + (2 : Int32))).bind (fun x237 =>
        cI (E 310 [aR v1, aI x236, aI x237, aR v3] h) (fun x239 h238 =>
        (gaI h238 o 1000 (v5 + (1 : Int32))).bind (fun x240 =>
        (gaI h238 o 1000 (v5 + (2 : Int32))).bind (fun x241 =>
        cI (E 280 [aR v2, aI x240, aI x241] h238) (fun x243 h242 =>
        cI (E 249 [aR v2] h242) (fun x245 h244 =>
        if x245 = x239 then
          if x239 = 0 then
            (gaL h244 v3 1001 (0 : Int32)).bind (fun x246 =>
            if (lg_cmp x246 x243.toInt64) = 0 then
              R 28 [(0, aR o), (1, aR v1), (2, aR v2), (3, aR v3), (4, aR v4), (5, aI (v5 + (5 : Int32)))] [] h244
            else
              some (.inl (some (aI (0 : Int32))), h244))
          else
            R 28 [(0, aR o), (1, aR v1), (2, aR v2), (3, aR v3), (4, aR v4), (5, aI (v5 + (5 : Int32)))] [] h244
        else
          some (.inl (some (aI (0 : Int32))), h244)) xT) xT))) xT))
      else if (x2 &&& (31 : Int32)).toInt = 21 then
        (gaI h o 1000 (v5 + (1 : Int32))).bind (fun x247 =>
        (gaI h o 1000 (v5 + (2 : Int32))).bind (fun x248 =>
        cI (E 311 [aR v1, aI x247, aI x248, aR v3] h) (fun x250 h249 =>
        (gaI h249 o 1000 (v5 + (1 : Int32))).bind (fun x251 =>
        (gaI h249 o 1000 (v5 + (2 : Int32))).bind (fun x252 =>
        cI (E 281 [aR v2, aI x251, aI x252] h249) (fun x254 h253 =>
        cI (E 249 [aR v2] h253) (fun x256 h255 =>
        if x256 = x250 then
          if x250 = 0 then
            (gaL h255 v3 1001 (0 : Int32)).bind (fun x257 =>
            if (lg_cmp x257 x254.toInt64) = 0 then
              R 28 [(0, aR o), (1, aR v1), (2, aR v2), (3, aR v3), (4, aR v4), (5, aI (v5 + (5 : Int32)))] [] h255
            else
              some (.inl (some (aI (0 : Int32))), h255))
          else
            R 28 [(0, aR o), (1, aR v1), (2, aR v2), (3, aR v3), (4, aR v4), (5, aI (v5 + (5 : Int32)))] [] h255
        else
          some (.inl (some (aI (0 : Int32))), h255)) xT) xT))) xT))
      else if (x2 &&& (31 : Int32)).toInt = 22 then
        (gaI h o 1000 (v5 + (1 : Int32))).bind (fun x258 =>
        (gaI h o 1000 (v5 + (2 : Int32))).bind (fun x259 =>
        cI (E 312 [aR v1, aI x258, aI x259, aR v3] h) (fun x261 h260 =>
        (gaI h260 o 1000 (v5 + (1 : Int32))).bind (fun x262 =>
        (gaI h260 o 1000 (v5 + (2 : Int32))).bind (fun x263 =>
        cL (E 282 [aR v2, aI x262, aI x263] h260) (fun x265 h264 =>
        cI (E 249 [aR v2] h264) (fun x267 h266 =>
        if x267 = x261 then
          if x261 = 0 then
            (gaL h266 v3 1001 (0 : Int32)).bind (fun x268 =>
            if (lg_cmp x268 x265) = 0 then
              R 28 [(0, aR o), (1, aR v1), (2, aR v2), (3, aR v3), (4, aR v4), (5, aI (v5 + (5 : Int32)))] [] h266
            else
              some (.inl (some (aI (0 : Int32))), h266))
          else
            R 28 [(0, aR o), (1, aR v1), (2, aR v2), (3, aR v3), (4, aR v4), (5, aI (v5 + (5 : Int32)))] [] h266
        else
          some (.inl (some (aI (0 : Int32))), h266)) xT) xT))) xT))
      else if (x2 &&& (31 : Int32)).toInt = 23 then
        (gaI h o 1000 (v5 + (1 : Int32))).bind (fun x269 =>
        (gaI h o 1000 (v5 + (2 : Int32))).bind (fun x270 =>
        cI (E 313 [aR v1, aI x269, aI x270, aR v3] h) (fun x272 h271 =>
        (gaI h271 o 1000 (v5 + (1 : Int32))).bind (fun x273 =>
        (gaI h271 o 1000 (v5 + (2 : Int32))).bind (fun x274 =>
        cL (E 284 [aR v2, aI x273, aI x274] h271) (fun x276 h275 =>
        cI (E 249 [aR v2] h275) (fun x278 h277 =>
        if x278 = x272 then
          if x272 = 0 then
            (gaL h277 v3 1001 (0 : Int32)).bind (fun x279 =>
            if (lg_cmp x279 x276) = 0 then
              R 28 [(0, aR o), (1, aR v1), (2, aR v2), (3, aR v3), (4, aR v4), (5, aI (v5 + (5 : Int32)))] [] h277
            else
              some (.inl (some (aI (0 : Int32))), h277))
          else
            R 28 [(0, aR o), (1, aR v1), (2, aR v2), (3, aR v3), (4, aR v4), (5, aI (v5 + (5 : Int32)))] [] h277
        else
          some (.inl (some (aI (0 : Int32))), h277)) xT) xT))) xT))
      else if (x2 &&& (31 : Int32)).toInt = 24 then
        (gaI h o 1000 (v5 + (1 : Int32))).bind (fun x280 =>
        cI (E 314 [aR v1, aI x280, aR v3] h) (fun x282 h281 =>
        (gaI h281 o 1000 (v5 + (1 : Int32))).bind (fun x283 =>
        cI (E 285 [aR v2, aI x283] h281) (fun x285 h284 =>
        cI (E 249 [aR v2] h284) (fun x287 h286 =>
        if x287 = x282 then
          if x282 = 0 then
            (gaL h286 v3 1001 (0 : Int32)).bind (fun x288 =>
            if (lg_cmp x288 x285.toInt64) = 0 then
              R 28 [(0, aR o), (1, aR v1), (2, aR v2), (3, aR v3), (4, aR v4), (5, aI (v5 + (5 : Int32)))] [] h286
            else
              some (.inl (some (aI (0 : Int32))), h286))
          else
            R 28 [(0, aR o), (1, aR v1), (2, aR v2), (3, aR v3), (4, aR v4), (5, aI (v5 + (5 : Int32)))] [] h286
        else
          some (.inl (some (aI (0 : Int32))), h286)) xT) xT)) xT)
      else if (x2 &&& (31 : Int32)).toInt = 25 then
        cL (E 131 [aR v1] h) (fun x290 h289 =>
        cL (E 286 [aR v2] h289) (fun x292 h291 =>
        if (lg_cmp x290 x292) = 0 then
          R 28 [(0, aR o), (1, aR v1), (2, aR v2), (3, aR v3), (4, aR v4), (5, aI (v5 + (5 : Int32)))] [] h291
        else
          some (.inl (some (aI (0 : Int32))), h291)) xT) xT
      else if (x2 &&& (31 : Int32)).toInt = 26 then
        (gaI h o 1000 (v5 + (1 : Int32))).bind (fun x293 =>
        cI (E 315 [aR v1, aI x293, aR v4] h) (fun x295 h294 =>
        (gaI h294 o 1000 (v5 + (1 : Int32))).bind (fun x296 =>
        cD (E 288 [aR v2, aI x296] h294) (fun x298 h297 =>
        cI (E 249 [aR v2] h297) (fun x300 h299 =>
        if x300 = x295 then
          if x295 = 0 then
            (gaD h299 v4 1005 (0 : Int32)).bind (fun x301 =>
            if (Op.cmpValue (FP.dcmp x301 x298) .l) = 0 then
              R 28 [(0, aR o), (1, aR v1), (2, aR v2), (3, aR v3), (4, aR v4), (5, aI (v5 + (5 : Int32)))] [] h299
            else
              (gaD h299 v4 1005 (0 : Int32)).bind (fun x302 =>
              (gaD h299 v4 1005 (0 : Int32)).bind (fun x303 =>
              if (Op.cmpValue (FP.dcmp x302 x303) .l) = 0 then
                some (.inl (some (aI (0 : Int32))), h299)
              else
                if (Op.cmpValue (FP.dcmp x298 x298) .l) = 0 then
                  some (.inl (some (aI (0 : Int32))), h299)
                else
                  R 28 [(0, aR o), (1, aR v1), (2, aR v2), (3, aR v3), (4, aR v4), (5, aI (v5 + (5 : Int32)))] [] h299)))
          else
            R 28 [(0, aR o), (1, aR v1), (2, aR v2), (3, aR v3), (4, aR v4), (5, aI (v5 + (5 : Int32)))] [] h299
        else
          some (.inl (some (aI (0 : Int32))), h299)) xT) xT)) xT)
      else if (x2 &&& (31 : Int32)).toInt = 27 then
        cF (E 133 [aR v1] h) (fun x305 h304 =>
        if (FP.f2d x305) &&& 0x7fffffffffffffff ≤ 0x7ff0000000000000 then
        cF (E 289 [aR v2] h304) (fun x307 h306 =>
        if (FP.f2d x307) &&& 0x7fffffffffffffff ≤ 0x7ff0000000000000 then
        if (Op.cmpValue (FP.dcmp (FP.f2d x305) (FP.f2d x307)) .l) = 0 then
          R 28 [(0, aR o), (1, aR v1), (2, aR v2), (3, aR v3), (4, aR v4), (5, aI (v5 + (5 : Int32)))] [] h306
        else
          if (Op.cmpValue (FP.dcmp (FP.f2d x305) (FP.f2d x305)) .l) = 0 then
            some (.inl (some (aI (0 : Int32))), h306)
          else
            if (Op.cmpValue (FP.dcmp (FP.f2d x307) (FP.f2d x307)) .l) = 0 then
              some (.inl (some (aI (0 : Int32))), h306)
            else
              R 28 [(0, aR o), (1, aR v1), (2, aR v2), (3, aR v3), (4, aR v4), (5, aI (v5 + (5 : Int32)))] [] h306
        else none) xT
        else none) xT
      else if (x2 &&& (31 : Int32)).toInt = 28 then
        cL (E 134 [aR v1] h) (fun x309 h308 =>
        cL (E 290 [aR v2] h308) (fun x311 h310 =>
        if (lg_cmp x309 x311) = 0 then
          R 28 [(0, aR o), (1, aR v1), (2, aR v2), (3, aR v3), (4, aR v4), (5, aI (v5 + (5 : Int32)))] [] h310
        else
          some (.inl (some (aI (0 : Int32))), h310)) xT) xT
      else if (x2 &&& (31 : Int32)).toInt = 29 then
        cI (E 135 [aR v1] h) (fun x313 h312 =>
        cI (E 292 [aR v2] h312) (fun x315 h314 =>
        if x313 = x315 then
          R 28 [(0, aR o), (1, aR v1), (2, aR v2), (3, aR v3), (4, aR v4), (5, aI (v5 + (5 : Int32)))] [] h314
        else
          some (.inl (some (aI (0 : Int32))), h314)) xT) xT
      else R 28 [(0, aR o), (1, aR v1), (2, aR v2), (3, aR v3), (4, aR v4), (5, aI (v5 + (5 : Int32)))] [] h))) rfl rfl rfl (fun R E => rfl)
