/-! ===== lists, string builders and strings as cells of their own (kinds: 2000 + capacity a list, 1000000 + capacity a builder, 42 a string) ===== -/
def liG (h : Hp) (o : Option (Nat × Nat)) : Option (Nat × List AV) := match hG h o with
  | some x => match Nat.ble 2000 x.1 && Nat.blt x.1 1000000 with | true => some (x.1 - 2000, x.2) | false => none
  | none => none
def sbG (h : Hp) (o : Option (Nat × Nat)) : Option (Nat × List AV) := match hG h o with
  | some x => match Nat.ble 1000000 x.1 with | true => some (x.1 - 1000000, x.2) | false => none
  | none => none
def sgG (h : Hp) (o : Option (Nat × Nat)) : Option (List AV) := match hG h o with
  | some x => match Nat.beq x.1 42 with | true => some x.2 | false => none
  | none => none
/-- a list's capacity behind one more element -/
def liC (cap n : Nat) : Nat := if n < cap then cap else if cap = 0 then 10 else cap + cap / 2
/-- what may be stored in a list: null, or an object -/
def okB (h : Hp) (v : Option (Nat × Nat)) : Bool := match hG h v with
  | some x => Nat.blt x.1 21
  | none => true
def prim (m : Nat) (a : List AV) (h : Hp) : Res := match m with
  | 400 => match a with
    | [.inr (.inr (.inr (.inr (some q))))] => match hG h (some q) with
      | some (21, [.inl 0, .inr (.inr (.inr (.inr none))), .inl 0]) => some (.inl none, hS h q (2000, []))
      | _ => none
    | _ => none
  | 401 => match a with
    | [.inr (.inr (.inr (.inr (some q)))), .inr (.inr (.inr (.inr v)))] => match liG h (some q) with
      | some (cap, xs) => if okB h v = false ∨ 30000 ≤ xs.length ∨ cap < xs.length then none else if xs.length < cap then some (.inl (some (aI 1)), hS h q (2000 + cap, xs ++ [aR v])) else some (.inl (some (aI 1)), hC (hS h q (2000 + liC cap xs.length, xs ++ [aR v])) 1 (liC cap xs.length))
      | none => none
    | _ => none
  | 402 => match a with
    | [.inr (.inr (.inr (.inr (some q)))), .inl i] => match liG h (some q) with
      | some (_, xs) => if i < 0 then none else (oR xs[i.toNatClampNeg]?).bind (fun v => some (.inl (some (aR v)), h))
      | none => none
    | _ => none
  | 403 => match a with
    | [.inr (.inr (.inr (.inr (some q)))), .inl i, .inr (.inr (.inr (.inr v)))] => match liG h (some q) with
      | some (cap, xs) => if okB h v = false ∨ i < 0 then none else (oR xs[i.toNatClampNeg]?).bind (fun w => some (.inl (some (aR w)), hS h q (2000 + cap, xs.set i.toNatClampNeg (aR v))))
      | none => none
    | _ => none
  | 404 => match a with
    | [.inr (.inr (.inr (.inr (some q)))), .inl i] => match liG h (some q) with
      | some (cap, xs) => if i < 0 then none else (oR xs[i.toNatClampNeg]?).bind (fun w => some (.inl (some (aR w)), hS h q (2000 + cap, xs.eraseIdx i.toNatClampNeg)))
      | none => none
    | _ => none
  | 405 => match a with
    | [.inr (.inr (.inr (.inr (some q))))] => match liG h (some q) with
      | some (_, xs) => some (.inl (some (aI (Int32.ofNat xs.length))), h)
      | none => none
    | _ => none
  | 406 => match a with
    | [.inr (.inr (.inr (.inr (some q))))] => match liG h (some q) with
      | some (_, xs) => some (.inl (some (aI (if xs.length = 0 then 1 else 0))), h)
      | none => none
    | _ => none
  | 407 => match a with
    | [.inr (.inr (.inr (.inr (some q))))] => match liG h (some q) with
      | some (cap, _) => some (.inl none, hS h q (2000 + cap, []))
      | none => none
    | _ => none
  | 410 => match a with
    | [.inr (.inr (.inr (.inr (some q))))] => match hG h (some q) with
      | some (22, [.inr (.inr (.inr (.inr none))), .inl 0, .inl 0, .inl 0]) => some (.inl none, hC (hS h q (1000016, [])) 1 16)
      | _ => none
    | _ => none
  | 411 => match a with
    | [.inr (.inr (.inr (.inr (some q)))), .inl c] => match sbG h (some q) with
      | some (cap, xs) => if c < 0 ∨ 255 < c ∨ 1000 ≤ xs.length ∨ cap < xs.length then none else if xs.length < cap then some (.inl (some (aR (some q))), hS h q (1000000 + cap, xs ++ [aI c])) else some (.inl (some (aR (some q))), hC (hS h q (1000000 + (2 * cap + 2), xs ++ [aI c])) 1 (2 * cap + 2))
      | none => none
    | _ => none
  | 412 => match a with
    | [.inr (.inr (.inr (.inr (some q))))] => match sbG h (some q) with
      | some (_, xs) => some (.inl (some (aI (Int32.ofNat xs.length))), h)
      | none => none
    | _ => none
  | 413 => match a with
    | [.inr (.inr (.inr (.inr (some q)))), .inl i] => match sbG h (some q) with
      | some (_, xs) => if i < 0 then none else (oI xs[i.toNatClampNeg]?).bind (fun v => some (.inl (some (aI v)), h))
      | none => none
    | _ => none
  | 414 => match a with
    | [.inr (.inr (.inr (.inr (some q)))), .inl 0] => match sbG h (some q) with
      | some (cap, _) => some (.inl none, hS h q (1000000 + cap, []))
      | none => none
    | _ => none
  | 415 => match a with
    | [.inr (.inr (.inr (.inr (some q))))] => match sgG h (some q) with
      | some xs => some (.inl (some (aI (Int32.ofNat xs.length))), h)
      | none => none
    | _ => none
  | 416 => match a with
    | [.inr (.inr (.inr (.inr (some q)))), .inl i] => match sgG h (some q) with
      | some xs => if i < 0 then none else (oI xs[i.toNatClampNeg]?).bind (fun v => some (.inl (some (aI v)), h))
      | none => none
    | _ => none
  | 420 => match a with
    | [.inr (.inr (.inr (.inr (some q))))] => match hG h (some q) with | some _ => some (.inl none, h) | none => none
    | _ => none
  | _ => none
/-! ===== the runs ===== -/
/-- the class of a method's receiver, and 1 more; 0: none -/
def rcT (m : Nat) : Nat := match Nat.blt m 319 with | true => (match Nat.blt m 159 with | true => (match Nat.blt m 79 with | true => (match Nat.blt m 39 with | true => (match Nat.blt m 19 with | true => (match Nat.blt m 9 with | true => (match Nat.blt m 4 with | true => (match Nat.blt m 2 with | true => (match Nat.blt m 1 with | true => 1 | false => 2) | false => 2) | false => 2) | false => (match Nat.blt m 14 with | true => (match Nat.blt m 11 with | true => 2 | false => (match Nat.blt m 12 with | true => 2 | false => (match Nat.blt m 13 with | true => 3 | false => 4))) | false => 4)) | false => (match Nat.blt m 29 with | true => (match Nat.blt m 24 with | true => (match Nat.blt m 21 with | true => (match Nat.blt m 20 with | true => 4 | false => 0) | false => 4) | false => (match Nat.blt m 26 with | true => (match Nat.blt m 25 with | true => 0 | false => 4) | false => (match Nat.blt m 27 with | true => 4 | false => (match Nat.blt m 28 with | true => 4 | false => 5)))) | false => (match Nat.blt m 34 with | true => 5 | false => (match Nat.blt m 36 with | true => 5 | false => 6)))) | false => (match Nat.blt m 59 with | true => (match Nat.blt m 49 with | true => (match Nat.blt m 44 with | true => (match Nat.blt m 41 with | true => (match Nat.blt m 40 with | true => 6 | false => 7) | false => (match Nat.blt m 42 with | true => 7 | false => 8)) | false => 8) | false => (match Nat.blt m 54 with | true => (match Nat.blt m 51 with | true => 8 | false => 9) | false => 9)) | false => (match Nat.blt m 69 with | true => (match Nat.blt m 64 with | true => (match Nat.blt m 61 with | true => 9 | false => (match Nat.blt m 62 with | true => 9 | false => (match Nat.blt m 63 with | true => 0 | false => 10))) | false => (match Nat.blt m 66 with | true => 10 | false => 11)) | false => (match Nat.blt m 74 with | true => 11 | false => (match Nat.blt m 76 with | true => 11 | false => 12))))) | false => (match Nat.blt m 119 with | true => 12 | false => (match Nat.blt m 139 with | true => 12 | false => (match Nat.blt m 149 with | true => (match Nat.blt m 144 with | true => (match Nat.blt m 141 with | true => 0 | false => (match Nat.blt m 142 with | true => 0 | false => (match Nat.blt m 143 with | true => 0 | false => 13))) | false => 13) | false => (match Nat.blt m 154 with | true => (match Nat.blt m 151 with | true => 13 | false => (match Nat.blt m 152 with | true => 13 | false => (match Nat.blt m 153 with | true => 13 | false => 14))) | false => (match Nat.blt m 156 with | true => 14 | false => (match Nat.blt m 157 with | true => 14 | false => 15))))))) | false => (match Nat.blt m 239 with | true => (match Nat.blt m 199 with | true => (match Nat.blt m 179 with | true => 15 | false => (match Nat.blt m 189 with | true => (match Nat.blt m 184 with | true => 15 | false => (match Nat.blt m 186 with | true => (match Nat.blt m 185 with | true => 15 | false => 16) | false => (match Nat.blt m 187 with | true => 0 | false => (match Nat.blt m 188 with | true => 0 | false => 17)))) | false => (match Nat.blt m 194 with | true => 17 | false => (match Nat.blt m 196 with | true => 17 | false => (match Nat.blt m 197 with | true => 17 | false => (match Nat.blt m 198 with | true => 17 | false => 0)))))) | false => (match Nat.blt m 219 with | true => (match Nat.blt m 209 with | true => 17 | false => (match Nat.blt m 214 with | true => 17 | false => (match Nat.blt m 216 with | true => (match Nat.blt m 215 with | true => 18 | false => 19) | false => 19))) | false => (match Nat.blt m 229 with | true => (match Nat.blt m 224 with | true => (match Nat.blt m 221 with | true => 19 | false => (match Nat.blt m 222 with | true => 19 | false => (match Nat.blt m 223 with | true => 19 | false => 20))) | false => (match Nat.blt m 226 with | true => (match Nat.blt m 225 with | true => 0 | false => 20) | false => 20)) | false => (match Nat.blt m 234 with | true => 20 | false => (match Nat.blt m 236 with | true => (match Nat.blt m 235 with | true => 20 | false => 0) | false => (match Nat.blt m 237 with | true => 0 | false => 20)))))) | false => (match Nat.blt m 279 with | true => (match Nat.blt m 259 with | true => (match Nat.blt m 249 with | true => (match Nat.blt m 244 with | true => 20 | false => (match Nat.blt m 246 with | true => 20 | false => (match Nat.blt m 247 with | true => 20 | false => (match Nat.blt m 248 with | true => 20 | false => 21)))) | false => (match Nat.blt m 254 with | true => (match Nat.blt m 251 with | true => (match Nat.blt m 250 with | true => 21 | false => 0) | false => 21) | false => 21)) | false => 21) | false => (match Nat.blt m 299 with | true => (match Nat.blt m 289 with | true => 21 | false => (match Nat.blt m 294 with | true => (match Nat.blt m 291 with | true => 21 | false => (match Nat.blt m 292 with | true => 21 | false => (match Nat.blt m 293 with | true => 21 | false => 0))) | false => 0)) | false => 0)))) | false => 0
/-- a method's room for locals -/
def alT (m : Nat) : Nat := match Nat.blt m 319 with | true => (match Nat.blt m 159 with | true => (match Nat.blt m 79 with | true => (match Nat.blt m 39 with | true => (match Nat.blt m 19 with | true => (match Nat.blt m 9 with | true => (match Nat.blt m 4 with | true => (match Nat.blt m 2 with | true => (match Nat.blt m 1 with | true => 2 | false => 4) | false => (match Nat.blt m 3 with | true => 7 | false => 3)) | false => (match Nat.blt m 6 with | true => 2 | false => (match Nat.blt m 7 with | true => 1 | false => (match Nat.blt m 8 with | true => 2 | false => 3)))) | false => (match Nat.blt m 14 with | true => (match Nat.blt m 11 with | true => 3 | false => (match Nat.blt m 12 with | true => 2 | false => (match Nat.blt m 13 with | true => 1 | false => 3))) | false => (match Nat.blt m 16 with | true => 2 | false => (match Nat.blt m 17 with | true => 2 | false => (match Nat.blt m 18 with | true => 3 | false => 4))))) | false => (match Nat.blt m 29 with | true => (match Nat.blt m 24 with | true => (match Nat.blt m 21 with | true => (match Nat.blt m 20 with | true => 6 | false => 3) | false => (match Nat.blt m 22 with | true => 4 | false => (match Nat.blt m 23 with | true => 7 | false => 3))) | false => (match Nat.blt m 26 with | true => (match Nat.blt m 25 with | true => 5 | false => 4) | false => (match Nat.blt m 27 with | true => 3 | false => (match Nat.blt m 28 with | true => 6 | false => 1)))) | false => (match Nat.blt m 34 with | true => (match Nat.blt m 31 with | true => (match Nat.blt m 30 with | true => 1 | false => 3) | false => (match Nat.blt m 32 with | true => 1 | false => (match Nat.blt m 33 with | true => 1 | false => 4))) | false => (match Nat.blt m 36 with | true => (match Nat.blt m 35 with | true => 3 | false => 2) | false => (match Nat.blt m 37 with | true => 2 | false => (match Nat.blt m 38 with | true => 6 | false => 2)))))) | false => (match Nat.blt m 59 with | true => (match Nat.blt m 49 with | true => (match Nat.blt m 44 with | true => (match Nat.blt m 41 with | true => (match Nat.blt m 40 with | true => 4 | false => 3) | false => (match Nat.blt m 42 with | true => 2 | false => (match Nat.blt m 43 with | true => 5 | false => 1))) | false => (match Nat.blt m 46 with | true => 1 | false => (match Nat.blt m 47 with | true => 1 | false => (match Nat.blt m 48 with | true => 3 | false => 1)))) | false => (match Nat.blt m 54 with | true => (match Nat.blt m 51 with | true => 2 | false => (match Nat.blt m 52 with | true => 1 | false => (match Nat.blt m 53 with | true => 3 | false => 1))) | false => (match Nat.blt m 56 with | true => (match Nat.blt m 55 with | true => 5 | false => 6) | false => (match Nat.blt m 57 with | true => 3 | false => 2)))) | false => (match Nat.blt m 69 with | true => (match Nat.blt m 64 with | true => (match Nat.blt m 61 with | true => 5 | false => (match Nat.blt m 62 with | true => 4 | false => 1)) | false => (match Nat.blt m 66 with | true => (match Nat.blt m 65 with | true => 3 | false => 4) | false => (match Nat.blt m 67 with | true => 5 | false => 2))) | false => (match Nat.blt m 74 with | true => (match Nat.blt m 71 with | true => 2 | false => 4) | false => (match Nat.blt m 76 with | true => (match Nat.blt m 75 with | true => 4 | false => 3) | false => (match Nat.blt m 77 with | true => 1 | false => (match Nat.blt m 78 with | true => 6 | false => 1))))))) | false => (match Nat.blt m 119 with | true => (match Nat.blt m 99 with | true => (match Nat.blt m 89 with | true => (match Nat.blt m 84 with | true => (match Nat.blt m 81 with | true => 3 | false => (match Nat.blt m 82 with | true => 3 | false => 2)) | false => (match Nat.blt m 86 with | true => (match Nat.blt m 85 with | true => 2 | false => 3) | false => (match Nat.blt m 87 with | true => 3 | false => (match Nat.blt m 88 with | true => 3 | false => 5)))) | false => (match Nat.blt m 94 with | true => (match Nat.blt m 91 with | true => (match Nat.blt m 90 with | true => 5 | false => 6) | false => (match Nat.blt m 92 with | true => 4 | false => 5)) | false => (match Nat.blt m 96 with | true => (match Nat.blt m 95 with | true => 5 | false => 6) | false => (match Nat.blt m 97 with | true => 10 | false => (match Nat.blt m 98 with | true => 2 | false => 6))))) | false => (match Nat.blt m 109 with | true => (match Nat.blt m 104 with | true => (match Nat.blt m 101 with | true => 4 | false => (match Nat.blt m 102 with | true => 6 | false => (match Nat.blt m 103 with | true => 5 | false => 4))) | false => (match Nat.blt m 106 with | true => 2 | false => (match Nat.blt m 107 with | true => 4 | false => (match Nat.blt m 108 with | true => 6 | false => 5)))) | false => (match Nat.blt m 114 with | true => (match Nat.blt m 111 with | true => (match Nat.blt m 110 with | true => 6 | false => 7) | false => (match Nat.blt m 112 with | true => 2 | false => (match Nat.blt m 113 with | true => 5 | false => 3))) | false => (match Nat.blt m 116 with | true => (match Nat.blt m 115 with | true => 3 | false => 4) | false => (match Nat.blt m 117 with | true => 2 | false => (match Nat.blt m 118 with | true => 4 | false => 3)))))) | false => (match Nat.blt m 139 with | true => (match Nat.blt m 129 with | true => (match Nat.blt m 124 with | true => (match Nat.blt m 121 with | true => (match Nat.blt m 120 with | true => 5 | false => 2) | false => (match Nat.blt m 122 with | true => 4 | false => (match Nat.blt m 123 with | true => 4 | false => 1))) | false => (match Nat.blt m 126 with | true => (match Nat.blt m 125 with | true => 5 | false => 4) | false => 4)) | false => (match Nat.blt m 134 with | true => (match Nat.blt m 131 with | true => (match Nat.blt m 130 with | true => 4 | false => 2) | false => (match Nat.blt m 132 with | true => 1 | false => (match Nat.blt m 133 with | true => 7 | false => 3))) | false => (match Nat.blt m 136 with | true => (match Nat.blt m 135 with | true => 5 | false => 2) | false => (match Nat.blt m 137 with | true => 2 | false => (match Nat.blt m 138 with | true => 2 | false => 4))))) | false => (match Nat.blt m 149 with | true => (match Nat.blt m 144 with | true => (match Nat.blt m 141 with | true => (match Nat.blt m 140 with | true => 3 | false => 2) | false => (match Nat.blt m 142 with | true => 4 | false => 1)) | false => (match Nat.blt m 146 with | true => 2 | false => (match Nat.blt m 147 with | true => 2 | false => 3))) | false => (match Nat.blt m 154 with | true => (match Nat.blt m 151 with | true => 4 | false => (match Nat.blt m 152 with | true => 7 | false => (match Nat.blt m 153 with | true => 4 | false => 1))) | false => (match Nat.blt m 156 with | true => (match Nat.blt m 155 with | true => 6 | false => 5) | false => (match Nat.blt m 157 with | true => 5 | false => (match Nat.blt m 158 with | true => 3 | false => 2)))))))) | false => (match Nat.blt m 239 with | true => (match Nat.blt m 199 with | true => (match Nat.blt m 179 with | true => (match Nat.blt m 169 with | true => (match Nat.blt m 164 with | true => (match Nat.blt m 161 with | true => (match Nat.blt m 160 with | true => 2 | false => 7) | false => (match Nat.blt m 162 with | true => 4 | false => (match Nat.blt m 163 with | true => 5 | false => 4))) | false => (match Nat.blt m 166 with | true => 4 | false => (match Nat.blt m 167 with | true => 2 | false => (match Nat.blt m 168 with | true => 8 | false => 9)))) | false => (match Nat.blt m 174 with | true => (match Nat.blt m 171 with | true => (match Nat.blt m 170 with | true => 8 | false => 3) | false => (match Nat.blt m 172 with | true => 10 | false => (match Nat.blt m 173 with | true => 5 | false => 6))) | false => (match Nat.blt m 176 with | true => (match Nat.blt m 175 with | true => 6 | false => 5) | false => (match Nat.blt m 177 with | true => 3 | false => (match Nat.blt m 178 with | true => 4 | false => 5))))) | false => (match Nat.blt m 189 with | true => (match Nat.blt m 184 with | true => (match Nat.blt m 181 with | true => (match Nat.blt m 180 with | true => 2 | false => 3) | false => (match Nat.blt m 182 with | true => 3 | false => (match Nat.blt m 183 with | true => 3 | false => 5))) | false => (match Nat.blt m 186 with | true => (match Nat.blt m 185 with | true => 3 | false => 1) | false => (match Nat.blt m 187 with | true => 4 | false => (match Nat.blt m 188 with | true => 4 | false => 3)))) | false => (match Nat.blt m 194 with | true => (match Nat.blt m 191 with | true => (match Nat.blt m 190 with | true => 3 | false => 1) | false => (match Nat.blt m 192 with | true => 2 | false => (match Nat.blt m 193 with | true => 2 | false => 3))) | false => (match Nat.blt m 196 with | true => (match Nat.blt m 195 with | true => 3 | false => 4) | false => (match Nat.blt m 197 with | true => 7 | false => (match Nat.blt m 198 with | true => 3 | false => 7)))))) | false => (match Nat.blt m 219 with | true => (match Nat.blt m 209 with | true => (match Nat.blt m 204 with | true => (match Nat.blt m 201 with | true => 5 | false => (match Nat.blt m 202 with | true => 5 | false => (match Nat.blt m 203 with | true => 5 | false => 6))) | false => (match Nat.blt m 206 with | true => (match Nat.blt m 205 with | true => 5 | false => 3) | false => (match Nat.blt m 207 with | true => 4 | false => (match Nat.blt m 208 with | true => 3 | false => 5)))) | false => (match Nat.blt m 214 with | true => (match Nat.blt m 211 with | true => (match Nat.blt m 210 with | true => 3 | false => 8) | false => (match Nat.blt m 212 with | true => 3 | false => (match Nat.blt m 213 with | true => 3 | false => 2))) | false => (match Nat.blt m 216 with | true => (match Nat.blt m 215 with | true => 3 | false => 1) | false => (match Nat.blt m 217 with | true => 4 | false => (match Nat.blt m 218 with | true => 4 | false => 1))))) | false => (match Nat.blt m 229 with | true => (match Nat.blt m 224 with | true => (match Nat.blt m 221 with | true => (match Nat.blt m 220 with | true => 2 | false => 1) | false => (match Nat.blt m 222 with | true => 3 | false => 2)) | false => (match Nat.blt m 226 with | true => (match Nat.blt m 225 with | true => 3 | false => 4) | false => (match Nat.blt m 227 with | true => 3 | false => 4))) | false => (match Nat.blt m 234 with | true => (match Nat.blt m 231 with | true => (match Nat.blt m 230 with | true => 3 | false => 4) | false => (match Nat.blt m 232 with | true => 6 | false => (match Nat.blt m 233 with | true => 3 | false => 2))) | false => (match Nat.blt m 236 with | true => (match Nat.blt m 235 with | true => 2 | false => 3) | false => (match Nat.blt m 237 with | true => 6 | false => (match Nat.blt m 238 with | true => 3 | false => 2))))))) | false => (match Nat.blt m 279 with | true => (match Nat.blt m 259 with | true => (match Nat.blt m 249 with | true => (match Nat.blt m 244 with | true => (match Nat.blt m 241 with | true => (match Nat.blt m 240 with | true => 5 | false => 4) | false => (match Nat.blt m 242 with | true => 3 | false => (match Nat.blt m 243 with | true => 8 | false => 3))) | false => (match Nat.blt m 246 with | true => (match Nat.blt m 245 with | true => 9 | false => 4) | false => (match Nat.blt m 247 with | true => 3 | false => (match Nat.blt m 248 with | true => 3 | false => 1)))) | false => (match Nat.blt m 254 with | true => (match Nat.blt m 251 with | true => (match Nat.blt m 250 with | true => 1 | false => 3) | false => 2) | false => (match Nat.blt m 256 with | true => 2 | false => (match Nat.blt m 257 with | true => 2 | false => (match Nat.blt m 258 with | true => 2 | false => 7))))) | false => (match Nat.blt m 269 with | true => (match Nat.blt m 264 with | true => (match Nat.blt m 261 with | true => (match Nat.blt m 260 with | true => 1 | false => 4) | false => (match Nat.blt m 262 with | true => 8 | false => (match Nat.blt m 263 with | true => 2 | false => 4))) | false => (match Nat.blt m 266 with | true => 5 | false => (match Nat.blt m 267 with | true => 5 | false => (match Nat.blt m 268 with | true => 2 | false => 4)))) | false => (match Nat.blt m 274 with | true => (match Nat.blt m 271 with | true => (match Nat.blt m 270 with | true => 4 | false => 2) | false => (match Nat.blt m 272 with | true => 3 | false => (match Nat.blt m 273 with | true => 5 | false => 2))) | false => (match Nat.blt m 276 with | true => 3 | false => (match Nat.blt m 277 with | true => 4 | false => (match Nat.blt m 278 with | true => 2 | false => 1)))))) | false => (match Nat.blt m 299 with | true => (match Nat.blt m 289 with | true => (match Nat.blt m 284 with | true => (match Nat.blt m 281 with | true => 3 | false => (match Nat.blt m 282 with | true => 3 | false => (match Nat.blt m 283 with | true => 3 | false => 4))) | false => (match Nat.blt m 286 with | true => (match Nat.blt m 285 with | true => 3 | false => 2) | false => (match Nat.blt m 287 with | true => 1 | false => (match Nat.blt m 288 with | true => 3 | false => 6)))) | false => (match Nat.blt m 294 with | true => (match Nat.blt m 291 with | true => (match Nat.blt m 290 with | true => 3 | false => 4) | false => (match Nat.blt m 292 with | true => 3 | false => (match Nat.blt m 293 with | true => 2 | false => 5))) | false => (match Nat.blt m 296 with | true => (match Nat.blt m 295 with | true => 3 | false => 4) | false => (match Nat.blt m 297 with | true => 5 | false => (match Nat.blt m 298 with | true => 7 | false => 6))))) | false => (match Nat.blt m 309 with | true => (match Nat.blt m 304 with | true => (match Nat.blt m 301 with | true => (match Nat.blt m 300 with | true => 7 | false => 4) | false => (match Nat.blt m 302 with | true => 6 | false => (match Nat.blt m 303 with | true => 6 | false => 4))) | false => (match Nat.blt m 306 with | true => (match Nat.blt m 305 with | true => 7 | false => 5) | false => (match Nat.blt m 307 with | true => 4 | false => (match Nat.blt m 308 with | true => 5 | false => 4)))) | false => (match Nat.blt m 314 with | true => 5 | false => (match Nat.blt m 316 with | true => 4 | false => (match Nat.blt m 317 with | true => 10 | false => (match Nat.blt m 318 with | true => 1 | false => 4))))))))) | false => (match Nat.blt m 326 with | true => (match Nat.blt m 322 with | true => (match Nat.blt m 320 with | true => 1 | false => (match Nat.blt m 321 with | true => 3 | false => 7)) | false => (match Nat.blt m 324 with | true => (match Nat.blt m 323 with | true => 5 | false => 1) | false => (match Nat.blt m 325 with | true => 3 | false => 5))) | false => (match Nat.blt m 330 with | true => (match Nat.blt m 328 with | true => (match Nat.blt m 327 with | true => 3 | false => 11) | false => (match Nat.blt m 329 with | true => 15 | false => 10)) | false => (match Nat.blt m 332 with | true => (match Nat.blt m 331 with | true => 9 | false => 8) | false => (match Nat.blt m 333 with | true => 6 | false => 3))))
/-- do the arguments fit; is there a receiver, and is it of the method's class -/
def rcv (m : Nat) (a : List AV) (h : Hp) : Bool := Nat.ble (stS a) (alT m) && (match rcT m with
  | 0 => true
  | c + 1 => match a with
    | .inr (.inr (.inr (.inr o))) :: _ => match hG h o with | some x => Nat.beq x.1 c | none => false
    | _ => false)
/-- Math.min of longs (method 318) -/
def minP (a : List AV) (h : Hp) : Res := match a with
  | [.inr (.inl x), .inr (.inl y)] => some (.inl (some (aL (if y < x then y else x))), h)
  | _ => none
def call (R : Nat → KT) : CT := fun m a h => match Nat.ble 400 m with | true => prim m a h | false => (match Nat.beq m 318 with | true => minP a h | false => (match rcv m a h with | true => R m 0 (mkL 0 a) [] h | false => none))
noncomputable def stepK (R : Nat → KT) (m : Nat) : KT := fun pc L st h => match rowAt pc (codeT m) with
  | some (_, ins, np, a, b, ts) => F (kc (cutT m) (R m) (R m)) (call R) (xc (hdlT m) (kc (cutT m) (R m) (R m)) pc L) ins np a b ts L st h
  | none => none
noncomputable def run (n : Nat) : Nat → KT := Nat.rec (motive := fun _ => Nat → KT) (fun _ _ _ _ _ => none) (fun _ ih => stepK ih) n
theorem run_0 : run 0 = fun _ _ _ _ _ => none := rfl
theorem run_s (n : Nat) : run (n + 1) = stepK (run n) := rfl
/-- what a run comes to, however long it takes -/
noncomputable def Ru (m : Nat) : KT := fun pc L st h => @dite _ (∃ r n, run n m pc L st h = some r) (Classical.propDecidable _) (fun p => some (Classical.choose p)) (fun _ => none)
noncomputable def Ex : CT := call Ru
/-- less defined -/
def leR (a b : Res) : Prop := ∀ r, a = some r → b = some r
/-- comes to, at some place of a row, for good -/
def ctn (a : Res) (f : Nat → Res) : Prop := ∀ r, a = some r → ∃ n, ∀ k, n ≤ k → f k = some r
theorem leR_r (a : Res) : leR a a := fun _ h => h
theorem leR_n (a : Res) : leR none a := fun _ h => nomatch h
theorem leR_bind {α : Type} (o : Option α) {f g : α → Res} (h : ∀ x, leR (f x) (g x)) : leR (o.bind f) (o.bind g) := by
  cases o with
  | none => exact leR_r _
  | some x => exact h x
theorem leR_gz (x : Int32) {a b : Res} (h : leR a b) : leR (gz x a) (gz x b) := by
  unfold gz; split
  · exact h
  · exact leR_r _
theorem leR_acc (o : Option (Nat × Nat)) (c : Nat) (hh : Hp) {a b : Res} (h : leR a b) : leR (acc o c hh a) (acc o c hh b) := by
  unfold acc; split
  · exact h
  · split
    · split
      · exact h
      · exact leR_r _
    · exact leR_r _
theorem leR_aq (h0 : Hp) (x y : Option (Nat × Nat)) {a b : Res} (h : leR a b) : leR (aq h0 x y a) (aq h0 x y b) := by
  unfold aq; split
  · exact h
  · exact leR_r _
theorem leR_swT (x : Int) {k k' : Nat → Res} (h : ∀ q, leR (k q) (k' q)) (d : Nat) (l : List Nat) : ∀ lo : Int, leR (swT x lo k d l) (swT x lo k' d l) := by
  induction l with
  | nil => exact fun lo => h d
  | cons t l ih =>
    intro lo
    show leR (if x = lo then k t else swT x (lo + 1) k d l) (if x = lo then k' t else swT x (lo + 1) k' d l)
    split
    · exact h t
    · exact ih _
theorem leR_cI {a b : Res} {k k' : Int32 → Hp → Res} {x x' : XT} (h : leR a b) (hk : ∀ v h, leR (k v h) (k' v h)) (hx : ∀ e h, leR (x e h) (x' e h)) : leR (cI a k x) (cI b k' x') := by
  cases a with
  | none => exact leR_n _
  | some r =>
    rw [h r rfl]
    unfold cI
    split
    · exact hk _ _
    · exact hx _ _
    · exact leR_r _
theorem leR_cL {a b : Res} {k k' : Int64 → Hp → Res} {x x' : XT} (h : leR a b) (hk : ∀ v h, leR (k v h) (k' v h)) (hx : ∀ e h, leR (x e h) (x' e h)) : leR (cL a k x) (cL b k' x') := by
  cases a with
  | none => exact leR_n _
  | some r =>
    rw [h r rfl]
    unfold cL
    split
    · exact hk _ _
    · exact hx _ _
    · exact leR_r _
theorem leR_cF {a b : Res} {k k' : UInt32 → Hp → Res} {x x' : XT} (h : leR a b) (hk : ∀ v h, leR (k v h) (k' v h)) (hx : ∀ e h, leR (x e h) (x' e h)) : leR (cF a k x) (cF b k' x') := by
  cases a with
  | none => exact leR_n _
  | some r =>
    rw [h r rfl]
    unfold cF
    split
    · exact hk _ _
    · exact hx _ _
    · exact leR_r _
theorem leR_cD {a b : Res} {k k' : UInt64 → Hp → Res} {x x' : XT} (h : leR a b) (hk : ∀ v h, leR (k v h) (k' v h)) (hx : ∀ e h, leR (x e h) (x' e h)) : leR (cD a k x) (cD b k' x') := by
  cases a with
  | none => exact leR_n _
  | some r =>
    rw [h r rfl]
    unfold cD
    split
    · exact hk _ _
    · exact hx _ _
    · exact leR_r _
theorem leR_cR {a b : Res} {k k' : Option (Nat × Nat) → Hp → Res} {x x' : XT} (h : leR a b) (hk : ∀ v h, leR (k v h) (k' v h)) (hx : ∀ e h, leR (x e h) (x' e h)) : leR (cR a k x) (cR b k' x') := by
  cases a with
  | none => exact leR_n _
  | some r =>
    rw [h r rfl]
    unfold cR
    split
    · exact hk _ _
    · exact hx _ _
    · exact leR_r _
theorem leR_cV {a b : Res} {k k' : Hp → Res} {x x' : XT} (h : leR a b) (hk : ∀ h, leR (k h) (k' h)) (hx : ∀ e h, leR (x e h) (x' e h)) : leR (cV a k x) (cV b k' x') := by
  cases a with
  | none => exact leR_n _
  | some r =>
    rw [h r rfl]
    unfold cV
    split
    · exact hk _
    · exact hx _ _
    · exact leR_r _
set_option maxHeartbeats 4000000 in
theorem F_mono {K K' : KT} {C C' : CT} {X X' : XT} (hK : ∀ pc L st h, leR (K pc L st h) (K' pc L st h)) (hC : ∀ m a h, leR (C m a h) (C' m a h)) (hX : ∀ e h, leR (X e h) (X' e h))
    (ins : Instr) (np a b : Nat) (ts : List Nat) (L : LV) (st : List AV) (h : Hp) : leR (F K C X ins np a b ts L st h) (F K' C' X' ins np a b ts L st h) := by
  cases ins <;> unfold F <;> dsimp only <;> repeat' (first | with_reducible exact leR_n _ | with_reducible exact hK _ _ _ _ | with_reducible exact hX _ _ | with_reducible refine leR_bind _ (fun _ => ?_) | with_reducible refine leR_gz _ ?_ | with_reducible refine leR_acc _ _ _ ?_ | with_reducible refine leR_aq _ _ _ ?_ | with_reducible refine leR_swT _ (fun _ => ?_) _ _ _ | with_reducible refine leR_cI (hC _ _ _) (fun _ _ => ?_) (fun _ _ => hX _ _) | with_reducible refine leR_cL (hC _ _ _) (fun _ _ => ?_) (fun _ _ => hX _ _) | with_reducible refine leR_cF (hC _ _ _) (fun _ _ => ?_) (fun _ _ => hX _ _) | with_reducible refine leR_cD (hC _ _ _) (fun _ _ => ?_) (fun _ _ => hX _ _) | with_reducible refine leR_cR (hC _ _ _) (fun _ _ => ?_) (fun _ _ => hX _ _) | with_reducible refine leR_cV (hC _ _ _) (fun _ => ?_) (fun _ _ => hX _ _) | with_reducible exact leR_r _ | split)
theorem ctn_r (a : Res) : ctn a (fun _ => a) := fun _ h => ⟨0, fun _ _ => h⟩
theorem ctn_n (f : Nat → Res) : ctn none f := fun _ h => nomatch h
theorem ctn_bind {α : Type} (o : Option α) {f : α → Res} {g : Nat → α → Res} (h : ∀ x, ctn (f x) (fun n => g n x)) : ctn (o.bind f) (fun n => o.bind (g n)) := by
  cases o with
  | none => exact ctn_n _
  | some x => exact h x
theorem ctn_gz (x : Int32) {a : Res} {f : Nat → Res} (h : ctn a f) : ctn (gz x a) (fun n => gz x (f n)) := by
  unfold gz; cases bitOk x
  · exact ctn_n _
  · exact h
theorem ctn_acc (o : Option (Nat × Nat)) (c : Nat) (hh : Hp) {a : Res} {f : Nat → Res} (h : ctn a f) : ctn (acc o c hh a) (fun n => acc o c hh (f n)) := by
  unfold acc
  cases o with
  | none => exact h
  | some q =>
    dsimp only
    cases hG hh (some q) with
    | none => exact ctn_n _
    | some x =>
      dsimp only
      cases Nat.beq x.1 c
      · exact ctn_n _
      · exact h
theorem ctn_aq (h0 : Hp) (x y : Option (Nat × Nat)) {a : Res} {f : Nat → Res} (h : ctn a f) : ctn (aq h0 x y a) (fun n => aq h0 x y (f n)) := by
  unfold aq; cases okx h0 x && okx h0 y
  · exact ctn_n _
  · exact h
theorem ctn_swT (x : Int) {k : Nat → Res} {k' : Nat → Nat → Res} (h : ∀ q, ctn (k q) (fun n => k' n q)) (d : Nat) (l : List Nat) : ∀ lo : Int, ctn (swT x lo k d l) (fun n => swT x lo (k' n) d l) := by
  induction l with
  | nil => exact fun lo => h d
  | cons t l ih =>
    intro lo
    show ctn (if x = lo then k t else swT x (lo + 1) k d l) (fun n => if x = lo then k' n t else swT x (lo + 1) (k' n) d l)
    by_cases c : x = lo
    · simp only [c, if_true]
      exact h t
    · simp only [c, if_false]
      exact ih _
theorem ctn_ite {p : Prop} [Decidable p] {a b : Res} {f g : Nat → Res} (h1 : ctn a f) (h2 : ctn b g) : ctn (if p then a else b) (fun n => if p then f n else g n) := by
  by_cases c : p
  · simp only [c, if_true]
    exact h1
  · simp only [c, if_false]
    exact h2
theorem ctn_cI {a : Res} {fa : Nat → Res} {k : Int32 → Hp → Res} {k' : Nat → Int32 → Hp → Res} {x : XT} {x' : Nat → XT} (h : ctn a fa) (hk : ∀ v h, ctn (k v h) (fun n => k' n v h)) (hx : ∀ e h, ctn (x e h) (fun n => x' n e h)) : ctn (cI a k x) (fun n => cI (fa n) (k' n) (x' n)) := by
  cases a with
  | none => exact ctn_n _
  | some r =>
    obtain ⟨n1, h1⟩ := h r rfl
    have key : ctn (cI (some r) k x) (fun n => cI (some r) (k' n) (x' n)) := by
      unfold cI
      rcases r with ⟨(_ | (_ | _ | _ | _ | _)) | _, _⟩ <;> first | exact hk _ _ | exact hx _ _ | exact ctn_n _
    intro q hq
    obtain ⟨n2, h2⟩ := key q hq
    exact ⟨n1 + n2, fun k hk => by dsimp only; rw [h1 k (by omega)]; exact h2 k (by omega)⟩
theorem ctn_cL {a : Res} {fa : Nat → Res} {k : Int64 → Hp → Res} {k' : Nat → Int64 → Hp → Res} {x : XT} {x' : Nat → XT} (h : ctn a fa) (hk : ∀ v h, ctn (k v h) (fun n => k' n v h)) (hx : ∀ e h, ctn (x e h) (fun n => x' n e h)) : ctn (cL a k x) (fun n => cL (fa n) (k' n) (x' n)) := by
  cases a with
  | none => exact ctn_n _
  | some r =>
    obtain ⟨n1, h1⟩ := h r rfl
    have key : ctn (cL (some r) k x) (fun n => cL (some r) (k' n) (x' n)) := by
      unfold cL
      rcases r with ⟨(_ | (_ | _ | _ | _ | _)) | _, _⟩ <;> first | exact hk _ _ | exact hx _ _ | exact ctn_n _
    intro q hq
    obtain ⟨n2, h2⟩ := key q hq
    exact ⟨n1 + n2, fun k hk => by dsimp only; rw [h1 k (by omega)]; exact h2 k (by omega)⟩
theorem ctn_cF {a : Res} {fa : Nat → Res} {k : UInt32 → Hp → Res} {k' : Nat → UInt32 → Hp → Res} {x : XT} {x' : Nat → XT} (h : ctn a fa) (hk : ∀ v h, ctn (k v h) (fun n => k' n v h)) (hx : ∀ e h, ctn (x e h) (fun n => x' n e h)) : ctn (cF a k x) (fun n => cF (fa n) (k' n) (x' n)) := by
  cases a with
  | none => exact ctn_n _
  | some r =>
    obtain ⟨n1, h1⟩ := h r rfl
    have key : ctn (cF (some r) k x) (fun n => cF (some r) (k' n) (x' n)) := by
      unfold cF
      rcases r with ⟨(_ | (_ | _ | _ | _ | _)) | _, _⟩ <;> first | exact hk _ _ | exact hx _ _ | exact ctn_n _
    intro q hq
    obtain ⟨n2, h2⟩ := key q hq
    exact ⟨n1 + n2, fun k hk => by dsimp only; rw [h1 k (by omega)]; exact h2 k (by omega)⟩
theorem ctn_cD {a : Res} {fa : Nat → Res} {k : UInt64 → Hp → Res} {k' : Nat → UInt64 → Hp → Res} {x : XT} {x' : Nat → XT} (h : ctn a fa) (hk : ∀ v h, ctn (k v h) (fun n => k' n v h)) (hx : ∀ e h, ctn (x e h) (fun n => x' n e h)) : ctn (cD a k x) (fun n => cD (fa n) (k' n) (x' n)) := by
  cases a with
  | none => exact ctn_n _
  | some r =>
    obtain ⟨n1, h1⟩ := h r rfl
    have key : ctn (cD (some r) k x) (fun n => cD (some r) (k' n) (x' n)) := by
      unfold cD
      rcases r with ⟨(_ | (_ | _ | _ | _ | _)) | _, _⟩ <;> first | exact hk _ _ | exact hx _ _ | exact ctn_n _
    intro q hq
    obtain ⟨n2, h2⟩ := key q hq
    exact ⟨n1 + n2, fun k hk => by dsimp only; rw [h1 k (by omega)]; exact h2 k (by omega)⟩
theorem ctn_cR {a : Res} {fa : Nat → Res} {k : Option (Nat × Nat) → Hp → Res} {k' : Nat → Option (Nat × Nat) → Hp → Res} {x : XT} {x' : Nat → XT} (h : ctn a fa) (hk : ∀ v h, ctn (k v h) (fun n => k' n v h)) (hx : ∀ e h, ctn (x e h) (fun n => x' n e h)) : ctn (cR a k x) (fun n => cR (fa n) (k' n) (x' n)) := by
  cases a with
  | none => exact ctn_n _
  | some r =>
    obtain ⟨n1, h1⟩ := h r rfl
    have key : ctn (cR (some r) k x) (fun n => cR (some r) (k' n) (x' n)) := by
      unfold cR
      rcases r with ⟨(_ | (_ | _ | _ | _ | _)) | _, _⟩ <;> first | exact hk _ _ | exact hx _ _ | exact ctn_n _
    intro q hq
    obtain ⟨n2, h2⟩ := key q hq
    exact ⟨n1 + n2, fun k hk => by dsimp only; rw [h1 k (by omega)]; exact h2 k (by omega)⟩
theorem ctn_cV {a : Res} {fa : Nat → Res} {k : Hp → Res} {k' : Nat → Hp → Res} {x : XT} {x' : Nat → XT} (h : ctn a fa) (hk : ∀ h, ctn (k h) (fun n => k' n h)) (hx : ∀ e h, ctn (x e h) (fun n => x' n e h)) : ctn (cV a k x) (fun n => cV (fa n) (k' n) (x' n)) := by
  cases a with
  | none => exact ctn_n _
  | some r =>
    obtain ⟨n1, h1⟩ := h r rfl
    have key : ctn (cV (some r) k x) (fun n => cV (some r) (k' n) (x' n)) := by
      unfold cV
      rcases r with ⟨(_ | (_ | _ | _ | _ | _)) | _, _⟩ <;> first | exact hk _ | exact hx _ _ | exact ctn_n _
    intro q hq
    obtain ⟨n2, h2⟩ := key q hq
    exact ⟨n1 + n2, fun k hk => by dsimp only; rw [h1 k (by omega)]; exact h2 k (by omega)⟩
set_option maxHeartbeats 4000000 in
theorem F_ctn {K : KT} {K' : Nat → KT} {C : CT} {C' : Nat → CT} {X : XT} {X' : Nat → XT} (hK : ∀ pc L st h, ctn (K pc L st h) (fun n => K' n pc L st h)) (hC : ∀ m a h, ctn (C m a h) (fun n => C' n m a h)) (hX : ∀ e h, ctn (X e h) (fun n => X' n e h))
    (ins : Instr) (np a b : Nat) (ts : List Nat) (L : LV) (st : List AV) (h : Hp) : ctn (F K C X ins np a b ts L st h) (fun n => F (K' n) (C' n) (X' n) ins np a b ts L st h) := by
  cases ins <;> unfold F <;> dsimp only <;> repeat' (first | with_reducible exact ctn_n _ | with_reducible exact hK _ _ _ _ | with_reducible exact hX _ _ | with_reducible refine ctn_bind _ (fun _ => ?_) | with_reducible refine ctn_gz _ ?_ | with_reducible refine ctn_acc _ _ _ ?_ | with_reducible refine ctn_aq _ _ _ ?_ | with_reducible refine ctn_swT _ (fun _ => ?_) _ _ _ | with_reducible refine ctn_cI (hC _ _ _) (fun _ _ => ?_) (fun _ _ => hX _ _) | with_reducible refine ctn_cL (hC _ _ _) (fun _ _ => ?_) (fun _ _ => hX _ _) | with_reducible refine ctn_cF (hC _ _ _) (fun _ _ => ?_) (fun _ _ => hX _ _) | with_reducible refine ctn_cD (hC _ _ _) (fun _ _ => ?_) (fun _ _ => hX _ _) | with_reducible refine ctn_cR (hC _ _ _) (fun _ _ => ?_) (fun _ _ => hX _ _) | with_reducible refine ctn_cV (hC _ _ _) (fun _ => ?_) (fun _ _ => hX _ _) | with_reducible exact ctn_r _ | with_reducible refine ctn_ite ?_ ?_ | split)
