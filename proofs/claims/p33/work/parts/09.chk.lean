/-! ===== the rows of the code are the class files', and their links are the tables' ===== -/
def ilen (ins : Instr) : Nat := match ins with
  | .iload _ => 2 | .lload _ => 2 | .dload _ => 2 | .aload _ => 2 | .istore _ => 2 | .lstore _ => 2 | .dstore _ => 2 | .astore _ => 2
  | .bipush _ => 2 | .sipush _ => 3 | .ldc _ => 2 | .ldc_w _ => 3 | .ldc2_w _ => 3 | .iinc _ _ => 3
  | .goto _ => 3 | .ifCond _ _ => 3 | .if_icmp _ _ => 3 | .if_acmp _ _ => 3 | .ifnull _ => 3 | .ifnonnull _ => 3
  | .getfield _ => 3 | .putfield _ => 3 | .getstatic _ => 3 | .invokevirtual _ => 3 | .invokespecial _ => 3 | .invokestatic _ => 3 | .invokeinterface _ _ => 5
  | .new _ => 3 | .newarray _ => 2 | .anewarray _ => 3 | .checkcast _ => 3 | .multianewarray _ _ => 4
  | _ => 1
def tgF (d : String) : Nat := if d = "I" ∨ d = "Z" ∨ d = "B" ∨ d = "C" then 0 else if d = "J" then 1 else if d = "F" then 2 else if d = "D" then 3 else 4
def tgR (t : Option FieldType) : Nat := match t with
  | none => 9
  | some .long => 1
  | some .float => 2
  | some .double => 3
  | some (.object _) => 4
  | some (.array _) => 4
  | _ => 0
def fldOk (c idx a b : Nat) : Bool := (fldE c).any (fun e => Nat.beq e.1 idx && Nat.beq e.2.1 a && Nat.beq e.2.2.1 b)
def mthOk (c idx a : Nat) : Bool := (mthE c).any (fun e => Nat.beq e.1 idx && Nat.beq e.2.1 a)
def clsOk (c idx a : Nat) : Bool := (clsE c).any (fun e => Nat.beq e.1 idx && Nat.beq e.2.1 a)
def akd (t : ArrayType) : Nat := match t with | .int => 1000 | .boolean => 1002 | .byte => 1003 | _ => 0
/-- how many arguments a method takes from the stack -/
def nargs (m : Nat) : Nat := ((parseMethodDescriptor (yT m).desc).map (fun d => d.parameters.length)).getD 0 + (match kdT m with | 1 => 0 | 3 => 0 | _ => 1)
def calOk (m idx a b : Nat) (ts : List Nat) (k : Nat) : Bool := mthOk (ownC m) idx a && Nat.blt (rkT a) (rkT m) && Nat.beq (nargs a) b && decide (ts = [tgR (rT a)]) && Nat.beq (kdT a) k && Nat.ble (lcT a + mlT a + 19) (lcT m) && List.elem a calA && List.elem a calB && (match k with | 0 => List.elem a calC | _ => true) && decide ((yT a).cls = ownS (ownC a))
def cstW : List Cond := [.constant RL 7 (1103515245), .constant RX11 219 (9000000), .constant RX11 228 (50000), .constant RX11 234 (100000), .constantLong RX1 60 (37), .constantLong RX1 62 (11), .constantLong RX1 64 (999983), .constant RJ6 265 (1431655765), .constant RJ6 266 (858993459), .constant RJ6 267 (252645135), .constant RL 86 (-1000000001), .constant RL 89 (-1000000002), .constant RL 92 (-1000000003), .constant RL 101 (90000), .constantLong RL 106 (271), .constantLong RL 108 (7919), .constantLong RL 110 (4242), .constantLong RL 112 (9973), .constant RL 139 (60000), .constantLong RX11 448 (10000), .constantLong RL 114 (37), .constantLong RL 116 (11), .constantLong RL 118 (999983), .constant RL 172 (59441)]
def excE : List (Nat × Nat × Nat) := [(142, 5, 32), (142, 18, 30), (142, 31, 31)]
/-- arrays of references that are made: class, place in the pool, kind -/
def anwE : List (Nat × Nat × Nat) := [(3, 9, 1015)]
def ifcE : List (Nat × Nat × Nat × Nat × List Nat) := []
/-- string constants: class, place in the pool, number -/
def strE : List (Nat × Nat × Nat) := [(8, 68, 10), (8, 82, 11), (8, 84, 12), (8, 86, 13), (8, 88, 14), (8, 90, 15), (8, 92, 16), (8, 94, 17), (8, 96, 18), (8, 98, 19), (8, 100, 20), (8, 102, 21), (8, 104, 22), (8, 106, 23), (8, 108, 24), (8, 110, 25), (8, 112, 26)]
def lnk (m pc : Nat) (ins : Instr) (np a b : Nat) (ts : List Nat) : Bool := match ins with
  | .istore i => Nat.blt i (mlT m) | .astore i => Nat.blt i (mlT m) | .lstore i => Nat.blt (i + 1) (mlT m) | .dstore i => Nat.blt (i + 1) (mlT m)
  | .istore_n i => Nat.blt i.val (mlT m) | .astore_n i => Nat.blt i.val (mlT m) | .lstore_n i => Nat.blt (i.val + 1) (mlT m)
  | .iinc i _ => Nat.blt i (mlT m)
  | .goto off => decide ((pc : Int) + off = a) | .ifCond _ off => decide ((pc : Int) + off = a) | .if_icmp _ off => decide ((pc : Int) + off = a) | .if_acmp _ off => decide ((pc : Int) + off = a) | .ifnull off => decide ((pc : Int) + off = a) | .ifnonnull off => decide ((pc : Int) + off = a)
  | .tableswitch d lo hi offs => decide ((pc : Int) + d = a) && decide (hi = lo + ts.length - 1) && decide (offs.toList.map (fun x => (pc : Int) + x) = ts.map (fun (x : Nat) => (x : Int))) && Nat.blt 0 ts.length
  | .getfield idx => fldOk (ownC m) idx a b && decide (ts = [tgF ((cAt a).2.1 b).2.2.1])
  | .putfield idx => fldOk (ownC m) idx a b && (if ((cAt a).2.1 b).2.2.1 = "Z" then decide (ts = [5]) else decide (ts = [tgF ((cAt a).2.1 b).2.2.1])) && decide (((cAt a).2.1 b).2.2.2 = false ∨ (kdT m = 2 ∧ ((cAt a).2.1 b).1 = ownS (ownC m)))
  | .getstatic idx => decide (ts = [0] ∧ a = 1 ∧ (ownC m, idx) ∈ [(8, 52)])
  | .ldc idx => decide (ts = [1]) && decide ((ownC m, idx, a) ∈ strE) || decide (ts = [0]) && decide (Cond.constant (ownS (ownC m)) idx (Int32.ofNat a) ∈ cstW)
  | .ldc_w idx => decide (ts = [0]) && decide (Cond.constant (ownS (ownC m)) idx (Int32.ofNat a) ∈ cstW)
  | .ldc2_w idx => decide (Cond.constantLong (ownS (ownC m)) idx (Int64.ofNat a) ∈ cstW)
  | .new idx => Nat.blt 0 b && Nat.blt b 300 && (match ts with
    | 9 :: _ => Nat.blt 29 a && Nat.blt a 33 && Nat.beq (hdlT m).length 0 && (Nat.ble 6 (rkT m) && Nat.ble 90 (lcT m)) && decide ((m, pc, a) ∈ excE)
    | _ => Nat.blt a 23 && clsOk (ownC m) idx a && decide (ts = (List.range (cAt a).2.2).map (fun k => tgF ((cAt a).2.1 k).2.2.1)))
  | .newarray t => Nat.blt 0 b && Nat.blt b 300 && Nat.beq (akd t) a && Nat.blt 0 a
  | .anewarray idx => Nat.blt 0 b && Nat.blt b 300 && decide ((ownC m, idx, a) ∈ anwE)
  | .multianewarray _ _ => decide (m = 999 ∧ a = 1900 ∧ b = 0 ∧ pc = 61)
  | .checkcast idx => clsOk (ownC m) idx a && Nat.blt a 21
  | .baload => Nat.beq a 1002 || Nat.beq a 1003
  | .bastore => Nat.beq a 1002 || Nat.beq a 1003
  | .invokestatic idx => calOk m idx a b ts 1 || calOk m idx a b ts 3
  | .invokespecial idx => Nat.beq a 499 || Nat.beq a 420 && Nat.beq b 1 && (Nat.ble 1 (rkT m) && Nat.ble 20 (lcT m)) && decide (ts = [9]) && mthOk (ownC m) idx a || calOk m idx a b ts 2
  | .invokevirtual idx => calOk m idx a b ts 0
  | .invokeinterface _ _ => decide ((m, pc, a, b, ts) ∈ ifcE) && Nat.blt (rkT a) (rkT m)
  | .ireturn => decide (a = 0 ∧ rT m = some .int) || decide (a = 2 ∧ rT m = some .boolean)
  | .lreturn => decide (rT m = some .long) | .freturn => decide (rT m = some .float) | .dreturn => decide (rT m = some .double) | .return_ => decide (rT m = none)
  | .areturn => Nat.beq (tgR (rT m)) 4
  | _ => true
def rowOk (m : Nat) (r : Row) : Bool := decide (decode (bT m) r.1 = .ok (r.2.1, r.2.2.1 - r.1)) && Nat.blt r.1 r.2.2.1 && (match r.2.1 with | .tableswitch _ _ _ _ => true | _ => Nat.beq r.2.2.1 (r.1 + ilen r.2.1)) && lnk m r.1 r.2.1 r.2.2.1 r.2.2.2.1 r.2.2.2.2.1 r.2.2.2.2.2
