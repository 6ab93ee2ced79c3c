/-! A small machine of our own over named cells: a name is (site, number). Its soundness over the JVM model is proved once (later parts); everything about the class and the reference is then proved of it. -/
/-- values: int, long, float, double, reference (a name, or none) -/
abbrev AV : Type := Int32 ⊕ (Int64 ⊕ (UInt32 ⊕ (UInt64 ⊕ Option (Nat × Nat))))
abbrev aI (x : Int32) : AV := .inl x
abbrev aL (x : Int64) : AV := .inr (.inl x)
abbrev aF (x : UInt32) : AV := .inr (.inr (.inl x))
abbrev aD (x : UInt64) : AV := .inr (.inr (.inr (.inl x)))
abbrev aR (x : Option (Nat × Nat)) : AV := .inr (.inr (.inr (.inr x)))
/-- a cell: its kind (a class, an array's type, ..) and what it holds -/
abbrev OC : Type := Nat × List AV
/-- the heap: the cells of each site in the order of their making; how many cells and slots were made in all -/
abbrev Hp : Type := (Nat → List OC) × Nat × Nat
/-- how a method ends: with a value or none, or with an exception (its class) -/
abbrev Out : Type := Option AV ⊕ Nat
abbrev Res : Type := Option (Out × Hp)
/-- an instruction: its place, itself, the place behind it, and what its links mean -/
abbrev Row : Type := Nat × Instr × Nat × Nat × Nat × List Nat
abbrev LV : Type := List (Nat × AV)
abbrev KT : Type := Nat → LV → List AV → Hp → Res
abbrev CT : Type := Nat → List AV → Hp → Res
abbrev XT : Type := Nat → Hp → Res
def catV (v : AV) : Nat := match v with
  | .inl _ => 1
  | .inr (.inl _) => 2
  | .inr (.inr (.inl _)) => 1
  | .inr (.inr (.inr (.inl _))) => 2
  | .inr (.inr (.inr (.inr _))) => 1
noncomputable def ldL (i : Nat) (l : LV) : Option AV := List.rec none (fun q _ ih => match Nat.beq q.1 i with | true => some q.2 | false => ih) l
noncomputable def rm1 (i : Nat) (l : LV) : LV := List.rec [] (fun q _ ih => match Nat.beq q.1 i with
  | true => ih
  | false => match Nat.beq (q.1 + 1) i with
    | true => match Nat.beq (catV q.2) 2 with | true => ih | false => q :: ih
    | false => q :: ih) l
noncomputable def rm2 (i : Nat) (l : LV) : LV := List.rec [] (fun q _ ih => match Nat.beq q.1 i with
  | true => ih
  | false => match Nat.beq q.1 (i + 1) with
    | true => ih
    | false => match Nat.beq (q.1 + 1) i with
      | true => match Nat.beq (catV q.2) 2 with | true => ih | false => q :: ih
      | false => q :: ih) l
noncomputable def st1 (i : Nat) (v : AV) (l : LV) : LV := (i, v) :: rm1 i l
noncomputable def st2 (i : Nat) (v : AV) (l : LV) : LV := (i, v) :: rm2 i l
/-- a call's arguments as locals -/
def mkL : Nat → List AV → LV
  | _, [] => []
  | i, v :: l => (i, v) :: mkL (i + catV v) l
/-- the heap's reads and writes -/
def hG (h : Hp) (o : Option (Nat × Nat)) : Option OC := match o with
  | some q => (h.1 q.1)[q.2]?
  | none => none
def hS (h : Hp) (q : Nat × Nat) (c : OC) : Hp := (fun s => match Nat.beq s q.1 with | true => (h.1 s).set q.2 c | false => h.1 s, h.2)
def hN (h : Hp) (site : Nat) (c : OC) (slots : Nat) : Hp := (fun s => match Nat.beq s site with | true => h.1 s ++ [c] | false => h.1 s, h.2.1 + 1, h.2.2 + slots)
def oI (v : Option AV) : Option Int32 := match v with | some (.inl x) => some x | _ => none
def oL (v : Option AV) : Option Int64 := match v with | some (.inr (.inl x)) => some x | _ => none
def oF (v : Option AV) : Option UInt32 := match v with | some (.inr (.inr (.inl x))) => some x | _ => none
def oD (v : Option AV) : Option UInt64 := match v with | some (.inr (.inr (.inr (.inl x)))) => some x | _ => none
def oR (v : Option AV) : Option (Option (Nat × Nat)) := match v with | some (.inr (.inr (.inr (.inr x)))) => some x | _ => none
/-- a field of an object of a class -/
def gf (h : Hp) (o : Option (Nat × Nat)) (c k : Nat) : Option AV := match hG h o with
  | some x => match Nat.beq x.1 c with | true => x.2[k]? | false => none
  | none => none
def gfI (h : Hp) (o : Option (Nat × Nat)) (c k : Nat) : Option Int32 := oI (gf h o c k)
def gfL (h : Hp) (o : Option (Nat × Nat)) (c k : Nat) : Option Int64 := oL (gf h o c k)
def gfR (h : Hp) (o : Option (Nat × Nat)) (c k : Nat) : Option (Option (Nat × Nat)) := oR (gf h o c k)
def pf (h : Hp) (o : Option (Nat × Nat)) (c k : Nat) (v : AV) : Option Hp := match o with
  | some q => match hG h o with
    | some x => match Nat.beq x.1 c with
      | true => match Nat.ble x.2.length k with | true => none | false => some (hS h q (c, x.2.set k v))
      | false => none
    | none => none
  | none => none
/-- a place of an array of a kind -/
def ga (h : Hp) (o : Option (Nat × Nat)) (c : Nat) (i : Int32) : Option AV := match hG h o with
  | some x => match Nat.beq x.1 c with | true => if i < 0 then none else x.2[i.toNatClampNeg]? | false => none
  | none => none
def gaI (h : Hp) (o : Option (Nat × Nat)) (c : Nat) (i : Int32) : Option Int32 := oI (ga h o c i)
def gaL (h : Hp) (o : Option (Nat × Nat)) (c : Nat) (i : Int32) : Option Int64 := oL (ga h o c i)
def gaD (h : Hp) (o : Option (Nat × Nat)) (c : Nat) (i : Int32) : Option UInt64 := oD (ga h o c i)
def pa (h : Hp) (o : Option (Nat × Nat)) (c : Nat) (i : Int32) (v : AV) : Option Hp := match o with
  | some q => match hG h o with
    | some x => match Nat.beq x.1 c && Nat.blt 0 q.1 with
      | true => if i < 0 ∨ x.2.length ≤ i.toNatClampNeg then none else some (hS h q (c, x.2.set i.toNatClampNeg v))
      | false => none
    | none => none
  | none => none
/-- arrays of references: kinds from 1010 on -/
def gaR (h : Hp) (o : Option (Nat × Nat)) (i : Int32) : Option (Option (Nat × Nat)) := match hG h o with
  | some x => match Nat.ble 1010 x.1 && Nat.blt x.1 2000 with | true => if i < 0 then none else oR (x.2[i.toNatClampNeg]?) | false => none
  | none => none
def len (h : Hp) (o : Option (Nat × Nat)) : Option Int32 := match hG h o with
  | some x => match Nat.ble 1000 x.1 && Nat.blt x.1 2000 with | true => some (Int32.ofNat x.2.length) | false => none
  | none => none
def popA : Nat → List AV → List AV → Option (List AV × List AV)
  | 0, acc, st => some (acc, st)
  | n + 1, acc, v :: st => popA n (v :: acc) st
  | _ + 1, _, [] => none
/-- behind a call -/
def cI (r : Res) (k : Int32 → Hp → Res) (x : XT) : Res := match r with
  | some (.inl (some (.inl v)), h) => k v h
  | some (.inr e, h) => x e h
  | _ => none
def cL (r : Res) (k : Int64 → Hp → Res) (x : XT) : Res := match r with
  | some (.inl (some (.inr (.inl v))), h) => k v h
  | some (.inr e, h) => x e h
  | _ => none
def cF (r : Res) (k : UInt32 → Hp → Res) (x : XT) : Res := match r with
  | some (.inl (some (.inr (.inr (.inl v)))), h) => k v h
  | some (.inr e, h) => x e h
  | _ => none
def cD (r : Res) (k : UInt64 → Hp → Res) (x : XT) : Res := match r with
  | some (.inl (some (.inr (.inr (.inr (.inl v))))), h) => k v h
  | some (.inr e, h) => x e h
  | _ => none
def cR (r : Res) (k : Option (Nat × Nat) → Hp → Res) (x : XT) : Res := match r with
  | some (.inl (some (.inr (.inr (.inr (.inr v))))), h) => k v h
  | some (.inr e, h) => x e h
  | _ => none
def cV (r : Res) (k : Hp → Res) (x : XT) : Res := match r with
  | some (.inl none, h) => k h
  | some (.inr e, h) => x e h
  | _ => none
noncomputable def rowAt (pc : Nat) (l : List Row) : Option Row := List.rec none (fun q _ ih => match Nat.beq q.1 pc with | true => some q | false => ih) l

/-- the locals that a cut point keeps -/
noncomputable def pick (is : List Nat) (L : LV) : LV := List.rec [] (fun i _ ih => match ldL i L with | some v => (i, v) :: ih | none => ih) is
noncomputable def cutAt (pc : Nat) (l : List (Nat × List Nat)) : Option (List Nat) := List.rec none (fun q _ ih => match Nat.beq q.1 pc with | true => some q.2 | false => ih) l
def xif (e c : Nat) (a b : Res) : Res := match Nat.beq e c with | true => a | false => b
def xT : XT := fun e h => some (.inr e, h)
/-- an exception that is caught gets a name (its cell is closed) -/
def hX (h : Hp) (e : Nat) : Hp := (fun s => match Nat.beq s 300 with | true => h.1 s ++ [(e, [])] | false => h.1 s, h.2)
noncomputable def kc (cuts : List (Nat × List Nat)) (R K : KT) : KT := fun pc L st h => match cutAt pc cuts with
  | some is => R pc (pick is L) st h
  | none => K pc L st h
/-- the handlers (from, to, its place, the class of the exceptions) that cover a place, in their order -/
noncomputable def xc (hs : List (Nat × Nat × Nat × Nat)) (K : KT) (pc : Nat) (L : LV) : XT := List.rec (motive := fun _ => XT) xT
  (fun t _ ih => match Nat.ble t.1 pc with
    | true => match Nat.ble t.2.1 pc with
      | true => ih
      | false => fun e h => xif e t.2.2.2 (K t.2.2.1 L [aR (some (300, (h.1 300).length))] (hX h e)) (ih e h)
    | false => ih) hs
def imod (x y : Int32) : Int32 := x - x / y * y
def lmod (x y : Int64) : Int64 := x - x / y * y
def bitOk (x : Int32) : Bool := decide (x &&& 1 = x)
noncomputable def swT (x lo : Int) (k : Nat → Res) (d : Nat) (l : List Nat) : Res := List.rec (motive := fun _ => Int → Res) (fun _ => k d) (fun t _ ih lo => if x = lo then k t else ih (lo + 1)) l lo

def gz (x : Int32) (r : Res) : Res := match bitOk x with | true => r | false => none
def acc (o : Option (Nat × Nat)) (c : Nat) (h : Hp) (r : Res) : Res := match o with
  | none => r
  | some _ => match hG h o with
    | some x => match Nat.beq x.1 c with | true => r | false => none
    | none => none
/-- may a reference be stored in an array of kind c (1011 + the class of its elements; 42: a string) -/
def okS (c : Nat) (v : Option (Nat × Nat)) (h : Hp) : Bool := match v with
  | none => Nat.blt c 1900
  | some _ => match hG h v with
    | some x => Nat.beq c (1011 + x.1) && Nat.blt x.1 24 || Nat.beq c 1034 && Nat.beq x.1 42
    | none => false
def paR (h : Hp) (o : Option (Nat × Nat)) (i : Int32) (v : Option (Nat × Nat)) : Option Hp := match hG h o with
  | some x => match Nat.ble 1010 x.1 && Nat.blt x.1 2000 && okS x.1 v h with | true => pa h o x.1 i (aR v) | false => none
  | none => none
def dfv (t : Nat) : AV := match t with
  | 0 => aI 0
  | 1 => aL 0
  | 2 => aF 0
  | 3 => aD 0
  | _ => aR none
/-- an array's first contents, by its kind -/
def dfa (c : Nat) : AV := match c with
  | 1000 => aI 0
  | 1001 => aL 0
  | 1002 => aI 0
  | 1003 => aI 0
  | 1005 => aD 0
  | _ => aR none
def nwa (h : Hp) (site c : Nat) (n : Int32) : Option (Option (Nat × Nat) × Hp) :=
  if n < 0 then none else some (some (site, (h.1 site).length), hN h site (c, List.replicate n.toNatClampNeg (dfa c)) n.toNatClampNeg)
def nob (h : Hp) (site c : Nat) (fs : List Nat) : Option (Nat × Nat) × Hp := (some (site, (h.1 site).length), hN h site (c, fs.map dfv) fs.length)
def hC (h : Hp) (cells slots : Nat) : Hp := (h.1, h.2.1 + cells, h.2.2 + slots)
/-- references that may be compared: null, or objects -/
def okx (h : Hp) (o : Option (Nat × Nat)) : Bool := match o with
  | none => true
  | some _ => match hG h o with | some x => Nat.ble x.1 23 | none => false
def aq (h : Hp) (x y : Option (Nat × Nat)) (r : Res) : Res := match okx h x && okx h y with | true => r | false => none
def stS (st : List AV) : Nat := match st with
  | [] => 0
  | v :: l => catV v + stS l
/-- new T[n][k]: the outer array, then the inner ones -/
def nmu (h : Hp) (site c c' n k : Nat) : Hp := (fun s => match Nat.beq s site with
  | true => h.1 s ++ [(c, (List.range n).map (fun j => aR (some (site + 1, (h.1 (site + 1)).length + j))))]
  | false => match Nat.beq s (site + 1) with | true => h.1 s ++ List.replicate n (c', List.replicate k (dfa c')) | false => h.1 s, h.2.1 + (n + 1), h.2.2 + (n + n * k))
noncomputable def F (K : KT) (C : CT) (X : XT) (ins : Instr) (np a b : Nat) (ts : List Nat) (L : LV) (st : List AV) (h : Hp) : Res :=
  match ins with
  | .iconst n => K np L (aI (Int32.ofInt n) :: st) h
  | .bipush n => K np L (aI (Int8.ofInt n).toInt32 :: st) h
  | .sipush n => K np L (aI (Int16.ofInt n).toInt32 :: st) h
  | .lconst n => K np L (aL (Int64.ofNat n.val) :: st) h
  | .fconst n => match n.val with | 0 => K np L (aF 0 :: st) h | _ => none
  | .dconst n => match n.val with | 0 => K np L (aD 0 :: st) h | _ => none
  | .aconst_null => K np L (aR none :: st) h
  | .iload_n k => (oI (ldL k.val L)).bind (fun x => K np L (aI x :: st) h)
  | .iload i => (oI (ldL i L)).bind (fun x => K np L (aI x :: st) h)
  | .lload_n k => (oL (ldL k.val L)).bind (fun x => K np L (aL x :: st) h)
  | .lload i => (oL (ldL i L)).bind (fun x => K np L (aL x :: st) h)
  | .dload i => (oD (ldL i L)).bind (fun x => K np L (aD x :: st) h)
  | .aload_n k => (oR (ldL k.val L)).bind (fun x => K np L (aR x :: st) h)
  | .aload i => (oR (ldL i L)).bind (fun x => K np L (aR x :: st) h)
  | .istore_n k => match st with | .inl x :: st => K np (st1 k.val (aI x) L) st h | _ => none
  | .istore i => match st with | .inl x :: st => K np (st1 i (aI x) L) st h | _ => none
  | .lstore_n k => match st with | .inr (.inl x) :: st => K np (st2 k.val (aL x) L) st h | _ => none
  | .lstore i => match st with | .inr (.inl x) :: st => K np (st2 i (aL x) L) st h | _ => none
  | .dstore i => match st with | .inr (.inr (.inr (.inl x))) :: st => K np (st2 i (aD x) L) st h | _ => none
  | .astore_n k => match st with | .inr (.inr (.inr (.inr x))) :: st => K np (st1 k.val (aR x) L) st h | _ => none
  | .astore i => match st with | .inr (.inr (.inr (.inr x))) :: st => K np (st1 i (aR x) L) st h | _ => none
  | .iinc i n => (oI (ldL i L)).bind (fun x => K np (st1 i (aI (x + Int32.ofInt n)) L) st h)
  | .pop => match st with | .inl _ :: st => K np L st h | .inr (.inr (.inr (.inr _))) :: st => K np L st h | _ => none
  | .dup => match st with | .inl x :: st => K np L (aI x :: aI x :: st) h | .inr (.inr (.inr (.inr x))) :: st => K np L (aR x :: aR x :: st) h | _ => none
  | .dup_x1 => match st with
    | .inl x :: .inr (.inr (.inr (.inr o))) :: st => K np L (aI x :: aR o :: aI x :: st) h
    | .inr (.inr (.inr (.inr x))) :: .inr (.inr (.inr (.inr o))) :: st => K np L (aR x :: aR o :: aR x :: st) h
    | _ => none
  | .dup2 => match st with | .inl i :: .inr (.inr (.inr (.inr o))) :: st => K np L (aI i :: aR o :: aI i :: aR o :: st) h | _ => none
  | .iadd => match st with | .inl y :: .inl x :: st => K np L (aI (x + y) :: st) h | _ => none
  | .isub => match st with | .inl y :: .inl x :: st => K np L (aI (x - y) :: st) h | _ => none
  | .imul => match st with | .inl y :: .inl x :: st => K np L (aI (x * y) :: st) h | _ => none
  | .irem => match st with | .inl y :: .inl x :: st => if y = 0 then none else K np L (aI (imod x y) :: st) h | _ => none
  | .ineg => match st with | .inl x :: st => K np L (aI (-x) :: st) h | _ => none
  | .iand => match st with | .inl y :: .inl x :: st => K np L (aI (x &&& y) :: st) h | _ => none
  | .ior => match st with | .inl y :: .inl x :: st => K np L (aI (x ||| y) :: st) h | _ => none
  | .ixor => match st with | .inl y :: .inl x :: st => K np L (aI (x ^^^ y) :: st) h | _ => none
  | .ishl => match st with | .inl y :: .inl x :: st => K np L (aI (x <<< (y &&& 31)) :: st) h | _ => none
  | .ishr => match st with | .inl y :: .inl x :: st => K np L (aI (x >>> (y &&& 31)) :: st) h | _ => none
  | .iushr => match st with | .inl y :: .inl x :: st => K np L (aI (x.toUInt32 >>> (y.toUInt32 &&& Int32.toUInt32 31)).toInt32 :: st) h | _ => none
  | .ladd => match st with | .inr (.inl y) :: .inr (.inl x) :: st => K np L (aL (x + y) :: st) h | _ => none
  | .lsub => match st with | .inr (.inl y) :: .inr (.inl x) :: st => K np L (aL (x - y) :: st) h | _ => none
  | .lmul => match st with | .inr (.inl y) :: .inr (.inl x) :: st => K np L (aL (x * y) :: st) h | _ => none
  | .ldiv => match st with | .inr (.inl y) :: .inr (.inl x) :: st => if y = 0 then none else K np L (aL (x / y) :: st) h | _ => none
  | .lrem => match st with | .inr (.inl y) :: .inr (.inl x) :: st => if y = 0 then none else K np L (aL (lmod x y) :: st) h | _ => none
  | .lneg => match st with | .inr (.inl x) :: st => K np L (aL (-x) :: st) h | _ => none
  | .land => match st with | .inr (.inl y) :: .inr (.inl x) :: st => K np L (aL (x &&& y) :: st) h | _ => none
  | .lor => match st with | .inr (.inl y) :: .inr (.inl x) :: st => K np L (aL (x ||| y) :: st) h | _ => none
  | .lshl => match st with | .inl y :: .inr (.inl x) :: st => K np L (aL (x <<< (y.toInt64 &&& 63)) :: st) h | _ => none
  | .lushr => match st with | .inl y :: .inr (.inl x) :: st => K np L (aL (x.toUInt64 >>> (y.toInt64.toUInt64 &&& Int64.toUInt64 63)).toInt64 :: st) h | _ => none
  | .lcmp => match st with | .inr (.inl y) :: .inr (.inl x) :: st => K np L (aI (lg_cmp x y) :: st) h | _ => none
  | .i2l => match st with | .inl x :: st => K np L (aL x.toInt64 :: st) h | _ => none
  | .l2i => match st with | .inr (.inl x) :: st => K np L (aI x.toInt32 :: st) h | _ => none
  | .i2b => match st with | .inl x :: st => K np L (aI x.toInt8.toInt32 :: st) h | _ => none
  | .i2c => match st with | .inl x :: st => K np L (aI (x.toUInt32 % 65536).toInt32 :: st) h | _ => none
  | .i2f => match st with | .inl x :: st => K np L (aF (FP.i2f x) :: st) h | _ => none
  | .i2d => match st with | .inl x :: st => K np L (aD (FP.i2d x) :: st) h | _ => none
  | .l2d => match st with | .inr (.inl x) :: st => K np L (aD (FP.l2d x) :: st) h | _ => none
  | .f2d => match st with | .inr (.inr (.inl x)) :: st => if FP.f2d x &&& 0x7fffffffffffffff ≤ 0x7ff0000000000000 then K np L (aD (FP.f2d x) :: st) h else none | _ => none
  | .fdiv => match st with | .inr (.inr (.inl y)) :: .inr (.inr (.inl x)) :: st => if FP.fdiv x y &&& 0x7fffffff ≤ 0x7f800000 then K np L (aF (FP.fdiv x y) :: st) h else none | _ => none
  | .ddiv => match st with | .inr (.inr (.inr (.inl y))) :: .inr (.inr (.inr (.inl x))) :: st => if FP.ddiv x y &&& 0x7fffffffffffffff ≤ 0x7ff0000000000000 then K np L (aD (FP.ddiv x y) :: st) h else none | _ => none
  | .dcmp op => match st with | .inr (.inr (.inr (.inl y))) :: .inr (.inr (.inr (.inl x))) :: st => K np L (aI (Op.cmpValue (FP.dcmp x y) op) :: st) h | _ => none
  | .goto _ => K a L st h
  | .ifCond c _ => match st with
    | .inl x :: st => (match c with
      | .eq => if x = 0 then K a L st h else K np L st h
      | .ne => if x = 0 then K np L st h else K a L st h
      | .lt => if x < 0 then K a L st h else K np L st h
      | .ge => if 0 ≤ x then K a L st h else K np L st h
      | .gt => if 0 < x then K a L st h else K np L st h
      | .le => if x ≤ 0 then K a L st h else K np L st h)
    | _ => none
  | .if_icmp c _ => match st with
    | .inl y :: .inl x :: st => (match c with
      | .eq => if x = y then K a L st h else K np L st h
      | .ne => if x = y then K np L st h else K a L st h
      | .lt => if x < y then K a L st h else K np L st h
      | .ge => if y ≤ x then K a L st h else K np L st h
      | .gt => if y < x then K a L st h else K np L st h
      | .le => if x ≤ y then K a L st h else K np L st h)
    | _ => none
  | .if_acmp c _ => match st with
    | .inr (.inr (.inr (.inr y))) :: .inr (.inr (.inr (.inr x))) :: st => aq h x y (match c with
      | .eq => if x = y then K a L st h else K np L st h
      | .ne => if x = y then K np L st h else K a L st h)
    | _ => none
  | .ifnull _ => match st with | .inr (.inr (.inr (.inr x))) :: st => if x = none then K a L st h else K np L st h | _ => none
  | .ifnonnull _ => match st with | .inr (.inr (.inr (.inr x))) :: st => if x = none then K np L st h else K a L st h | _ => none
  | .tableswitch _ lo _ _ => match st with | .inl x :: st => swT x.toInt lo (fun q => K q L st h) a ts | _ => none
  | .getfield _ => match st with
    | .inr (.inr (.inr (.inr o))) :: st => (match ts with
      | [0] => (gfI h o a b).bind (fun x => K np L (aI x :: st) h)
      | [1] => (gfL h o a b).bind (fun x => K np L (aL x :: st) h)
      | [4] => (gfR h o a b).bind (fun x => K np L (aR x :: st) h)
      | _ => none)
    | _ => none
  | .putfield _ => (match ts with
    | [0] => match st with | .inl x :: .inr (.inr (.inr (.inr o))) :: st => (pf h o a b (aI x)).bind (fun h => K np L st h) | _ => none
    | [5] => match st with | .inl x :: .inr (.inr (.inr (.inr o))) :: st => gz x ((pf h o a b (aI x)).bind (fun h => K np L st h)) | _ => none
    | [1] => match st with | .inr (.inl x) :: .inr (.inr (.inr (.inr o))) :: st => (pf h o a b (aL x)).bind (fun h => K np L st h) | _ => none
    | [4] => match st with | .inr (.inr (.inr (.inr x))) :: .inr (.inr (.inr (.inr o))) :: st => (pf h o a b (aR x)).bind (fun h => K np L st h) | _ => none
    | _ => none)
  | .getstatic _ => (match ts with
    | [0] => K np L (aR (some (0, a)) :: st) h
    | [1] => K np L (aI (Int32.ofNat a) :: st) h
    | _ => none)
  | .ldc _ => (match ts with
    | [0] => K np L (aI (Int32.ofNat a) :: st) h
    | [1] => K np L (aR (some (0, a)) :: st) h
    | _ => none)
  | .ldc_w _ => (match ts with
    | [0] => K np L (aI (Int32.ofNat a) :: st) h
    | [1] => K np L (aR (some (0, a)) :: st) h
    | _ => none)
  | .ldc2_w _ => K np L (aL (Int64.ofNat a) :: st) h
  | .iaload => match st with | .inl i :: .inr (.inr (.inr (.inr o))) :: st => (gaI h o 1000 i).bind (fun x => K np L (aI x :: st) h) | _ => none
  | .laload => match st with | .inl i :: .inr (.inr (.inr (.inr o))) :: st => (gaL h o 1001 i).bind (fun x => K np L (aL x :: st) h) | _ => none
  | .daload => match st with | .inl i :: .inr (.inr (.inr (.inr o))) :: st => (gaD h o 1005 i).bind (fun x => K np L (aD x :: st) h) | _ => none
  | .baload => match st with | .inl i :: .inr (.inr (.inr (.inr o))) :: st => (gaI h o a i).bind (fun x => K np L (aI x :: st) h) | _ => none
  | .aaload => match st with | .inl i :: .inr (.inr (.inr (.inr o))) :: st => (gaR h o i).bind (fun x => K np L (aR x :: st) h) | _ => none
  | .iastore => match st with | .inl x :: .inl i :: .inr (.inr (.inr (.inr o))) :: st => (pa h o 1000 i (aI x)).bind (fun h => K np L st h) | _ => none
  | .lastore => match st with | .inr (.inl x) :: .inl i :: .inr (.inr (.inr (.inr o))) :: st => (pa h o 1001 i (aL x)).bind (fun h => K np L st h) | _ => none
  | .dastore => match st with | .inr (.inr (.inr (.inl x))) :: .inl i :: .inr (.inr (.inr (.inr o))) :: st => (pa h o 1005 i (aD x)).bind (fun h => K np L st h) | _ => none
  | .bastore => match st with
    | .inl x :: .inl i :: .inr (.inr (.inr (.inr o))) :: st => (match a with
      | 1002 => gz x ((pa h o 1002 i (aI x)).bind (fun h => K np L st h))
      | 1003 => (pa h o 1003 i (aI x.toInt8.toInt32)).bind (fun h => K np L st h)
      | _ => none)
    | _ => none
  | .aastore => match st with | .inr (.inr (.inr (.inr x))) :: .inl i :: .inr (.inr (.inr (.inr o))) :: st => (paR h o i x).bind (fun h => K np L st h) | _ => none
  | .arraylength => match st with | .inr (.inr (.inr (.inr o))) :: st => (len h o).bind (fun x => K np L (aI x :: st) h) | _ => none
  | .newarray _ => match st with | .inl n :: st => (nwa h b a n).bind (fun q => K np L (aR q.1 :: st) q.2) | _ => none
  | .anewarray _ => match st with | .inl n :: st => (nwa h b a n).bind (fun q => K np L (aR q.1 :: st) q.2) | _ => none
  | .multianewarray _ _ => match st with
    | .inl k :: .inl n :: st => if n < 0 ∨ k < 0 ∨ 1000 < k.toNatClampNeg then none else K np L (aR (some (b, (h.1 b).length)) :: st) (nmu h b a 1002 n.toNatClampNeg k.toNatClampNeg)
    | _ => none
  | .new _ => (match ts with
    | 9 :: _ => match st with | [] => X a (hC h 1 6) | _ => none
    | _ => K np L (aR (nob h b a ts).1 :: st) (nob h b a ts).2)
  | .checkcast _ => match st with | .inr (.inr (.inr (.inr o))) :: st => acc o a h (K np L (aR o :: st) h) | _ => none
  | .invokestatic _ | .invokespecial _ | .invokevirtual _ | .invokeinterface _ _ => (match popA b [] st with
    | some (args, st) => (match Nat.ble (stS st) 8 with | false => none | true => match ts with
      | [0] => cI (C a args h) (fun v h => K np L (aI v :: st) h) X
      | [1] => cL (C a args h) (fun v h => K np L (aL v :: st) h) X
      | [2] => cF (C a args h) (fun v h => K np L (aF v :: st) h) X
      | [3] => cD (C a args h) (fun v h => K np L (aD v :: st) h) X
      | [4] => cR (C a args h) (fun v h => K np L (aR v :: st) h) X
      | [9] => cV (C a args h) (fun h => K np L st h) X
      | _ => none)
    | none => none)
  | .ireturn => match st with
    | [.inl x] => (match a with | 0 => some (.inl (some (aI x)), h) | _ => gz x (some (.inl (some (aI x)), h)))
    | _ => none
  | .lreturn => match st with | [.inr (.inl x)] => some (.inl (some (aL x)), h) | _ => none
  | .freturn => match st with | [.inr (.inr (.inl x))] => some (.inl (some (aF x)), h) | _ => none
  | .dreturn => match st with | [.inr (.inr (.inr (.inl x)))] => some (.inl (some (aD x)), h) | _ => none
  | .areturn => match st with | [.inr (.inr (.inr (.inr x)))] => some (.inl (some (aR x)), h) | _ => none
  | .return_ => match st with | [] => some (.inl none, h) | _ => none
  | _ => none
noncomputable def lif (k : Nat) (R : KT) (E : CT) (cuts : List (Nat × List Nat)) (hs : List (Nat × Nat × Nat × Nat)) (rows : List Row) : KT := Nat.rec (motive := fun _ => KT) R
  (fun _ ih pc L st h => match rowAt pc rows with
    | some (_, ins, np, a, b, ts) => F (kc cuts R ih) E (xc hs (kc cuts R ih) pc L) ins np a b ts L st h
    | none => none) k
