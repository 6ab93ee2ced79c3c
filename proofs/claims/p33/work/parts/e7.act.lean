/-! ===== what an act of the law takes of the random numbers, and how many messages it tells to be lost ===== -/
/-- the state of the numbers behind an act: th a thief is there, any there are payments -/
def aN (th any : Bool) (r : Nat) : Nat :=
  let a1 := rS r
  let m := a1 / 512 % 22
  let a2 := rS a1
  let a3 := rS a2
  let a4 := rS a3
  if m < 7 then (if rS (rS (rS a4)) / 512 % 5 = 2 then rS (rS (rS (rS a4))) else rS (rS (rS a4)))
  else if m < 10 then a2
  else if m < 15 then a4
  else if m = 15 then rS a4
  else if m = 16 then a3
  else if m = 17 then rS a4
  else if m = 18 then (if a3 / 512 % 4 = 0 then (if a4 / 512 % 2 = 0 then rS a4 else rS (rS a4)) else a3)
  else if m = 19 then a2
  else if any = true then (if m = 20 then (if th = true then rS (rS a4) else a4) else a3)
  else a2
/-- the messages that it tells to be lost -/
def aWf (m d w : Nat) : Nat := if m = 15 ∧ d = 0 then w else 0
def aW (r : Nat) : Nat := aWf (rS r / 512 % 22) (rS (rS (rS (rS r))) / 512 % 3) (rS (rS (rS (rS (rS r)))) / 512 % 4)
/-- a payment by touching that is made for sure -/
def aK (r : Nat) : Prop := rS r / 512 % 22 < 7 ∧ 3 ≤ rS (rS (rS (rS (rS (rS (rS r)))))) / 512 % 5 ∧ rS (rS (rS (rS (rS r)))) / 512 % 5 ≠ 0
/-- an act that does nothing where there are no payments -/
def aG (r : Nat) : Prop := 20 ≤ rS r / 512 % 22
/-! many at once -/
def vP3 (o H a3 : Nat) : Nat := Nat.land (nbt o 35 H) (Nat.lor (nbt o 9 a3) (nbt o 10 a3))
def vQ4 (o q a4 : Nat) : Nat := Nat.land q (nbt o 9 a4)
def qvL (o T : Nat) : Nat := Nat.sub o (nbt o 5 T)
def vE2 (o d : Nat) : Nat := Nat.land (nbt o 1 d) (Nat.sub o (nbt o 0 d))
def vW (o H a4 a5 : Nat) : Nat := (fun d => Nat.land (Nat.land (Nat.shiftRight a5 9) (Nat.mul 3 o)) (Nat.mul (Nat.land (nbt o 17 H) (Nat.sub o (Nat.lor (nbt o 0 d) (nbt o 1 d)))) 3)) (n3 o (ndv o a4))
def vRb (b3 b4 b5 b6 o l b8 a2 a3 a4 a5 a6 a7 a8 : Nat) : Nat := Nat.add (nsl a2 (Nat.sub o (Nat.add (Nat.add b3 b4) (Nat.add (Nat.add b5 b6) l)))) (Nat.add (nsl a3 b3) (Nat.add (nsl a4 b4) (Nat.add (nsl a5 b5) (Nat.add (nsl a6 b6) (Nat.add (nsl a7 (Nat.sub l b8)) (nsl a8 b8))))))
def qvR (g3 g4 g6 o H p q s l b8 a2 a3 a4 a5 a6 a7 a8 : Nat) : Nat := vRb (Nat.add (Nat.add (nbt o 23 H) p) g3) (Nat.add (nbt o 11 H) g4) (Nat.add (Nat.add (nbt o 17 H) (nbt o 29 H)) (Nat.sub q s)) (Nat.add s g6) o l b8 a2 a3 a4 a5 a6 a7 a8
def vK (o l d c : Nat) : Nat := Nat.land l (Nat.land (Nat.lor (nbt o 2 d) (Nat.land (nbt o 1 d) (nbt o 0 d))) (Nat.lor (Nat.lor (nbt o 0 c) (nbt o 1 c)) (nbt o 2 c)))
/-- an act of all: the new states, the messages lost, whether payments are made for sure, and whether it does nothing without payments -/
def vZ (th any : Bool) (o : Nat) (k : Nat → Nat → Nat → Nat → Bool) (a2 a3 a4 a5 a6 a7 a8 H p q s l d : Nat) : Bool :=
  k (qvR (cond any (nbt o 53 H) 0) (cond any (cond th 0 (nbt o 47 H)) 0) (cond any (cond th (nbt o 47 H) 0) 0) o H p q s l (Nat.land l (vE2 o d)) a2 a3 a4 a5 a6 a7 a8)
    (vW o H a4 a5) (vK o l d (n5 o (ndv o a5))) (Nat.add (nbt o 47 H) (nbt o 53 H))
def vY (th any : Bool) (o : Nat) (k : Nat → Nat → Nat → Nat → Bool) (a2 a3 a4 a5 a6 a7 a8 H l p q : Nat) : Bool := vZ th any o k a2 a3 a4 a5 a6 a7 a8 H p q (vQ4 o q a4) l (n5 o (ndv o a7))
def vX (th any : Bool) (o : Nat) (k : Nat → Nat → Nat → Nat → Bool) (a2 a3 a4 a5 a6 a7 a8 H l p : Nat) : Bool := vY th any o k a2 a3 a4 a5 a6 a7 a8 H l p (Nat.sub (nbt o 35 H) p)
def vV (th any : Bool) (o : Nat) (k : Nat → Nat → Nat → Nat → Bool) (a2 a3 a4 a5 a6 a7 a8 H l : Nat) : Bool := vX th any o k a2 a3 a4 a5 a6 a7 a8 H l (vP3 o H a3)
def vU (th any : Bool) (o : Nat) (k : Nat → Nat → Nat → Nat → Bool) (a2 a3 a4 a5 a6 a7 a8 T : Nat) : Bool := vV th any o k a2 a3 a4 a5 a6 a7 a8 (nH o T) (qvL o T)
def vA7 (th any : Bool) (o : Nat) (k : Nat → Nat → Nat → Nat → Bool) (a1 a2 a3 a4 a5 a6 a7 : Nat) : Bool := vU th any o k a2 a3 a4 a5 a6 a7 (nst o a7) (nT o (n22 o (ndv o a1)))
def vA6 (th any : Bool) (o : Nat) (k : Nat → Nat → Nat → Nat → Bool) (a1 a2 a3 a4 a5 a6 : Nat) : Bool := vA7 th any o k a1 a2 a3 a4 a5 a6 (nst o a6)
def vA5 (th any : Bool) (o : Nat) (k : Nat → Nat → Nat → Nat → Bool) (a1 a2 a3 a4 a5 : Nat) : Bool := vA6 th any o k a1 a2 a3 a4 a5 (nst o a5)
def vA4 (th any : Bool) (o : Nat) (k : Nat → Nat → Nat → Nat → Bool) (a1 a2 a3 a4 : Nat) : Bool := vA5 th any o k a1 a2 a3 a4 (nst o a4)
def vA3 (th any : Bool) (o : Nat) (k : Nat → Nat → Nat → Nat → Bool) (a1 a2 a3 : Nat) : Bool := vA4 th any o k a1 a2 a3 (nst o a3)
def vA2 (th any : Bool) (o : Nat) (k : Nat → Nat → Nat → Nat → Bool) (a1 a2 : Nat) : Bool := vA3 th any o k a1 a2 (nst o a2)
def vA1 (th any : Bool) (o : Nat) (k : Nat → Nat → Nat → Nat → Bool) (a1 : Nat) : Bool := vA2 th any o k a1 (nst o a1)
def vAct (th any : Bool) (o R : Nat) (k : Nat → Nat → Nat → Nat → Bool) : Bool := vA1 th any o k (nst o R)
