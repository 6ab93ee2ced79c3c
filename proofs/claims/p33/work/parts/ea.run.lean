/-! ===== the checks, over many numbers at once ===== -/
/-- the most messages that n acts tell to be lost, where there are payments (by n) -/
def capM : List Nat := [0, 3, 6, 9, 12, 15, 15, 15, 15, 16, 16, 16, 16, 16, 16, 17, 17, 17, 17, 17, 17, 17, 17, 17, 18, 18, 18, 18, 19, 19, 19, 19, 19, 19, 20, 20, 20, 20, 20, 21, 21, 21, 21, 22, 22, 22, 22, 22, 22, 22, 22, 22, 22, 23, 23, 23, 23, 23, 24, 24, 24, 24, 25, 25, 25, 25, 25, 25, 25, 25, 25]
/-- the most of k acts, where there are none, the last one of which would do something with payments -/
def capZ : List Nat := [12, 12, 12, 12, 12, 12, 12, 12, 12, 13, 13, 13, 13, 14, 14, 14, 14, 14, 15, 15, 15, 15, 15, 15, 15, 15, 15, 15, 16, 16, 16, 16, 17, 17, 17, 17, 17, 18, 18, 18, 18, 18, 18, 19, 19, 19, 19, 20, 20, 20, 20, 20, 20, 20, 20, 20, 21, 21, 21, 21, 21, 21, 22, 22, 22, 22, 25, 28, 31, 34, 37]
/-- acts where there are payments: the sum stays within the bounds -/
noncomputable def runM (th : Bool) (o : Nat) (k : Nat → Nat → Bool) : List Nat → Nat → Nat → Bool := List.rec (motive := fun _ => Nat → Nat → Bool) k (fun c _ ih R S => vAct th true o R (fun R' W _ _ => (fun S' => bif Nat.ble R' (Nat.mul 4294967296 o) then (bif Nat.beq (Nat.land (Nat.add S' (Nat.mul (Nat.sub 255 c) o)) (Nat.mul 256 o)) 0 then ih R' S' else false) else false) (Nat.add S W)))
/-- acts where there are none yet -/
noncomputable def runZ (o : Nat) (k : Nat → Nat → Nat → Bool) : List Nat → Nat → Nat → Nat → Bool := List.rec (motive := fun _ => Nat → Nat → Nat → Bool) k (fun c _ ih R S A => vAct false false o R (fun R' W K G => bif Nat.ble R' (Nat.mul 4294967296 o) then (bif Nat.beq (Nat.land (Nat.land G A) (nbt o 8 (Nat.add S (Nat.mul (Nat.sub 255 c) o)))) 0 then ih R' (Nat.add S W) (Nat.sub A (Nat.land A K)) else false) else false))
/-- acts with lost messages among those whose first draw is told: the state behind it and 2^32 times how many; 0 where there are none -/
def rawY (o X : Nat) : Nat := (fun a4 => (fun a5 => (fun d => (fun w => Nat.land (Nat.add a5 (Nat.mul w 4294967296)) (Nat.mul (Nat.land (Nat.sub o (Nat.lor (nbt o 0 d) (nbt o 1 d))) (Nat.lor (nbt o 0 w) (nbt o 1 w))) 1099511627775)) (Nat.land (Nat.shiftRight a5 9) (Nat.mul 3 o))) (n3 o (ndv o a4))) (nst o a4)) (nst o (nst o (nst o X)))
/-- places change -/
def rotG (c n l : Nat) : Nat := Nat.add (Nat.shiftRight l (Nat.mul 64 c)) (Nat.shiftLeft (Nat.land l (Nat.sub (Nat.pow 2 (Nat.mul 64 c)) 1)) (Nat.mul 64 (Nat.sub n c)))
def rotY (n l : Nat) : Nat := rotG 1759 n l
/-- they are laid into free places -/
def insY (n o : Nat) : Nat → Nat → Nat → Nat → (Nat → Nat → Bool) → Bool := fun f => Nat.rec (motive := fun _ => Nat → Nat → Nat → (Nat → Nat → Bool) → Bool) (fun _ _ _ _ => false) (fun _ ih Y U L k =>
  (fun t => (fun pt => bif Nat.beq (Nat.sub L pt) 0 then k (Nat.add Y pt) (Nat.add U t) else ih (Nat.add Y pt) (Nat.add U t) (rotY n (Nat.sub L pt)) k)
    (Nat.land L (Nat.mul t 1099511627775))) (Nat.land (nbt o 40 (Nat.add L (Nat.mul 1099511627775 o))) (Nat.sub o U))) f
def apX : Nat → Nat := fun k => Nat.rec (motive := fun _ => Nat) 0 (fun k a => Nat.add a (Nat.shiftLeft (Nat.add a (Nat.mul (Nat.pow 2 k) (zO (Nat.pow 2 k)))) (Nat.mul 64 (Nat.pow 2 k)))) k
def blX : Nat → Nat := fun t => Nat.rec (motive := fun _ => Nat) 0 (fun t a => Nat.add a (Nat.shiftLeft (Nat.add (apX 9) (Nat.mul (Nat.add (Nat.mul 11264 t) 7680) (zO 512))) (Nat.mul 32768 t))) t
/-- those of six times 512, from u on -/
def rawV (o u : Nat) : Nat := rawY o (Nat.add (blX 6) (Nat.mul (Nat.mul 11264 u) o))
/-- five of them in one -/
noncomputable def subV (n o o' u : Nat) (k : Nat → Bool) : Bool := insY n o 1500 0 0 (rawV o' u) (fun Y U => insY n o 1500 Y U (rawV o' (Nat.add u 6)) (fun Y U => insY n o 1500 Y U (rawV o' (Nat.add u 12)) (fun Y U => insY n o 1500 Y U (rawV o' (Nat.add u 18)) (fun Y U => insY n o 1500 Y U (rawV o' (Nat.add u 24)) (fun Y _ => k Y)))))
def getR (o Y : Nat) : Nat := Nat.land Y (Nat.mul 4294967295 o)
def getS (o Y : Nat) : Nat := Nat.land (Nat.shiftRight Y 32) (Nat.mul 255 o)
def putY (o R S A : Nat) : Nat := Nat.land (Nat.add R (Nat.mul S 4294967296)) (Nat.mul (Nat.land A (nbt o 8 (Nat.add S (Nat.mul 252 o)))) 1099511627775)
def cMA : List Nat := [6, 9, 12, 15, 15, 15, 15, 16, 16, 16, 16, 16, 16, 17, 17, 17, 17, 17]
def cMB : List Nat := [17, 17, 17, 17, 18, 18, 18, 18, 19, 19, 19, 19, 19, 19, 20, 20, 20, 20, 20, 21, 21, 21, 21, 22, 22, 22, 22, 22, 22, 22, 22, 22, 22, 23, 23, 23, 23, 23, 24, 24, 24, 24, 25, 25, 25, 25, 25, 25, 25, 25, 25]
def cZA : List Nat := [12, 12, 12, 12, 12, 12, 12, 13, 13, 13, 13, 14, 14, 14, 14, 14, 15, 15]
def cZB : List Nat := [15, 15, 15, 15, 15, 15, 15, 15, 16, 16, 16, 16, 17, 17, 17, 17, 17, 18, 18, 18, 18, 18, 18, 19, 19, 19, 19, 20, 20, 20, 20, 20, 20, 20, 20, 20, 21, 21, 21, 21, 21, 21, 22, 22, 22, 22, 25, 28, 31, 34, 37]
noncomputable def phM (th : Bool) (o Y : Nat) (k : Nat → Bool) : Bool := runM th o (fun R S => k (putY o R S o)) cMA (getR o Y) (getS o Y)
noncomputable def phZ (o Y : Nat) (k : Nat → Bool) : Bool := runZ o (fun R S A => k (putY o R S A)) cZA (getR o Y) (getS o Y) o
/-- five, each by its first acts, then what is left of them in one -/
noncomputable def fiv (n o : Nat) (ph : Nat → (Nat → Bool) → Bool) (la : Nat → Bool) (Y1 Y2 Y3 Y4 Y5 : Nat) : Bool := ph Y1 (fun L => insY n o 1500 0 0 L (fun Y U => ph Y2 (fun L => insY n o 1500 Y U L (fun Y U => ph Y3 (fun L => insY n o 1500 Y U L (fun Y U => ph Y4 (fun L => insY n o 1500 Y U L (fun Y U => ph Y5 (fun L => insY n o 1500 Y U L (fun Y _ => la Y))))))))))
noncomputable def chkU (n o o' u : Nat) : Bool :=
  subV n o o' (Nat.mul 150 u) (fun Y1 => subV n o o' (Nat.add (Nat.mul 150 u) 30) (fun Y2 => subV n o o' (Nat.add (Nat.mul 150 u) 60) (fun Y3 => subV n o o' (Nat.add (Nat.mul 150 u) 90) (fun Y4 => subV n o o' (Nat.add (Nat.mul 150 u) 120) (fun Y5 =>
    fiv n o (phM false o) (fun Y => runM false o (fun _ _ => true) cMB (getR o Y) (getS o Y)) Y1 Y2 Y3 Y4 Y5 &&
    (fiv n o (phM true o) (fun Y => runM true o (fun _ _ => true) cMB (getR o Y) (getS o Y)) Y1 Y2 Y3 Y4 Y5 &&
    fiv n o (phZ o) (fun Y => runZ o (fun _ _ _ => true) cZB (getR o Y) (getS o Y) o) Y1 Y2 Y3 Y4 Y5))))))
noncomputable def chk (u : Nat) : Bool := chkU 4608 (zO 4608) (zO 3072) u
