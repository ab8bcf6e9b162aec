/-! orders of a few bids: those of the reference, those that the class tries -/
def fc : Nat → Nat
  | 0 => 1
  | n + 1 => (n + 1) * fc n
def nxB (u b : Nat) : Nat := match srch (fun j => !Nat.testBit u j) b (17 - b) with
  | some j => j
  | none => 17
def adB (u : Nat) : Nat → Nat → Nat
  | 0, b => b
  | l + 1, b => adB u l (nxB u (b + 1))
/-- what is left of p, and who is used, ahead of place k -/
def oS (n p : Nat) : Nat → Nat × Nat
  | 0 => (p, 0)
  | k + 1 => ((oS n p k).1 % fc (n - k - 1), (oS n p k).2 ||| (1 <<< (adB (oS n p k).2 ((oS n p k).1 / fc (n - k - 1)) (nxB (oS n p k).2 0))))
def oB (n p k : Nat) : Nat := adB (oS n p k).2 ((oS n p k).1 / fc (n - k - 1)) (nxB (oS n p k).2 0)
def cU (lk : Nat → Nat) (x : Nat → Bool) (b : Nat) : Nat → Bool := fun i => x i || decide (i = b) || decide (i = lk b)
/-- the heads of an order -/
def rdL (lk : Nat → Nat) : (Nat → Bool) → List Nat → List Nat
  | _, [] => []
  | x, b :: l => if x b then rdL lk x l else b :: rdL lk (cU lk x b) l
/-- the orders that the class tries -/
def dfL (lk : Nat → Nat) (n : Nat) : Nat → (Nat → Bool) → List (List Nat)
  | 0, _ => [[]]
  | f + 1, x => match (List.range n).filter (fun i => !x i) with
    | [] => [[]]
    | is => is.flatMap (fun i => (dfL lk n f (cU lk x i)).map (fun s => i :: s))
def ddL : List (List Nat) → List (List Nat)
  | [] => []
  | x :: xs => x :: (ddL xs).filter (fun y => decide (y ≠ x))
def pmL (lk : Nat → Nat) (n : Nat) : List (List Nat) := (List.range (fc n)).map (fun p => rdL lk (fun _ => false) ((List.range n).map (oB n p)))
def gtL (l : List Nat) : Nat → Nat := fun b => l.getD b 0
def inL (l : List Nat) (n : Nat) : Bool := (List.range n).all (fun i => decide (gtL l i < n) && decide (gtL l (gtL l i) = i))
def okL (l : List Nat) (n : Nat) : Bool := decide (ddL (pmL (gtL l) n) = dfL (gtL l) n 7 (fun _ => false))
def alL (n : Nat) : Nat → List (List Nat)
  | 0 => [[]]
  | k + 1 => (alL n k).flatMap (fun t => (List.range n).map (fun a => a :: t))
set_option maxRecDepth 100000 in
theorem chk1 : (alL 1 1).all (fun l => !inL l 1 || okL l 1) = true := by decide +kernel
set_option maxRecDepth 100000 in
theorem chk2 : (alL 2 2).all (fun l => !inL l 2 || okL l 2) = true := by decide +kernel
set_option maxRecDepth 100000 in
theorem chk3 : (alL 3 3).all (fun l => !inL l 3 || okL l 3) = true := by decide +kernel
set_option maxRecDepth 100000 in
theorem chk4 : (alL 4 4).all (fun l => !inL l 4 || okL l 4) = true := by decide +kernel
set_option maxRecDepth 100000 in
theorem chk5 : (alL 5 5).all (fun l => !inL l 5 || okL l 5) = true := by decide +kernel
def oOK (n p : Nat) : Bool := (List.range n).all (fun k => decide (oB n p k < n) && decide ((oS n p k).2 < 32) && decide ((oS n p k).1 / fc (n - k - 1) < 5) && decide ((oS n p k).1 < 120) && (List.range 6).all (fun l => decide (adB (oS n p k).2 l (nxB (oS n p k).2 0) < 12)))
set_option maxRecDepth 100000 in
theorem oOKs : (List.range 6).all (fun n => (List.range (fc n)).all (fun p => oOK n p)) = true := by decide +kernel
