/-- the sets of m cells from f on, in their order -/
def cmb : Nat → Nat → Nat → List (List Nat)
  | 0, _, _ => [[]]
  | _ + 1, _, 0 => []
  | m + 1, f, k + 1 => (cmb m (f + 1) k).map (fun l => f :: l) ++ cmb (m + 1) (f + 1) k
def noK (o : Nat → Nat) (n : Nat) : Nat → Nat
  | 0 => 0
  | k + 1 => if o k = 24 - n + k then noK o n k else k + 1
def nxO (n : Nat) (l : List Nat) : Option (List Nat) := if noK (lr l) n n = 0 then none else some ((List.range n).map (fun j => if j < noK (lr l) n n - 1 then lr l j else lr l (noK (lr l) n n - 1) + 1 + (j - (noK (lr l) n n - 1))))
def chkO (n : Nat) : List (List Nat) → Bool
  | [] => true
  | l :: t => (match t with
    | [] => (nxO n l).isNone
    | l' :: _ => nxO n l == some l') && chkO n t
theorem cmb_chk : ∀ n, n < 5 → chkO n (cmb n 0 24) = true ∧ (cmb n 0 24).all (fun l => l.length == n && l.all (fun x => decide (x < 24))) = true ∧ (cmb n 0 24).head? = some (List.range n) := by decide +kernel
