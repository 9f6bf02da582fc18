-- THE ROWS ONE AFTER THE OTHER
def swp (r : Nat → Nat) (a b : Nat) : Nat → Nat := fun x => if x = a then r b else if x = b then r a else r x
/-- one more than the last place below m at which the row rises; 0 if there is none -/
def fkR (r : Nat → Nat) : Nat → Nat
  | 0 => 0
  | k + 1 => if r (k + 1) < r k then fkR r k else k + 1
/-- the last place from j down whose value isn't below v -/
def fjR (r : Nat → Nat) (v : Nat) : Nat → Nat
  | 0 => 0
  | j + 1 => if r (j + 1) < v then fjR r v j else j + 1
def rvR : Nat → (Nat → Nat) → Nat → Nat → (Nat → Nat)
  | 0, r, _, _ => r
  | f + 1, r, a, b => if a < b then rvR f (swp r a b) (a + 1) (b - 1) else r
def nxF (n : Nat) (r : Nat → Nat) (k : Nat) : Nat → Nat := rvR n (swp r k (fjR r (r k) (n - 1))) (k + 1) (n - 1)
def nxL (n : Nat) (l : List Nat) : Option (List Nat) := match fkR (fun i => l.getD i 0) (n - 1) with
  | 0 => none
  | k + 1 => some ((List.range n).map (nxF n (fun i => l.getD i 0) k))
def chkL (n : Nat) : List (List Nat) → Bool
  | [] => true
  | [a] => decide (nxL n a = none)
  | a :: b :: t => decide (nxL n a = some b) && chkL n (b :: t)
theorem chain1 : chkL 1 (rowsN 1) = true := by decide +kernel
theorem chain2 : chkL 2 (rowsN 2) = true := by decide +kernel
theorem chain3 : chkL 3 (rowsN 3) = true := by decide +kernel
theorem chain4 : chkL 4 (rowsN 4) = true := by decide +kernel
theorem chain5 : chkL 5 (rowsN 5) = true := by decide +kernel
theorem chain6 : chkL 6 (rowsN 6) = true := by decide +kernel
theorem rows_1 : (rowsN 1).length = 1 ∧ (rowsN 2).length = 2 ∧ (rowsN 3).length = 6 ∧ (rowsN 4).length = 24 ∧ (rowsN 5).length = 120 ∧ (rowsN 6).length = 720 := by decide +kernel
theorem rows_id : ∀ n, n < 8 → 1 ≤ n → (rowsN n)[0]? = some (List.range n) := by decide +kernel
