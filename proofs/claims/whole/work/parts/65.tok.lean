-- TOKENS of a TAPE of n bytes B
abbrev isLet (c : Int) : Prop := (97 ≤ c ∧ c ≤ 122) ∨ (65 ≤ c ∧ c ≤ 90)
abbrev isDig (c : Int) : Prop := 48 ≤ c ∧ c ≤ 57
abbrev isWs (c : Int) : Prop := c = 32 ∨ c = 10
def letB (c : Int) : Bool := decide (isLet c)
def digB (c : Int) : Bool := decide (isDig c)
def wsB (c : Int) : Bool := decide (isWs c)
def endR (P : Int → Bool) (B : Nat → Int) (n : Nat) : Nat → Nat → Nat
  | 0, p => p
  | f + 1, p => if p < n ∧ P (B p) = true then endR P B n f (p + 1) else p
/-- the end of the run of what P holds of, from p on -/
def endP (P : Int → Bool) (B : Nat → Int) (n p : Nat) : Nat := endR P B n (n - p) p
theorem endP_go {P : Int → Bool} {B : Nat → Int} {n p : Nat} (h : p < n) (h2 : P (B p) = true) : endP P B n p = endP P B n (p + 1) := by
  unfold endP
  rw [show n - p = (n - (p + 1)) + 1 by omega, endR, if_pos ⟨h, h2⟩]
theorem endP_stop {P : Int → Bool} {B : Nat → Int} {n p : Nat} (h : ¬ (p < n ∧ P (B p) = true)) : endP P B n p = p := by
  unfold endP
  cases n - p with
  | zero => rfl
  | succ f => rw [endR, if_neg h]
theorem endP_ge (P : Int → Bool) (B : Nat → Int) (n : Nat) : ∀ (f p : Nat), n - p ≤ f → p ≤ endP P B n p ∧ endP P B n p ≤ max p n := by
  intro f
  induction f with
  | zero =>
    intro p h
    rw [endP_stop (by omega)]
    omega
  | succ f ih =>
    intro p h
    by_cases hc : p < n ∧ P (B p) = true
    · rw [endP_go hc.1 hc.2]
      have := ih (p + 1) (by omega)
      omega
    · rw [endP_stop hc]
      omega
theorem endP_b (P : Int → Bool) (B : Nat → Int) (n p : Nat) : p ≤ endP P B n p ∧ endP P B n p ≤ max p n := endP_ge P B n _ p (Nat.le_refl _)
theorem endP_all (P : Int → Bool) (B : Nat → Int) (n : Nat) : ∀ (f p : Nat), n - p ≤ f → ∀ k, p ≤ k → k < endP P B n p → k < n ∧ P (B k) = true := by
  intro f
  induction f with
  | zero =>
    intro p h k hk
    rw [endP_stop (by omega)]
    omega
  | succ f ih =>
    intro p h k hk
    by_cases hc : p < n ∧ P (B p) = true
    · rw [endP_go hc.1 hc.2]
      intro h2
      by_cases he : k = p
      · subst he; exact hc
      · exact ih (p + 1) (by omega) k (by omega) h2
    · rw [endP_stop hc]
      omega
theorem endP_end (P : Int → Bool) (B : Nat → Int) (n : Nat) : ∀ (f p : Nat), n - p ≤ f → ¬ (endP P B n p < n ∧ P (B (endP P B n p)) = true) := by
  intro f
  induction f with
  | zero =>
    intro p h
    rw [endP_stop (by omega)]
    omega
  | succ f ih =>
    intro p h
    by_cases hc : p < n ∧ P (B p) = true
    · rw [endP_go hc.1 hc.2]
      exact ih (p + 1) (by omega)
    · rw [endP_stop hc]
      exact hc
theorem letB_iff (c : Int) : letB c = true ↔ isLet c := by simp [letB]
theorem digB_iff (c : Int) : digB c = true ↔ isDig c := by simp [digB]
theorem wsB_iff (c : Int) : wsB c = true ↔ isWs c := by simp [wsB]
def numV (B : Nat → Int) : Nat → Nat → Int
  | 0, _ => 0
  | k + 1, p => 10 * numV B k p + (B (p + k) - 48)
theorem numV_b {B : Nat → Int} {p : Nat} : ∀ k, (∀ j, j < k → isDig (B (p + j))) → 0 ≤ numV B k p ∧ numV B k p < 10 ^ k := by
  intro k
  induction k with
  | zero => intro _; exact ⟨Int.le_refl 0, show (0 : Int) < 10 ^ 0 by decide⟩
  | succ k ih =>
    intro h
    have h1 := ih (fun j hj => h j (by omega))
    have h2 := h k (by omega)
    simp only [numV]
    rw [Int.pow_succ]
    omega
-- KEYWORDS
def kst (j : Nat) : Nat := [0, 5, 11, 16, 19, 23, 27, 32, 39, 44, 49, 54, 59].getD j 64
def kln (j : Nat) : Nat := [4, 5, 4, 2, 3, 3, 4, 6, 4, 4, 4, 4, 4].getD j 0
abbrev spl (B : Nat → Int) (b p len : Nat) : Prop := ∀ i, i < len → txB 0 (b + i) = B (p + i)
abbrev kwHit (B : Nat → Int) (p len j : Nat) : Prop := kln j = len ∧ spl B (kst j) p len
def kwJ (B : Nat → Int) (p len : Nat) : Nat → Nat → Int
  | 0, _ => -1
  | f + 1, j => if kwHit B p len j then j else kwJ B p len f (j + 1)
/-- the number of the KEYWORD that the len bytes from p on spell, or -1 -/
def kw (B : Nat → Int) (p len : Nat) : Int := kwJ B p len 13 0
theorem kw_hit {B : Nat → Int} {p len : Nat} : ∀ (j f a : Nat), a + f = 13 → a ≤ j → j < 13 → kwHit B p len j → (∀ k, a ≤ k → k < j → ¬ kwHit B p len k) → kwJ B p len f a = j := by
  intro j f
  induction f with
  | zero => intro a h1 h2 h3; omega
  | succ f ih =>
    intro a h1 h2 h3 h4 h5
    rw [kwJ]
    by_cases e : a = j
    · subst e
      rw [if_pos h4]
    · rw [if_neg (h5 a (Nat.le_refl a) (by omega))]
      exact ih (a + 1) (by omega) (by omega) h3 h4 (fun k q1 q2 => h5 k (by omega) q2)
theorem kw_none {B : Nat → Int} {p len : Nat} (h : ∀ k, k < 13 → ¬ kwHit B p len k) : kw B p len = -1 := by
  have : ∀ f a, a + f = 13 → kwJ B p len f a = -1 := by
    intro f
    induction f with
    | zero => intro a _; rfl
    | succ f ih =>
      intro a ha
      rw [kwJ, if_neg (h a (by omega))]
      exact ih (a + 1) (by omega)
  exact this 13 0 rfl
theorem kw_at {B : Nat → Int} {p len j : Nat} (hj : j < 13) (h : kwHit B p len j) (h2 : ∀ k, k < j → ¬ kwHit B p len k) : kw B p len = j := kw_hit j 13 0 rfl (Nat.zero_le _) hj h (fun k _ q => h2 k q)
theorem kw_b (B : Nat → Int) (p len : Nat) : kw B p len = -1 ∨ (0 ≤ kw B p len ∧ kw B p len ≤ 12) := by
  have : ∀ f a, a + f = 13 → kwJ B p len f a = -1 ∨ (0 ≤ kwJ B p len f a ∧ kwJ B p len f a ≤ 12) := by
    intro f
    induction f with
    | zero => intro a _; exact Or.inl rfl
    | succ f ih =>
      intro a ha
      rw [kwJ]
      split
      · exact Or.inr ⟨by omega, by omega⟩
      · exact ih (a + 1) (by omega)
  exact this 13 0 rfl
-- one TOKEN that begins at p: kind, number, the place behind it
def tkK (B : Nat → Int) (n p : Nat) : Int :=
  if n ≤ p then 0
  else if isLet (B p) then (if kw B p (endP letB B n (p + 1) - p) = -1 then 1 else 256 + kw B p (endP letB B n (p + 1) - p))
  else if isDig (B p) then (if endP digB B n p - p ≤ 4 then 2 else 1)
  else if isSig (B p) then B p else 1
def tkQ (B : Nat → Int) (n p : Nat) : Nat :=
  if n ≤ p then p
  else if isLet (B p) then endP letB B n (p + 1)
  else if isDig (B p) then endP digB B n p
  else p + 1
def tkV (B : Nat → Int) (n p : Nat) : Int := numV B (endP digB B n p - p) p
/-- where the i-th TOKEN is looked for -/
def tkS (B : Nat → Int) (n : Nat) : Nat → Nat
  | 0 => 0
  | i + 1 => tkQ B n (endP wsB B n (tkS B n i))
def tP (B : Nat → Int) (n i : Nat) : Nat := endP wsB B n (tkS B n i)
def tK (B : Nat → Int) (n i : Nat) : Int := tkK B n (tP B n i)
def tV (B : Nat → Int) (n i : Nat) : Int := tkV B n (tP B n i)
theorem tkQ_b {B : Nat → Int} {n p : Nat} (h : p < n) : p < tkQ B n p ∧ tkQ B n p ≤ n := by
  unfold tkQ
  rw [if_neg (by omega)]
  split
  · have := endP_b letB B n (p + 1); omega
  · split
    · rename_i h2
      rw [endP_go h ((digB_iff _).mpr h2)]
      have := endP_b digB B n (p + 1); omega
    · omega
theorem tS_b (B : Nat → Int) (n : Nat) : ∀ i, tkS B n i ≤ n := by
  intro i
  induction i with
  | zero => exact Nat.zero_le n
  | succ i ih =>
    show tkQ B n (endP wsB B n (tkS B n i)) ≤ n
    have h1 := endP_b wsB B n (tkS B n i)
    by_cases h : endP wsB B n (tkS B n i) < n
    · exact (tkQ_b h).2
    · unfold tkQ
      rw [if_pos (by omega)]
      omega
theorem tP_b (B : Nat → Int) (n i : Nat) : tkS B n i ≤ tP B n i ∧ tP B n i ≤ n := by
  have h1 := endP_b wsB B n (tkS B n i)
  have h2 := tS_b B n i
  unfold tP
  omega
/-- none of the TOKENS before the i-th is the end or wrong -/
def tFine (B : Nat → Int) (n i : Nat) : Prop := ∀ k, k < i → tK B n k ≠ 0 ∧ tK B n k ≠ 1
theorem tK_end {B : Nat → Int} {n i : Nat} (h : n ≤ tP B n i) : tK B n i = 0 := by
  unfold tK tkK
  rw [if_pos h]
theorem tS_le {B : Nat → Int} {n : Nat} : ∀ i, tFine B n i → i ≤ tkS B n i := by
  intro i
  induction i with
  | zero => intro _; exact Nat.zero_le _
  | succ i ih =>
    intro h
    have h1 := ih (fun k hk => h k (by omega))
    have h2 := tP_b B n i
    have h3 : tP B n i < n := by
      rcases Nat.lt_or_ge (tP B n i) n with q | q
      · exact q
      · exact absurd (tK_end q) (h i (by omega)).1
    have h4 := tkQ_b (B := B) h3
    show i + 1 ≤ tkQ B n (tP B n i)
    omega
theorem tFine_b {B : Nat → Int} {n i : Nat} (h : tFine B n i) : i ≤ n := Nat.le_trans (tS_le i h) (tS_b B n i)
theorem tkK_0 {B : Nat → Int} {n p : Nat} (h : p < n) : tkK B n p ≠ 0 := by
  unfold tkK
  rw [if_neg (by omega)]
  have := kw_b B p (endP letB B n (p + 1) - p)
  split
  · split <;> omega
  · split
    · split <;> omega
    · split <;> omega
