-- WAIT: e weeks ahead of the last one
def wS (D : Mk) (w : Nat → Nat → Int) (s i : Nat) : Nat → Int
  | 0 => 1000 * w s i
  | j + 1 => wS D w s i j + if w s i ≤ wo D s i j ∧ w (1 - s) j ≤ wo D (1 - s) j i then D 2 (6 * (1 - s) + j) * (wo D s i j - w s i) else 0
def wt (D : Mk) : Nat → Nat → Nat → Int
  | 0 => fun _ _ => 0
  | e + 1 => fun s i => if wS D (wt D e) s i (D 0 (1 - s)).toNat / 1000 - D 4 0 < 0 then 0 else wS D (wt D e) s i (D 0 (1 - s)).toNat / 1000 - D 4 0
/-- often of the first n SORTS of a SIDE -/
def oF (D : Mk) (s : Nat) : Nat → Int
  | 0 => 0
  | n + 1 => oF D s n + D 2 (6 * s + n)
theorem oF_in {D : Mk} (hW : WFm D) {s : Nat} (hs : s < 2) {n : Nat} (hn : n ≤ 6) : 0 ≤ oF D s n ∧ oF D s n ≤ 1000 := by
  have h := hW.2.2.2.2.2.2.2.2.2.2.2.2 s hs
  have h0 := hW.2.2.1 (6 * s) (by omega)
  have h1 := hW.2.2.1 (6 * s + 1) (by omega)
  have h2 := hW.2.2.1 (6 * s + 2) (by omega)
  have h3 := hW.2.2.1 (6 * s + 3) (by omega)
  have h4 := hW.2.2.1 (6 * s + 4) (by omega)
  have h5 := hW.2.2.1 (6 * s + 5) (by omega)
  rcases (show n = 0 ∨ n = 1 ∨ n = 2 ∨ n = 3 ∨ n = 4 ∨ n = 5 ∨ n = 6 by omega) with rfl | rfl | rfl | rfl | rfl | rfl | rfl <;> simp only [oF, Nat.add_zero] <;> omega
theorem wo_in {D : Mk} (hW : WFm D) {s i j : Nat} (hs : s < 2) (hi : i < 6) (hj : j < 6) : 0 ≤ wo D s i j ∧ wo D s i j ≤ 999 := by
  have h1 := hW.2.1 (6 * (1 - s) + j) (by omega)
  have h2 := hW.2.2.2.1 (36 * s + 6 * i + j) (by omega)
  unfold wo
  split <;> omega
theorem wS_in {D : Mk} (hW : WFm D) {w : Nat → Nat → Int} {s i : Nat} (hs : s < 2) (hi : i < 6) (hw : 0 ≤ w s i ∧ w s i ≤ 999) : ∀ n, n ≤ 6 → 1000 * w s i ≤ wS D w s i n ∧ wS D w s i n ≤ 1000 * w s i + oF D (1 - s) n * (999 - w s i) := by
  intro n
  induction n with
  | zero => intro _; simp only [wS, oF]; omega
  | succ n ih =>
    intro hn
    have h1 := ih (by omega)
    have h2 := wo_in hW hs hi (j := n) (by omega)
    have h3 := hW.2.2.1 (6 * (1 - s) + n) (by omega)
    simp only [wS, oF, Int.add_mul]
    have h5 : 0 ≤ D 2 (6 * (1 - s) + n) * (999 - w s i) := Int.mul_nonneg h3.1 (by omega)
    split
    · rename_i hc
      have h4 : 0 ≤ D 2 (6 * (1 - s) + n) * (wo D s i n - w s i) := Int.mul_nonneg h3.1 (by omega)
      have h6 : D 2 (6 * (1 - s) + n) * (wo D s i n - w s i) ≤ D 2 (6 * (1 - s) + n) * (999 - w s i) := Int.mul_le_mul_of_nonneg_left (by omega) h3.1
      omega
    · omega
theorem wS_bnd {D : Mk} (hW : WFm D) {w : Nat → Nat → Int} {s i : Nat} (hs : s < 2) (hi : i < 6) (hw : 0 ≤ w s i ∧ w s i ≤ 999) {n : Nat} (hn : n ≤ 6) : 0 ≤ wS D w s i n ∧ wS D w s i n ≤ 999000 := by
  have h1 := wS_in hW hs hi hw n hn
  have h2 := oF_in hW (s := 1 - s) (by omega) hn
  have h3 : oF D (1 - s) n * (999 - w s i) ≤ 1000 * (999 - w s i) := Int.mul_le_mul_of_nonneg_right h2.2 (by omega)
  omega
theorem wt_in {D : Mk} (hW : WFm D) : ∀ e s i, s < 2 → i < 6 → 0 ≤ wt D e s i ∧ wt D e s i ≤ 999 := by
  intro e
  induction e with
  | zero => intro s i _ _; simp [wt]
  | succ e ih =>
    intro s i hs hi
    have h0 := hW.1 (1 - s) (by omega)
    have h1 := wS_bnd hW hs hi (ih s i hs hi) (n := (D 0 (1 - s)).toNat) (by omega)
    have h2 := hW.2.2.2.2.1
    simp only [wt]
    split <;> omega
/-- the model's way to the same sum -/
def mS (D : Mk) (w : Nat → Nat → Int) (s i : Nat) : Nat → Int
  | 0 => 0
  | j + 1 => mS D w s i j + D 2 (6 * (1 - s) + j) * (if w s i ≤ wo D s i j ∧ w (1 - s) j ≤ wo D (1 - s) j i then wo D s i j else w s i)
theorem mS_wS (D : Mk) (w : Nat → Nat → Int) (s i : Nat) : ∀ n, mS D w s i n + (1000 - oF D (1 - s) n) * w s i = wS D w s i n := by
  intro n
  induction n with
  | zero => simp only [mS, oF, wS]; omega
  | succ n ih =>
    simp only [mS, oF, wS]
    rw [← ih]
    split
    · rw [Int.mul_sub, Int.sub_mul, Int.sub_mul, Int.add_mul]; omega
    · rw [Int.sub_mul, Int.sub_mul, Int.add_mul]; omega
theorem mS_in {D : Mk} (hW : WFm D) {w : Nat → Nat → Int} {s i : Nat} (hs : s < 2) (hi : i < 6) (hw : 0 ≤ w s i ∧ w s i ≤ 999) : ∀ n, n ≤ 6 → 0 ≤ mS D w s i n ∧ mS D w s i n ≤ 998001 * n := by
  intro n
  induction n with
  | zero => intro _; simp [mS]
  | succ n ih =>
    intro hn
    have h1 := ih (by omega)
    have h2 := wo_in hW hs hi (j := n) (by omega)
    have h3 := hW.2.2.1 (6 * (1 - s) + n) (by omega)
    simp only [mS]
    split
    · have := mul0 h3 h2; omega
    · have := mul0 h3 hw; omega
