-- bits
theorem nat_bv {a : Nat} (ha : a < 2147483648) : (Int32.ofInt (a : Int)).toBitVec.toNat = a := by
  have := bv_nat (a : Int)
  omega
theorem or_nat {a b : Nat} (ha : a < 2147483648) (hb : b < 2147483648) : aOr (a : Int) (b : Int) = ((a ||| b : Nat) : Int) := by
  unfold aOr
  have e : (Int32.ofInt (a : Int) ||| Int32.ofInt (b : Int)).toBitVec.toNat = a ||| b := by
    show ((Int32.ofInt (a : Int)).toBitVec ||| (Int32.ofInt (b : Int)).toBitVec).toNat = a ||| b
    rw [BitVec.toNat_or, nat_bv ha, nat_bv hb]
  have hlt : a ||| b < 2 ^ 31 := Nat.or_lt_two_pow ha hb
  have e1 : (Int32.ofInt (a : Int) ||| Int32.ofInt (b : Int)).toInt = ((Int32.ofInt (a : Int) ||| Int32.ofInt (b : Int)).toBitVec.toNat : Int) := by
    show (Int32.ofInt (a : Int) ||| Int32.ofInt (b : Int)).toBitVec.toInt = _
    rw [BitVec.toInt_eq_toNat_of_lt]
    rw [e]
    omega
  rw [e1, e]
theorem and7 (y : Int) : aAnd y 7 = y % 8 := by
  have h : aAnd y ((7 : Nat) : Int) = _ := and_pow y 3 7 (by decide) (by decide)
  rw [show ((7 : Nat) : Int) = 7 from rfl] at h
  rw [h]
  show (y % 4294967296) % 8 = y % 8
  omega
theorem bit_tab : ∀ u, u < 128 → ∀ w, w < 7 → aAnd (aUshr ((u : Nat) : Int) ((w : Nat) : Int)) 1 = (if u.testBit w = true then 1 else 0) := by decide +kernel
theorem shl_tab : ∀ w, w < 8 → aShl 1 ((w : Nat) : Int) = ((2 ^ w : Nat) : Int) := by decide +kernel
theorem or_tab {u w : Nat} (hu : u < 128) (hw : w < 7) : aOr (u : Int) (aShl 1 (w : Int)) = ((u ||| 2 ^ w : Nat) : Int) := by
  rw [shl_tab w (by omega)]
  have : 2 ^ w ≤ 2 ^ 7 := Nat.pow_le_pow_right (by decide) (by omega)
  exact or_nat (by omega) (by omega)
def pcn (u : Nat) : Nat := (if u.testBit 0 = true then 1 else 0) + (if u.testBit 1 = true then 1 else 0) + (if u.testBit 2 = true then 1 else 0) + (if u.testBit 3 = true then 1 else 0) + (if u.testBit 4 = true then 1 else 0) + (if u.testBit 5 = true then 1 else 0) + (if u.testBit 6 = true then 1 else 0)
theorem pcn_tab : ∀ u, u < 128 → ∀ w, w < 7 → u.testBit w = false → pcn (u ||| 2 ^ w) = pcn u + 1 ∧ u < u ||| 2 ^ w := by decide +kernel
theorem pcn_le : ∀ n, n < 8 → ∀ u, u < 2 ^ n → pcn u ≤ n ∧ (u + 1 < 2 ^ n → pcn u < n) := by decide +kernel
theorem or_lt {n u w : Nat} (hu : u < 2 ^ n) (hw : w < n) : u ||| 2 ^ w < 2 ^ n := Nat.or_lt_two_pow hu (Nat.pow_lt_pow_right (by decide) hw)
def bc1 (x : Int) : Int := wr (x - aAnd (aUshr x 1) 1431655765)
def bc2 (x : Int) : Int := wr (aAnd x 858993459 + aAnd (aUshr x 2) 858993459)
def bc3 (x : Int) : Int := aAnd (wr (x + aUshr x 4)) 252645135
def bc4 (x : Int) : Int := wr (x + aUshr x 8)
def bc5 (x : Int) : Int := aAnd (wr (x + aUshr x 16)) 63
theorem bc_tab : ∀ u, u < 128 → bc5 (bc4 (bc3 (bc2 (bc1 ((u : Nat) : Int))))) = ((pcn u : Nat) : Int) := by decide +kernel
-- a row as one number
def pk8 : List Nat → Nat
  | [] => 0
  | w :: t => w + 8 * pk8 t
theorem pk8_lt : ∀ l : List Nat, (∀ x, x ∈ l → x < 8) → pk8 l < 8 ^ l.length := by
  intro l
  induction l with
  | nil => intro _; decide
  | cons w t ih =>
    intro h
    have h1 := ih (fun x hx => h x (List.mem_cons_of_mem _ hx))
    have h2 := h w List.mem_cons_self
    show w + 8 * pk8 t < 8 ^ (t.length + 1)
    rw [Nat.pow_succ]
    omega
theorem pk8_snoc : ∀ (l : List Nat) (w : Nat), pk8 (l ++ [w]) = pk8 l + w * 8 ^ l.length := by
  intro l
  induction l with
  | nil => intro w; simp [pk8]
  | cons a t ih =>
    intro w
    show a + 8 * pk8 (t ++ [w]) = a + 8 * pk8 t + w * 8 ^ (t.length + 1)
    rw [ih, Nat.pow_succ, Nat.mul_add, ← Nat.mul_assoc, Nat.mul_comm 8 w, Nat.mul_assoc, Nat.mul_comm 8 (8 ^ t.length)]
    omega
theorem pk8_get : ∀ (l : List Nat), (∀ x, x ∈ l → x < 8) → ∀ i, i < l.length → (pk8 l / 8 ^ i) % 8 = l.getD i 0 := by
  intro l
  induction l with
  | nil => intro _ i h; simp at h
  | cons w t ih =>
    intro h i hi
    have h2 := h w List.mem_cons_self
    cases i with
    | zero =>
      show ((w + 8 * pk8 t) / 8 ^ 0) % 8 = w
      rw [Nat.pow_zero, Nat.div_one]
      omega
    | succ i =>
      show ((w + 8 * pk8 t) / 8 ^ (i + 1)) % 8 = t.getD i 0
      rw [Nat.pow_succ, Nat.mul_comm (8 ^ i) 8, ← Nat.div_div_eq_div_mul, show (w + 8 * pk8 t) / 8 = pk8 t by omega]
      exact ih (fun x hx => h x (List.mem_cons_of_mem _ hx)) i (by simpa using hi)
theorem shl3_tab : ∀ m, m < 7 → ∀ w, w < 8 → aShl ((w : Nat) : Int) (3 * ((m : Nat) : Int)) = ((w * 8 ^ m : Nat) : Int) := by decide +kernel
theorem pk_step {p w m : Nat} (hp : p < 8 ^ m) (hm : m < 7) (hw : w < 8) : aOr (p : Int) (aShl (w : Int) (3 * (m : Int))) = ((p + w * 8 ^ m : Nat) : Int) := by
  have h7 : 8 ^ m ≤ 8 ^ 6 := Nat.pow_le_pow_right (by decide) (by omega)
  have h8 : w * 8 ^ m ≤ 7 * 8 ^ 6 := Nat.mul_le_mul (by omega) h7
  rw [shl3_tab m hm w hw, or_nat (by omega) (by omega)]
  have e : 8 ^ m = 2 ^ (3 * m) := by rw [show (8 : Nat) = 2 ^ 3 from rfl, ← Nat.pow_mul]
  rw [e] at hp ⊢
  have := Nat.two_pow_add_eq_or_of_lt hp w
  rw [Nat.or_comm, Nat.mul_comm w, ← this, Nat.add_comm]
theorem un_pk {l : List Nat} (hl : ∀ x, x ∈ l → x < 8) (h7 : l.length ≤ 7) {i : Nat} (hi : i < l.length) : aAnd (aUshr (pk8 l : Int) (3 * (i : Int))) 7 = (l.getD i 0 : Int) := by
  have hlt := pk8_lt l hl
  have h8 : 8 ^ l.length ≤ 8 ^ 7 := Nat.pow_le_pow_right (by decide) h7
  have hb : pk8 l < 2097152 := Nat.lt_of_lt_of_le hlt h8
  have hg := pk8_get l hl i hi
  have key : aUshr (pk8 l : Int) (3 * (i : Int)) = ((pk8 l / 8 ^ i : Nat) : Int) := by
    have hi7 : i = 0 ∨ i = 1 ∨ i = 2 ∨ i = 3 ∨ i = 4 ∨ i = 5 ∨ i = 6 := by omega
    rcases hi7 with rfl | rfl | rfl | rfl | rfl | rfl | rfl
    · rw [show 3 * ((0 : Nat) : Int) = 0 from rfl, ushr0_val ⟨by omega, by omega⟩]; simp
    · rw [ushr_val _ _ 3 (by decide) (by decide)]; show ((pk8 l : Int) % 4294967296) / 8 = ((pk8 l / 8 : Nat) : Int); omega
    · rw [ushr_val _ _ 6 (by decide) (by decide)]; show ((pk8 l : Int) % 4294967296) / 64 = ((pk8 l / 64 : Nat) : Int); omega
    · rw [ushr_val _ _ 9 (by decide) (by decide)]; show ((pk8 l : Int) % 4294967296) / 512 = ((pk8 l / 512 : Nat) : Int); omega
    · rw [ushr_val _ _ 12 (by decide) (by decide)]; show ((pk8 l : Int) % 4294967296) / 4096 = ((pk8 l / 4096 : Nat) : Int); omega
    · rw [ushr_val _ _ 15 (by decide) (by decide)]; show ((pk8 l : Int) % 4294967296) / 32768 = ((pk8 l / 32768 : Nat) : Int); omega
    · rw [ushr_val _ _ 18 (by decide) (by decide)]; show ((pk8 l : Int) % 4294967296) / 262144 = ((pk8 l / 262144 : Nat) : Int); omega
  rw [key, and7, ← hg]
  omega
-- a seat more
def Qt (K : Nat → Int) (pre : List Nat) (w i : Nat) : Prop := ¬ (more K 0 i w (pre.getD i 0) ∧ more K 1 w i pre.length) ∧ ¬ (more K 0 pre.length (pre.getD i 0) w ∧ more K 1 (pre.getD i 0) pre.length i)
theorem hd_snoc {K : Nat → Int} {pre : List Nat} (h : Hd K pre) (w : Nat) : Hd K (pre ++ [w]) ↔ ∀ i, i < pre.length → Qt K pre w i := by
  have e1 : ∀ i, i < pre.length → (pre ++ [w]).getD i 0 = pre.getD i 0 := fun i hi => by rw [getD_snoc, if_pos hi]
  have e2 : (pre ++ [w]).getD pre.length 0 = w := by rw [getD_snoc, if_neg (by omega), if_pos rfl]
  have el : (pre ++ [w]).length = pre.length + 1 := by simp
  constructor
  · intro q i hi
    have q1 := q i pre.length (by omega) (by omega)
    have q2 := q pre.length i (by omega) (by omega)
    rw [e1 i hi, e2] at q1 q2
    exact ⟨q1, q2⟩
  · intro q i j hi hj
    rw [el] at hi hj
    by_cases hi2 : i < pre.length
    · by_cases hj2 : j < pre.length
      · rw [e1 i hi2, e1 j hj2]; exact h i j hi2 hj2
      · have : j = pre.length := by omega
        subst this
        rw [e1 i hi2, e2]; exact (q i hi2).1
    · have : i = pre.length := by omega
      subst this
      by_cases hj2 : j < pre.length
      · rw [e1 j hj2, e2]; exact (q j hj2).2
      · have : j = pre.length := by omega
        subst this
        rw [e2]
        intro q2
        have := q2.1
        unfold more at this
        omega
theorem hd_pre {K : Nat → Int} : ∀ (t pre : List Nat), Hd K (pre ++ t) → Hd K pre := by
  intro t pre h i j hi hj
  have := h i j (by simp; omega) (by simp; omega)
  rw [List.getD_eq_getElem?_getD, List.getD_eq_getElem?_getD, List.getElem?_append_left hi, List.getElem?_append_left hj] at this
  rw [List.getD_eq_getElem?_getD, List.getD_eq_getElem?_getD]
  exact this
theorem hd_none {K : Nat → Int} {n : Nat} {k : Nat} {pre : List Nat} (hR : Rw n pre) (h : ¬ Hd K pre) : (prm n k pre).filter (hdB K) = [] := by
  rw [List.filter_eq_nil_iff]
  intro l hl hb
  obtain ⟨_, _, t, rfl⟩ := prm_ok k pre l hR hl
  exact h (hd_pre t pre (hdB_t.mp hb))
