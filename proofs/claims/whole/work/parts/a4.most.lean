theorem chk_at {n : Nat} : ∀ (L : List (List Nat)) (i : Nat) (l : List Nat), chkL n L = true → L[i]? = some l → nxL n l = L[i + 1]? := by
  intro L
  induction L with
  | nil => intro i l _ h; simp at h
  | cons a t ih =>
    intro i l hc h
    cases t with
    | nil =>
      have h0 : decide (nxL n a = none) = true := hc
      cases i with
      | zero =>
        simp at h
        subst h
        rw [of_decide_eq_true h0]
        simp
      | succ i => simp at h
    | cons b t =>
      have h0 : (decide (nxL n a = some b) && chkL n (b :: t)) = true := hc
      rw [Bool.and_eq_true] at h0
      cases i with
      | zero =>
        simp at h
        subst h
        rw [of_decide_eq_true h0.1]
        simp
      | succ i =>
        have := ih i l h0.2 (by simpa using h)
        rw [this]
        simp
theorem rows_next {n : Nat} (h1 : 1 ≤ n) (h7 : n ≤ 7) {i : Nat} {l : List Nat} (h : (rowsN n)[i]? = some l) : nxL n l = (rowsN n)[i + 1]? := by
  have hc : chkL n (rowsN n) = true := by
    have : n = 1 ∨ n = 2 ∨ n = 3 ∨ n = 4 ∨ n = 5 ∨ n = 6 ∨ n = 7 := by omega
    rcases this with rfl | rfl | rfl | rfl | rfl | rfl | rfl
    · exact chain1
    · exact chain2
    · exact chain3
    · exact chain4
    · exact chain5
    · exact chain6
    · exact chain7
  exact chk_at _ _ _ hc h
theorem rows_len {n : Nat} (h1 : 1 ≤ n) (h7 : n ≤ 7) : (rowsN n).length ≤ 5040 := by
  obtain ⟨a, b, c, d, e, f⟩ := rows_1
  have : n = 1 ∨ n = 2 ∨ n = 3 ∨ n = 4 ∨ n = 5 ∨ n = 6 ∨ n = 7 := by omega
  rcases this with rfl | rfl | rfl | rfl | rfl | rfl | rfl
  · rw [a]; decide
  · rw [b]; decide
  · rw [c]; decide
  · rw [d]; decide
  · rw [e]; decide
  · rw [f]; decide
  · rw [rows_7]; decide
-- LIKES of all together
def sR (K : Nat → Int) (l : List Nat) : Int := sm (fun i => both K i (l.getD i 0)) l.length
theorem getD_snoc (l : List Nat) (w i : Nat) : (l ++ [w]).getD i 0 = if i < l.length then l.getD i 0 else if i = l.length then w else 0 := by
  rw [List.getD_eq_getElem?_getD, List.getD_eq_getElem?_getD]
  by_cases h : i < l.length
  · rw [if_pos h, List.getElem?_append_left h]
  · rw [if_neg h, List.getElem?_append_right (by omega)]
    by_cases h2 : i = l.length
    · rw [if_pos h2, h2]; simp
    · rw [if_neg h2]
      rw [List.getElem?_eq_none (by simp; omega)]
      rfl
theorem sR_snoc (K : Nat → Int) (l : List Nat) (w : Nat) : sR K (l ++ [w]) = sR K l + both K l.length w := by
  unfold sR
  rw [show (l ++ [w]).length = l.length + 1 by simp, sm_s, getD_snoc, if_neg (by omega), if_pos rfl]
  rw [sm_congr (g := fun i => both K i (l.getD i 0)) l.length (fun x hx => by show both K x ((l ++ [w]).getD x 0) = _; rw [getD_snoc, if_pos hx])]
def Lok (K : Nat → Int) : Prop := ∀ i, 0 ≤ K i ∧ K i ≤ 99
theorem both_in {K : Nat → Int} (h : Lok K) (m w : Nat) : 0 ≤ both K m w ∧ both K m w ≤ 198 := by
  unfold both lk
  have h1 := h (49 * 0 + 7 * m + w)
  have h2 := h (49 * 1 + 7 * w + m)
  omega
theorem sR_in {K : Nat → Int} (h : Lok K) (l : List Nat) : 0 ≤ sR K l ∧ sR K l ≤ 198 * l.length := by
  have := sm_bd (h := fun i => both K i (l.getD i 0)) (a := 0) (b := 198) l.length (fun x _ => both_in h _ _)
  unfold sR
  omega
-- the first of the greatest
def fmx (f : List Nat → Int) : List (List Nat) → Int × List Nat → Int × List Nat
  | [], s => s
  | l :: t, s => fmx f t (if s.1 < f l then (f l, l) else s)
theorem fmx_s (f : List Nat → Int) (l : List Nat) (t : List (List Nat)) (s : Int × List Nat) : fmx f (l :: t) s = fmx f t (if s.1 < f l then (f l, l) else s) := rfl
theorem fmx_app (f : List Nat → Int) : ∀ (a b : List (List Nat)) (s : Int × List Nat), fmx f (a ++ b) s = fmx f b (fmx f a s) := by
  intro a
  induction a with
  | nil => intro b s; rfl
  | cons l t ih => intro b s; rw [List.cons_append, fmx_s, fmx_s, ih]
theorem fmx_ge (f : List Nat → Int) : ∀ (L : List (List Nat)) (s : Int × List Nat), s.1 ≤ (fmx f L s).1 ∧ ∀ l, l ∈ L → f l ≤ (fmx f L s).1 := by
  intro L
  induction L with
  | nil => intro s; exact ⟨Int.le_refl _, fun l h => absurd h (by simp)⟩
  | cons a t ih =>
    intro s
    rw [fmx_s]
    have h1 := ih (if s.1 < f a then (f a, a) else s)
    have h2 : s.1 ≤ (if s.1 < f a then (f a, a) else s).1 ∧ f a ≤ (if s.1 < f a then (f a, a) else s).1 := by
      split
      · exact ⟨by show s.1 ≤ f a; omega, Int.le_refl _⟩
      · exact ⟨Int.le_refl _, by omega⟩
    refine ⟨by omega, fun l hl => ?_⟩
    rcases List.mem_cons.mp hl with rfl | q
    · omega
    · exact h1.2 l q
theorem fmx_in (f : List Nat → Int) : ∀ (L : List (List Nat)) (s : Int × List Nat), fmx f L s = s ∨ ((fmx f L s).2 ∈ L ∧ (fmx f L s).1 = f (fmx f L s).2) := by
  intro L
  induction L with
  | nil => intro s; exact Or.inl rfl
  | cons a t ih =>
    intro s
    rw [fmx_s]
    rcases ih (if s.1 < f a then (f a, a) else s) with q | q
    · rw [q]
      split
      · exact Or.inr ⟨List.mem_cons_self, rfl⟩
      · exact Or.inl rfl
    · exact Or.inr ⟨List.mem_cons_of_mem _ q.1, q.2⟩
-- the greatest of some values that aren't below 0, and the first with it
def mxA (val : Nat → Int) : Int → List Nat → Int
  | a, [] => a
  | a, w :: t => mxA val (if a < val w then val w else a) t
def fsw (p : Nat → Prop) [DecidablePred p] : List Nat → Nat
  | [] => 0
  | w :: t => if p w then w else fsw p t
theorem mxA_c (val : Nat → Int) (a : Int) (w : Nat) (t : List Nat) : mxA val a (w :: t) = mxA val (if a < val w then val w else a) t := rfl
theorem mxA_ge0 (val : Nat → Int) : ∀ (t : List Nat) (a : Int), a ≤ mxA val a t := by
  intro t
  induction t with
  | nil => intro a; exact Int.le_refl _
  | cons x t ih =>
    intro a
    rw [mxA_c]
    have h1 := ih (if a < val x then val x else a)
    have h2 : a ≤ (if a < val x then val x else a) := by split <;> omega
    omega
theorem mxA_max (val : Nat → Int) : ∀ (t : List Nat) (a b : Int), b ≤ a → mxA val a t = if a < mxA val b t then mxA val b t else a := by
  intro t
  induction t with
  | nil => intro a b h; show a = if a < b then b else a; rw [if_neg (by omega)]
  | cons w t ih =>
    intro a b h
    rw [mxA_c, mxA_c]
    by_cases h1 : a < val w
    · rw [if_pos h1, if_pos (show b < val w by omega)]
      have := (mxA_ge0 val t (val w))
      rw [if_pos (by omega)]
    · rw [if_neg h1]
      by_cases h2 : b < val w
      · rw [if_pos h2]; exact ih a (val w) (by omega)
      · rw [if_neg h2]; exact ih a b h
theorem mxA_ge (val : Nat → Int) : ∀ (t : List Nat) (a : Int), a ≤ mxA val a t ∧ ∀ w, w ∈ t → val w ≤ mxA val a t := by
  intro t
  induction t with
  | nil => intro a; exact ⟨Int.le_refl _, fun w h => absurd h (by simp)⟩
  | cons x t ih =>
    intro a
    rw [mxA_c]
    have h1 := ih (if a < val x then val x else a)
    have h2 : a ≤ (if a < val x then val x else a) ∧ val x ≤ (if a < val x then val x else a) := by split <;> omega
    refine ⟨by omega, fun w hw => ?_⟩
    rcases List.mem_cons.mp hw with rfl | q
    · omega
    · exact h1.2 w q
theorem mxA_cons (val : Nat → Int) (w : Nat) (t : List Nat) (hw : 0 ≤ val w) : mxA val 0 (w :: t) = if val w < mxA val 0 t then mxA val 0 t else val w := by
  rw [mxA_c]
  have e : (if (0 : Int) < val w then val w else 0) = val w := by split <;> omega
  rw [e]
  exact mxA_max val t (val w) 0 hw
def upB (c : Int) (val : Nat → Int) (g : Nat → List Nat) : List Nat → Int × List Nat → Int × List Nat
  | [], s => s
  | w :: t, s => upB c val g t (if s.1 < c + val w then (c + val w, g w) else s)
theorem upB_ok (c : Int) (val : Nat → Int) (g : Nat → List Nat) : ∀ (t : List Nat), t ≠ [] → (∀ w, w ∈ t → 0 ≤ val w) → ∀ s : Int × List Nat, upB c val g t s = if s.1 < c + mxA val 0 t then (c + mxA val 0 t, g (fsw (fun w => val w = mxA val 0 t) t)) else s := by
  intro t
  induction t with
  | nil => intro h; exact absurd rfl h
  | cons w t ih =>
    intro _ hp s
    have hw := hp w List.mem_cons_self
    show upB c val g t (if s.1 < c + val w then (c + val w, g w) else s) = _
    rw [mxA_cons val w t hw]
    by_cases ht : t = []
    · subst ht
      have e : (if val w < mxA val 0 [] then mxA val 0 [] else val w) = val w := by
        show (if val w < 0 then 0 else val w) = val w
        rw [if_neg (by omega)]
      rw [e]
      show (if s.1 < c + val w then (c + val w, g w) else s) = if s.1 < c + val w then (c + val w, g (if val w = val w then w else _)) else s
      rw [if_pos rfl]
    · rw [ih ht (fun x hx => hp x (List.mem_cons_of_mem _ hx))]
      by_cases h1 : val w < mxA val 0 t
      · rw [if_pos h1]
        have hf : fsw (fun x => val x = mxA val 0 t) (w :: t) = fsw (fun x => val x = mxA val 0 t) t := by
          show (if val w = mxA val 0 t then w else _) = _
          rw [if_neg (by omega)]
        rw [hf]
        by_cases h2 : s.1 < c + val w
        · rw [if_pos h2, if_pos (show c + val w < c + mxA val 0 t by omega), if_pos (by omega)]
        · rw [if_neg h2]
      · rw [if_neg h1]
        have hf : fsw (fun x => val x = val w) (w :: t) = w := by
          show (if val w = val w then w else _) = _
          rw [if_pos rfl]
        rw [hf]
        by_cases h2 : s.1 < c + val w
        · rw [if_pos h2, if_neg (show ¬ c + val w < c + mxA val 0 t by omega)]
        · rw [if_neg h2, if_neg (by omega)]
-- sets of WOMEN as numbers
def msk : List Nat → Nat
  | [] => 0
  | w :: t => 2 ^ w ||| msk t
theorem msk_bit : ∀ (l : List Nat) (x : Nat), (msk l).testBit x = decide (x ∈ l) := by
  intro l
  induction l with
  | nil => intro x; simp [msk]
  | cons w t ih =>
    intro x
    show (2 ^ w ||| msk t).testBit x = _
    rw [Nat.testBit_or, ih, Nat.testBit_two_pow]
    by_cases h : w = x
    · subst h; simp
    · have : ¬ x = w := fun q => h q.symm
      simp [h, this]
theorem msk_snoc (l : List Nat) (w : Nat) : msk (l ++ [w]) = msk l ||| 2 ^ w := by
  apply Nat.eq_of_testBit_eq
  intro x
  rw [msk_bit, Nat.testBit_or, msk_bit, Nat.testBit_two_pow]
  by_cases h : w = x
  · subst h; simp
  · have : ¬ x = w := fun q => h q.symm
    simp [h, this]
def avM (u : Nat) : Nat → Nat → List Nat
  | 0, _ => []
  | m + 1, x => if u.testBit x = true then avM u m (x + 1) else x :: avM u m (x + 1)
theorem avM_s (u m x : Nat) : avM u (m + 1) x = if u.testBit x = true then avM u m (x + 1) else x :: avM u m (x + 1) := rfl
theorem av_msk (l : List Nat) : ∀ m x, avM (msk l) m x = avF l m x := by
  intro m
  induction m with
  | zero => intro x; rfl
  | succ m ih =>
    intro x
    rw [avM_s, avF_s, ih, msk_bit]
    by_cases h : x ∈ l
    · rw [if_pos (by simp [h]), if_pos h]
    · rw [if_neg (by simp [h]), if_neg h]
/-- the most that the k last MEN can have with the WOMEN that aren't in u -/
def bvM (K : Nat → Int) (n : Nat) : Nat → Nat → Int
  | 0, _ => 0
  | k + 1, u => mxA (fun w => both K (n - (k + 1)) w + bvM K n k (u ||| 2 ^ w)) 0 (avM u n 0)
theorem bvM_s (K : Nat → Int) (n k u : Nat) : bvM K n (k + 1) u = mxA (fun w => both K (n - (k + 1)) w + bvM K n k (u ||| 2 ^ w)) 0 (avM u n 0) := rfl
def grM (K : Nat → Int) (n : Nat) : Nat → Nat → List Nat
  | 0, _ => []
  | k + 1, u => fsw (fun w => both K (n - (k + 1)) w + bvM K n k (u ||| 2 ^ w) = bvM K n (k + 1) u) (avM u n 0) :: grM K n k (u ||| 2 ^ fsw (fun w => both K (n - (k + 1)) w + bvM K n k (u ||| 2 ^ w) = bvM K n (k + 1) u) (avM u n 0))
theorem grM_s (K : Nat → Int) (n k u : Nat) : grM K n (k + 1) u = fsw (fun w => both K (n - (k + 1)) w + bvM K n k (u ||| 2 ^ w) = bvM K n (k + 1) u) (avM u n 0) :: grM K n k (u ||| 2 ^ fsw (fun w => both K (n - (k + 1)) w + bvM K n k (u ||| 2 ^ w) = bvM K n (k + 1) u) (avM u n 0)) := rfl
theorem bvM_ge (K : Nat → Int) (n k u : Nat) : 0 ≤ bvM K n k u := by
  cases k with
  | zero => exact Int.le_refl _
  | succ k => rw [bvM_s]; exact (mxA_ge _ _ _).1
theorem mxA_le (val : Nat → Int) (b : Int) : ∀ (t : List Nat) (a : Int), a ≤ b → (∀ w, w ∈ t → val w ≤ b) → mxA val a t ≤ b := by
  intro t
  induction t with
  | nil => intro a h _; exact h
  | cons w t ih =>
    intro a h hp
    rw [mxA_c]
    have h2 := hp w List.mem_cons_self
    exact ih _ (by split <;> omega) (fun x hx => hp x (List.mem_cons_of_mem _ hx))
theorem bvM_le {K : Nat → Int} (hK : Lok K) (n : Nat) : ∀ k u, bvM K n k u ≤ 198 * k := by
  intro k
  induction k with
  | zero => intro u; exact Int.le_refl _
  | succ k ih =>
    intro u
    rw [bvM_s]
    refine mxA_le _ _ _ _ (by omega) (fun w _ => ?_)
    have h1 := both_in hK (n - (k + 1)) w
    have h2 := ih (u ||| 2 ^ w)
    show both K (n - (k + 1)) w + bvM K n k (u ||| 2 ^ w) ≤ 198 * ((k + 1 : Nat) : Int)
    omega
theorem av_ne {n : Nat} {pre : List Nat} (h : Rw n pre) (hl : pre.length < n) : avF pre n 0 ≠ [] := by
  intro e
  have h1 : ∀ w, w < n → w ∈ pre := by
    intro w hw
    apply Classical.byContradiction
    intro hc
    have : w ∈ avF pre n 0 := (avF_mem pre n 0 w).mpr ⟨by omega, by omega, hc⟩
    rw [e] at this
    simp at this
  have h2 := List.Nodup.length_le_of_subset (l₁ := List.range n) (l₂ := pre) List.nodup_range (fun x hx => h1 x (List.mem_range.mp hx))
  rw [List.length_range] at h2
  omega
theorem fmx_prm {K : Nat → Int} (hK : Lok K) {n : Nat} : ∀ (k : Nat) (pre : List Nat), Rw n pre → pre.length + k = n → ∀ s : Int × List Nat, fmx (sR K) (prm n k pre) s = if s.1 < sR K pre + bvM K n k (msk pre) then (sR K pre + bvM K n k (msk pre), pre ++ grM K n k (msk pre)) else s := by
  intro k
  induction k with
  | zero =>
    intro pre _ _ s
    show (if s.1 < sR K pre then (sR K pre, pre) else s) = if s.1 < sR K pre + 0 then (sR K pre + 0, pre ++ []) else s
    rw [Int.add_zero, List.append_nil]
  | succ k ih =>
    intro pre hR hl s
    have hav := av_msk pre n 0
    have hne := av_ne hR (by omega)
    have hlen : n - (k + 1) = pre.length := by omega
    let val : Nat → Int := fun w => both K (n - (k + 1)) w + bvM K n k (msk pre ||| 2 ^ w)
    let g : Nat → List Nat := fun w => pre ++ w :: grM K n k (msk pre ||| 2 ^ w)
    have hblk : ∀ (t : List Nat), (∀ w, w ∈ t → w < n ∧ w ∉ pre) → ∀ s, fmx (sR K) (t.flatMap (fun w => prm n k (pre ++ [w]))) s = upB (sR K pre) val g t s := by
      intro t
      induction t with
      | nil => intro _ s; rfl
      | cons w t iht =>
        intro ht s
        have hw := ht w List.mem_cons_self
        rw [List.flatMap_cons, fmx_app, iht (fun x hx => ht x (List.mem_cons_of_mem _ hx)), ih (pre ++ [w]) (hR.snoc hw.1 hw.2) (by simp; omega)]
        show _ = upB (sR K pre) val g t (if s.1 < sR K pre + val w then (sR K pre + val w, g w) else s)
        have e1 : sR K (pre ++ [w]) + bvM K n k (msk (pre ++ [w])) = sR K pre + val w := by
          rw [sR_snoc, msk_snoc]
          show _ = sR K pre + (both K (n - (k + 1)) w + bvM K n k (msk pre ||| 2 ^ w))
          rw [hlen]
          omega
        have e2 : pre ++ [w] ++ grM K n k (msk (pre ++ [w])) = g w := by
          rw [msk_snoc]
          show _ = pre ++ w :: grM K n k (msk pre ||| 2 ^ w)
          simp
        rw [e1, e2]
    rw [prm_s, hblk _ (fun w hw => by have := (avF_mem pre n 0 w).mp hw; exact ⟨by omega, this.2.2⟩), upB_ok _ _ _ _ hne (fun w _ => by
      have h1 := both_in hK (n - (k + 1)) w
      have h2 := bvM_ge K n k (msk pre ||| 2 ^ w)
      show 0 ≤ both K (n - (k + 1)) w + bvM K n k (msk pre ||| 2 ^ w)
      omega)]
    have e3 : mxA val 0 (avF pre n 0) = bvM K n (k + 1) (msk pre) := by rw [bvM_s, hav]
    rw [e3, grM_s, hav]
/-- THE MOST -/
def mostL (K : Nat → Int) (n : Nat) : List Nat := grM K n n 0
def mostV (K : Nat → Int) (n : Nat) : Int := bvM K n n 0
theorem most_fmx {K : Nat → Int} (hK : Lok K) (n : Nat) (r : List Nat) : fmx (sR K) (rowsN n) (-1, r) = (mostV K n, mostL K n) := by
  have h := fmx_prm (n := n) hK n [] ⟨fun x hx => absurd hx (by simp), List.nodup_nil⟩ (by simp) (-1, r)
  have e : msk [] = 0 := rfl
  have e2 : sR K [] = 0 := rfl
  rw [e, e2, Int.zero_add] at h
  have h0 := bvM_ge K n n 0
  rw [if_pos (show (-1 : Int) < bvM K n n 0 by omega)] at h
  exact h
theorem most_row {K : Nat → Int} (hK : Lok K) (n : Nat) : mostL K n ∈ rowsN n ∧ mostV K n = sR K (mostL K n) ∧ ∀ l, l ∈ rowsN n → sR K l ≤ mostV K n := by
  have h := most_fmx hK n []
  have h0 := bvM_ge K n n 0
  rcases fmx_in (sR K) (rowsN n) (-1, []) with q | q
  · rw [h] at q
    have : mostV K n = -1 := congrArg Prod.fst q
    unfold mostV at this
    omega
  · rw [h] at q
    refine ⟨q.1, q.2, fun l hl => ?_⟩
    have := (fmx_ge (sR K) (rowsN n) (-1, [])).2 l hl
    rw [h] at this
    exact this
