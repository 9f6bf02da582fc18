-- SUMS OF RANKS
def rk (K : Nat → Int) (n s k a : Nat) : Int := sm (fun o => if more K s k o a then 1 else 0) n
theorem rk_lt {K : Nat → Int} {n s k a b : Nat} (ha : a < n) (h : more K s k a b) : rk K n s k a < rk K n s k b := by
  have hle : ∀ x, x < n → (if more K s k x a then (1 : Int) else 0) ≤ (if more K s k x b then 1 else 0) := by
    intro x _
    by_cases h1 : more K s k x a
    · have h2 : more K s k x b := by unfold more at *; omega
      rw [if_pos h1, if_pos h2]
      exact Int.le_refl _
    · rw [if_neg h1]
      split <;> decide
  have h1 := sm_le n hle
  rcases Int.lt_or_le (rk K n s k a) (rk K n s k b) with q | q
  · exact q
  · exfalso
    have h2 := sm_eq n hle q a ha
    have h3 : ¬ more K s k a a := by unfold more; omega
    rw [if_neg h3, if_pos h] at h2
    exact absurd h2 (by decide)
theorem rk_le {K : Nat → Int} {n s k a b : Nat} (ha : a < n) (h : ¬ more K s k b a) : rk K n s k a ≤ rk K n s k b := by
  by_cases e : a = b
  · rw [e]; exact Int.le_refl _
  · have h2 : more K s k a b := by unfold more at *; omega
    have := rk_lt ha h2
    omega
theorem rk_in (K : Nat → Int) (n s k a : Nat) : 0 ≤ rk K n s k a ∧ rk K n s k a ≤ n := by
  have := sm_bd (h := fun o => if more K s k o a then (1 : Int) else 0) (a := 0) (b := 1) n (fun x _ => by split <;> decide)
  unfold rk
  omega
theorem rk_in2 (K : Nat → Int) {n s k a : Nat} (ha : a < n) : rk K n s k a ≤ (n - 1 : Nat) := by
  have h1 := sm_upd (fun o => if more K s k o a then (1 : Int) else 0) a 1 n
  have h3 : ¬ more K s k a a := by unfold more; omega
  rw [if_pos ha, if_neg h3] at h1
  have h2 := sm_bd (h := fun x => if x = a then (1 : Int) else if more K s k x a then 1 else 0) (a := 0) (b := 1) n (fun x _ => by
    show (0 : Int) ≤ (if x = a then (1 : Int) else if more K s k x a then 1 else 0) ∧ (if x = a then (1 : Int) else if more K s k x a then 1 else 0) ≤ 1
    split
    · decide
    · split <;> decide)
  unfold rk
  omega
def rs (K : Nat → Int) (n s : Nat) (l : List Nat) : Int := sm (fun m => if s = 0 then rk K n 0 m (l.getD m 0) else rk K n 1 (l.getD m 0) m) n
theorem rs_in (K : Nat → Int) (n s : Nat) {l : List Nat} (hl : l ∈ rowsN n) (h1 : 1 ≤ n) (h7 : n ≤ 7) : 0 ≤ rs K n s l ∧ rs K n s l < 49 := by
  obtain ⟨r1, r2⟩ := rows_iff.mp hl
  have := sm_bd (h := fun m => if s = 0 then rk K n 0 m (l.getD m 0) else rk K n 1 (l.getD m 0) m) (a := 0) (b := 6) n (fun x hx => by
    show 0 ≤ (if s = 0 then rk K n 0 x (l.getD x 0) else rk K n 1 (l.getD x 0) x) ∧ (if s = 0 then rk K n 0 x (l.getD x 0) else rk K n 1 (l.getD x 0) x) ≤ 6
    have hlt := r1.lt (i := x) (by omega)
    have a1 := rk_in K n 0 x (l.getD x 0)
    have a2 := rk_in2 K (s := 0) (k := x) hlt
    have a3 := rk_in K n 1 (l.getD x 0) x
    have a4 := rk_in2 K (s := 1) (k := l.getD x 0) hx
    split <;> omega)
  unfold rs
  omega
theorem best0 {K : Nat → Int} {n : Nat} {o h : List Nat} (ho : Opt0 K n o) (hh : h ∈ heldL K n) (hr : rs K n 0 h ≤ rs K n 0 o) : h = o := by
  obtain ⟨r1, r2⟩ := rows_iff.mp (held_iff.mp ho.1).1
  have hle : ∀ x, x < n → (if (0 : Nat) = 0 then rk K n 0 x (o.getD x 0) else rk K n 1 (o.getD x 0) x) ≤ (if (0 : Nat) = 0 then rk K n 0 x (h.getD x 0) else rk K n 1 (h.getD x 0) x) := by
    intro x hx
    rw [if_pos rfl, if_pos rfl]
    exact rk_le (r1.lt (by omega)) (ho.2 h hh x hx)
  have he := sm_eq n hle hr
  refine row_ext (held_len hh) (held_len ho.1) (fun i hi => ?_)
  have h1 := he i hi
  rw [if_pos rfl, if_pos rfl] at h1
  apply Classical.byContradiction
  intro hc
  have h2 := ho.2 h hh i hi
  have h3 : more K 0 i (o.getD i 0) (h.getD i 0) := by unfold more at *; omega
  have := rk_lt (r1.lt (i := i) (by omega)) h3
  omega
/-- a row's own inverse -/
theorem inv_ex {n : Nat} {l : List Nat} (hl : l ∈ rowsN n) : ∃ g : Nat → Nat, (∀ w, w < n → g w < n ∧ l.getD (g w) 0 = w) ∧ ∀ m, m < n → g (l.getD m 0) = m := by
  obtain ⟨r1, r2⟩ := rows_iff.mp hl
  have hs : ∀ w, w < n → ∃ m, m < n ∧ l.getD m 0 = w := fun w hw => inj_surj (f := fun i => l.getD i 0) (fun i hi => r1.lt (by omega)) (fun a b ha hb e => r1.inj (by omega) (by omega) e) hw
  let g : Nat → Nat := fun w => if q : w < n then Classical.choose (hs w q) else 0
  have hg : ∀ w, w < n → g w < n ∧ l.getD (g w) 0 = w := by
    intro w q
    have q5 := Classical.choose_spec (hs w q)
    have e5 : g w = Classical.choose (hs w q) := by show (if h : w < n then _ else _) = _; rw [dif_pos q]
    rw [e5]
    exact q5
  refine ⟨g, hg, fun m hm => ?_⟩
  have hlt := r1.lt (i := m) (by omega)
  exact r1.inj (by have := (hg _ hlt).1; omega) (by omega) (hg _ hlt).2
theorem rs1_inv {K : Nat → Int} {n : Nat} {l : List Nat} (hl : l ∈ rowsN n) {g : Nat → Nat} (hg : ∀ m, m < n → g (l.getD m 0) = m) : rs K n 1 l = sm (fun w => rk K n 1 w (g w)) n := by
  obtain ⟨r1, r2⟩ := rows_iff.mp hl
  rw [← sm_perm n (fun m => l.getD m 0) (fun w => rk K n 1 w (g w)) (fun a ha => r1.lt (by omega)) (fun a b ha hb e => r1.inj (by omega) (by omega) e)]
  unfold rs
  refine sm_congr n (fun x hx => ?_)
  show (if (1 : Nat) = 0 then _ else rk K n 1 (l.getD x 0) x) = rk K n 1 (l.getD x 0) (g (l.getD x 0))
  rw [if_neg (by decide), hg x hx]
theorem best1 {K : Nat → Int} {n : Nat} {o h : List Nat} (ho : Opt1 K n o) (hh : h ∈ heldL K n) (hr : rs K n 1 h ≤ rs K n 1 o) : h = o := by
  obtain ⟨go, o1, o2⟩ := inv_ex (held_iff.mp ho.1).1
  obtain ⟨gh, h1, h2⟩ := inv_ex (held_iff.mp hh).1
  have hno : ∀ w, w < n → ¬ more K 1 w (gh w) (go w) := by
    intro w hw
    have := ho.2 h hh (gh w) (go w) (h1 w hw).1 (o1 w hw).1 (by rw [(h1 w hw).2, (o1 w hw).2])
    rw [(o1 w hw).2] at this
    exact this
  rw [rs1_inv (held_iff.mp hh).1 h2, rs1_inv (held_iff.mp ho.1).1 o2] at hr
  have hle : ∀ x, x < n → rk K n 1 x (go x) ≤ rk K n 1 x (gh x) := fun x hx => rk_le (o1 x hx).1 (hno x hx)
  have he := sm_eq n hle hr
  have heq : ∀ w, w < n → gh w = go w := by
    intro w hw
    apply Classical.byContradiction
    intro hc
    have h3 : more K 1 w (go w) (gh w) := by have := hno w hw; unfold more at *; omega
    have h4 := rk_lt (o1 w hw).1 h3
    have h5 := he w hw
    omega
  refine row_ext (held_len hh) (held_len ho.1) (fun i hi => ?_)
  obtain ⟨r1, r2⟩ := rows_iff.mp (held_iff.mp hh).1
  have hlt := r1.lt (i := i) (by omega)
  have e1 := (o1 _ hlt).2
  rw [← heq _ hlt, h2 i hi] at e1
  exact e1.symm
/-- the first of the least, by its number -/
def bsi (f : List Nat → Int) : List (List Nat) → Nat → Int × Nat → Int × Nat
  | [], _, s => s
  | l :: t, i, s => bsi f t (i + 1) (if f l < s.1 then (f l, i) else s)
theorem bsi_s (f : List Nat → Int) (l : List Nat) (t : List (List Nat)) (i : Nat) (s : Int × Nat) : bsi f (l :: t) i s = bsi f t (i + 1) (if f l < s.1 then (f l, i) else s) := rfl
theorem bsi_ok (f : List Nat → Int) (H : List (List Nat)) : ∀ (t : List (List Nat)) (i : Nat) (s : Int × Nat), H.drop i = t → (∀ j l, j < i → H[j]? = some l → s.1 ≤ f l) → (s.1 = 49 ∨ ∃ l, H[s.2]? = some l ∧ s.1 = f l) → (∀ l, l ∈ H → f l < 49) → (∀ l, l ∈ H → (bsi f t i s).1 ≤ f l) ∧ ((bsi f t i s).1 = 49 ∨ ∃ l, H[(bsi f t i s).2]? = some l ∧ (bsi f t i s).1 = f l) := by
  intro t
  induction t with
  | nil =>
    intro i s hd h1 h2 _
    refine ⟨fun l hl => ?_, h2⟩
    obtain ⟨j, hj⟩ := List.getElem?_of_mem hl
    refine h1 j l ?_ hj
    have h3 := (List.getElem?_eq_some_iff.mp hj).1
    have h4 : (H.drop i).length = 0 := by rw [hd]; rfl
    rw [List.length_drop] at h4
    omega
  | cons a t ih =>
    intro i s hd h1 h2 h49
    rw [bsi_s]
    have hai : H[i]? = some a := by
      have : (H.drop i)[0]? = some a := by rw [hd]; rfl
      rw [List.getElem?_drop, Nat.add_zero] at this
      exact this
    refine ih (i + 1) _ ?_ (fun j l hj hl => ?_) ?_ h49
    · have : (H.drop i).drop 1 = t := by rw [hd]; rfl
      rw [List.drop_drop] at this
      exact this
    · by_cases hc : j = i
      · subst hc
        rw [hai] at hl
        cases hl
        split
        · exact Int.le_refl _
        · omega
      · have := h1 j l (by omega) hl
        split
        · show f a ≤ f l
          omega
        · exact this
    · split
      · exact Or.inr ⟨a, hai, rfl⟩
      · exact h2
theorem bsi_row {f : List Nat → Int} {H : List (List Nat)} (h49 : ∀ l, l ∈ H → f l < 49) (hne : H ≠ []) (x : Nat) : ∃ l, H[(bsi f H 0 (49, x)).2]? = some l ∧ ∀ l2, l2 ∈ H → f l ≤ f l2 := by
  obtain ⟨h1, h2⟩ := bsi_ok f H H 0 (49, x) rfl (fun j l hj => by omega) (Or.inl rfl) h49
  rcases h2 with q | ⟨l, q1, q2⟩
  · exfalso
    cases H with
    | nil => exact hne rfl
    | cons a t =>
      have h3 := h1 a List.mem_cons_self
      have h4 := h49 a List.mem_cons_self
      omega
  · exact ⟨l, q1, fun l2 hl => by have := h1 l2 hl; omega⟩
theorem held_ne (K : Nat → Int) (n : Nat) : heldL K n ≠ [] := by
  obtain ⟨o, ho⟩ := opt0_ex K n
  intro e
  have := ho.1
  rw [e] at this
  simp at this
