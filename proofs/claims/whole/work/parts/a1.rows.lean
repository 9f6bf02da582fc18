-- THE FEAST: likes, rows, rows that hold
def lk (K : Nat → Int) (s k j : Nat) : Int := K (49 * s + 7 * k + j)
abbrev more (K : Nat → Int) (s k a b : Nat) : Prop := lk K s k b < lk K s k a ∨ (lk K s k a = lk K s k b ∧ a < b)
def both (K : Nat → Int) (m w : Nat) : Int := lk K 0 m w + lk K 1 w m
theorem more_ord (K : Nat → Int) (s n : Nat) : Ord n (more K s) := by
  intro i _
  refine ⟨fun a h => ?_, fun a b c h1 h2 => ?_, fun a b h => ?_⟩
  · unfold more at h; omega
  · unfold more at *; omega
  · unfold more; omega
/-- nobody would leave -/
def Hd (K : Nat → Int) (l : List Nat) : Prop := ∀ i j, i < l.length → j < l.length → ¬ (more K 0 i (l.getD j 0) (l.getD i 0) ∧ more K 1 (l.getD j 0) i j)
noncomputable def hdB (K : Nat → Int) (l : List Nat) : Bool := @decide (Hd K l) (Classical.propDecidable _)
theorem hdB_t {K : Nat → Int} {l : List Nat} : hdB K l = true ↔ Hd K l := by
  unfold hdB
  exact @decide_eq_true_iff (Hd K l) (Classical.propDecidable _)
/-- those from x on, m of them, that aren't in pre -/
def avF (pre : List Nat) : Nat → Nat → List Nat
  | 0, _ => []
  | m + 1, x => if x ∈ pre then avF pre m (x + 1) else x :: avF pre m (x + 1)
theorem avF_s (pre : List Nat) (m x : Nat) : avF pre (m + 1) x = if x ∈ pre then avF pre m (x + 1) else x :: avF pre m (x + 1) := rfl
theorem avF_mem (pre : List Nat) : ∀ (m x w : Nat), w ∈ avF pre m x ↔ x ≤ w ∧ w < x + m ∧ w ∉ pre := by
  intro m
  induction m with
  | zero => intro x w; simp [avF]; omega
  | succ m ih =>
    intro x w
    rw [avF_s]
    by_cases hx : x ∈ pre
    · rw [if_pos hx, ih]
      constructor
      · rintro ⟨a, b, c⟩; exact ⟨by omega, by omega, c⟩
      · rintro ⟨a, b, c⟩
        refine ⟨?_, by omega, c⟩
        rcases Nat.lt_or_ge x w with q | q
        · exact q
        · exfalso
          have : w = x := by omega
          subst this
          exact c hx
    · rw [if_neg hx, List.mem_cons, ih]
      constructor
      · rintro (rfl | ⟨a, b, c⟩)
        · exact ⟨Nat.le_refl _, by omega, hx⟩
        · exact ⟨by omega, by omega, c⟩
      · rintro ⟨a, b, c⟩
        by_cases e : w = x
        · exact Or.inl e
        · exact Or.inr ⟨by omega, by omega, c⟩
/-- the rows that begin with pre and have k more, in order -/
def prm (n : Nat) : Nat → List Nat → List (List Nat)
  | 0, pre => [pre]
  | k + 1, pre => (avF pre n 0).flatMap (fun w => prm n k (pre ++ [w]))
theorem prm_0 (n : Nat) (pre : List Nat) : prm n 0 pre = [pre] := rfl
theorem prm_s (n k : Nat) (pre : List Nat) : prm n (k + 1) pre = (avF pre n 0).flatMap (fun w => prm n k (pre ++ [w])) := rfl
def Rw (n : Nat) (l : List Nat) : Prop := (∀ x, x ∈ l → x < n) ∧ l.Nodup
theorem Rw.snoc {n w : Nat} {l : List Nat} (h : Rw n l) (hw : w < n) (hn : w ∉ l) : Rw n (l ++ [w]) := by
  refine ⟨fun x hx => ?_, ?_⟩
  · rcases List.mem_append.mp hx with q | q
    · exact h.1 x q
    · rw [List.mem_singleton.mp q]; exact hw
  · rw [List.nodup_append]
    refine ⟨h.2, by simp, fun a ha b hb e => ?_⟩
    rw [List.mem_singleton.mp hb] at e
    exact hn (by rw [← e]; exact ha)
theorem prm_ok {n : Nat} : ∀ (k : Nat) (pre l : List Nat), Rw n pre → l ∈ prm n k pre → Rw n l ∧ l.length = pre.length + k ∧ ∃ t, l = pre ++ t := by
  intro k
  induction k with
  | zero =>
    intro pre l h hl
    rw [prm_0, List.mem_singleton] at hl
    subst hl
    exact ⟨h, rfl, [], by simp⟩
  | succ k ih =>
    intro pre l h hl
    rw [prm_s, List.mem_flatMap] at hl
    obtain ⟨w, hw, hl⟩ := hl
    have hw2 := (avF_mem pre n 0 w).mp hw
    obtain ⟨a, b, t, c⟩ := ih _ l (h.snoc (by omega) hw2.2.2) hl
    refine ⟨a, ?_, w :: t, ?_⟩
    · rw [b]; simp; omega
    · rw [c]; simp
theorem prm_all {n : Nat} : ∀ (t pre : List Nat), Rw n (pre ++ t) → pre ++ t ∈ prm n t.length pre := by
  intro t
  induction t with
  | nil => intro pre h; simp [prm_0]
  | cons w t ih =>
    intro pre h
    have e : pre ++ w :: t = (pre ++ [w]) ++ t := by simp
    show pre ++ w :: t ∈ prm n (t.length + 1) pre
    rw [prm_s, List.mem_flatMap]
    refine ⟨w, (avF_mem pre n 0 w).mpr ⟨by omega, by have := h.1 w (by simp); omega, fun q => ?_⟩, ?_⟩
    · have := h.2
      rw [List.nodup_append] at this
      exact this.2.2 w q w (by simp) rfl
    · rw [e]
      exact ih (pre ++ [w]) (by rw [← e]; exact h)
def rowsN (n : Nat) : List (List Nat) := prm n n []
theorem rows_iff {n : Nat} {l : List Nat} : l ∈ rowsN n ↔ Rw n l ∧ l.length = n := by
  constructor
  · intro h
    have := prm_ok n [] l ⟨fun x hx => absurd hx (by simp), List.nodup_nil⟩ h
    exact ⟨this.1, by have := this.2.1; simp at this; exact this⟩
  · rintro ⟨h, e⟩
    have := prm_all (n := n) l [] (by simpa using h)
    rw [e] at this
    simpa [rowsN] using this
theorem getD_mem {l : List Nat} {i : Nat} (h : i < l.length) : l.getD i 0 ∈ l := by
  rw [List.getD_eq_getElem?_getD, List.getElem?_eq_getElem h]
  exact List.getElem_mem h
theorem Rw.lt {n : Nat} {l : List Nat} (h : Rw n l) {i : Nat} (hi : i < l.length) : l.getD i 0 < n := h.1 _ (getD_mem hi)
theorem Rw.inj {n : Nat} {l : List Nat} (h : Rw n l) {i j : Nat} (hi : i < l.length) (hj : j < l.length) (e : l.getD i 0 = l.getD j 0) : i = j := by
  rw [List.getD_eq_getElem?_getD, List.getD_eq_getElem?_getD, List.getElem?_eq_getElem hi, List.getElem?_eq_getElem hj] at e
  have e2 : l[i] = l[j] := e
  have q := List.pairwise_iff_getElem.mp (List.nodup_iff_pairwise_ne.mp h.2)
  rcases Nat.lt_trichotomy i j with c | c | c
  · exact absurd e2 (q i j hi hj c)
  · exact c
  · exact absurd e2.symm (q j i hj hi c)
theorem row_fun {n : Nat} {f : Nat → Nat} (hb : ∀ i, i < n → f i < n) (hi : Inj n f) : (List.range n).map f ∈ rowsN n ∧ ∀ i, i < n → ((List.range n).map f).getD i 0 = f i := by
  have hg : ∀ i, i < n → ((List.range n).map f).getD i 0 = f i := by
    intro i h
    rw [List.getD_eq_getElem?_getD, List.getElem?_map, List.getElem?_range h]
    rfl
  refine ⟨rows_iff.mpr ⟨⟨fun x hx => ?_, ?_⟩, by simp⟩, hg⟩
  · obtain ⟨i, h1, h2⟩ := List.mem_map.mp hx
    rw [← h2]
    exact hb i (List.mem_range.mp h1)
  · rw [List.nodup_iff_pairwise_ne, List.pairwise_map]
    exact List.Pairwise.imp_of_mem (R := fun a b => a ≠ b) (fun ha hb2 hne e => hne (hi _ _ (List.mem_range.mp ha) (List.mem_range.mp hb2) e)) (List.nodup_iff_pairwise_ne.mp List.nodup_range)
theorem hd_stb {K : Nat → Int} {n : Nat} {l : List Nat} (h : l ∈ rowsN n) : Hd K l ↔ Stb n (more K 0) (more K 1) (fun i => l.getD i 0) := by
  obtain ⟨h1, h2⟩ := rows_iff.mp h
  constructor
  · intro q
    exact ⟨fun i hi => h1.lt (by omega), fun a b ha hb e => h1.inj (by omega) (by omega) e, fun i j hi hj => q i j (by omega) (by omega)⟩
  · intro q i j hi hj
    exact q.2.2 i j (by omega) (by omega)
noncomputable def heldL (K : Nat → Int) (n : Nat) : List (List Nat) := (rowsN n).filter (hdB K)
theorem held_iff {K : Nat → Int} {n : Nat} {l : List Nat} : l ∈ heldL K n ↔ l ∈ rowsN n ∧ Hd K l := by
  unfold heldL
  rw [List.mem_filter, hdB_t]
theorem held_fun {K : Nat → Int} {n : Nat} {f : Nat → Nat} (h : Stb n (more K 0) (more K 1) f) : ∃ o, o ∈ heldL K n ∧ ∀ i, i < n → o.getD i 0 = f i := by
  obtain ⟨h1, h2⟩ := row_fun h.1 h.2.1
  refine ⟨_, held_iff.mpr ⟨h1, (hd_stb h1).mpr ⟨fun i hi => ?_, fun a b ha hb e => ?_, fun i j hi hj => ?_⟩⟩, h2⟩
  · show ((List.range n).map f).getD i 0 < n
    rw [h2 i hi]; exact h.1 i hi
  · have e2 : ((List.range n).map f).getD a 0 = ((List.range n).map f).getD b 0 := e
    rw [h2 a ha, h2 b hb] at e2
    exact h.2.1 a b ha hb e2
  · show ¬ (more K 0 i (((List.range n).map f).getD j 0) (((List.range n).map f).getD i 0) ∧ more K 1 (((List.range n).map f).getD j 0) i j)
    rw [h2 i hi, h2 j hj]
    exact h.2.2 i j hi hj
/-- best for the MEN -/
def Opt0 (K : Nat → Int) (n : Nat) (o : List Nat) : Prop := o ∈ heldL K n ∧ ∀ h, h ∈ heldL K n → ∀ i, i < n → ¬ more K 0 i (h.getD i 0) (o.getD i 0)
/-- best for the WOMEN -/
def Opt1 (K : Nat → Int) (n : Nat) (o : List Nat) : Prop := o ∈ heldL K n ∧ ∀ h, h ∈ heldL K n → ∀ i j, i < n → j < n → h.getD i 0 = o.getD j 0 → ¬ more K 1 (o.getD j 0) i j
theorem opt0_ex (K : Nat → Int) (n : Nat) : ∃ o, Opt0 K n o := by
  obtain ⟨f, h1, h2⟩ := stable_best (more_ord K 0 n) (more_ord K 1 n)
  obtain ⟨o, h3, h4⟩ := held_fun h1
  refine ⟨o, h3, fun h hh i hi => ?_⟩
  obtain ⟨q1, q2⟩ := held_iff.mp hh
  rw [h4 i hi]
  exact h2 _ ((hd_stb q1).mp q2) i hi
theorem opt1_ex (K : Nat → Int) (n : Nat) : ∃ o, Opt1 K n o := by
  obtain ⟨g, h1, h2⟩ := stable_best (more_ord K 1 n) (more_ord K 0 n)
  have hs : ∀ i, i < n → ∃ w, w < n ∧ g w = i := fun i hi => inj_surj h1.1 h1.2.1 hi
  let f : Nat → Nat := fun i => if h : i < n then Classical.choose (hs i h) else 0
  have hf : ∀ i, i < n → f i < n ∧ g (f i) = i := by
    intro i h
    have q := Classical.choose_spec (hs i h)
    have e : f i = Classical.choose (hs i h) := by show (if h : i < n then _ else _) = _; rw [dif_pos h]
    rw [e]
    exact q
  have hst : Stb n (more K 0) (more K 1) f := by
    refine ⟨fun i hi => (hf i hi).1, fun a b ha hb e => ?_, fun i j hi hj q => ?_⟩
    · have e1 := (hf a ha).2
      rw [e, (hf b hb).2] at e1
      exact e1.symm
    · refine h1.2.2 (f j) (f i) (hf j hj).1 (hf i hi).1 ⟨?_, ?_⟩
      · rw [(hf i hi).2, (hf j hj).2]; exact q.2
      · rw [(hf i hi).2]; exact q.1
  obtain ⟨o, h3, h4⟩ := held_fun hst
  refine ⟨o, h3, fun h hh i j hi hj e hm => ?_⟩
  obtain ⟨q1, q2⟩ := held_iff.mp hh
  have q3 := (hd_stb q1).mp q2
  rw [h4 j hj] at e hm
  -- the other row's own inverse
  have hs2 : ∀ w, w < n → ∃ m, m < n ∧ h.getD m 0 = w := fun w hw => inj_surj (f := fun i => h.getD i 0) q3.1 q3.2.1 hw
  let g2 : Nat → Nat := fun w => if q : w < n then Classical.choose (hs2 w q) else 0
  have hg2 : ∀ w, w < n → g2 w < n ∧ h.getD (g2 w) 0 = w := by
    intro w q
    have q5 := Classical.choose_spec (hs2 w q)
    have e5 : g2 w = Classical.choose (hs2 w q) := by show (if h : w < n then _ else _) = _; rw [dif_pos q]
    rw [e5]
    exact q5
  have hst2 : Stb n (more K 1) (more K 0) g2 := by
    refine ⟨fun w hw => (hg2 w hw).1, fun a b ha hb e6 => ?_, fun a b ha hb q => ?_⟩
    · have e1 := (hg2 a ha).2
      rw [e6, (hg2 b hb).2] at e1
      exact e1.symm
    · refine q3.2.2 (g2 b) (g2 a) (hg2 b hb).1 (hg2 a ha).1 ⟨?_, ?_⟩
      · show more K 0 (g2 b) (h.getD (g2 a) 0) (h.getD (g2 b) 0)
        rw [(hg2 a ha).2, (hg2 b hb).2]
        exact q.2
      · show more K 1 (h.getD (g2 a) 0) (g2 b) (g2 a)
        rw [(hg2 a ha).2]
        exact q.1
  have h5 := h2 g2 hst2 (f j) (hf j hj).1
  have e7 : g2 (f j) = i := q3.2.1 _ _ (hg2 _ (hf j hj).1).1 hi (by show h.getD (g2 (f j)) 0 = h.getD i 0; rw [(hg2 _ (hf j hj).1).2, e])
  rw [e7, (hf j hj).2] at h5
  exact h5 hm
theorem row_ext {n : Nat} {a b : List Nat} (ha : a.length = n) (hb : b.length = n) (h : ∀ i, i < n → a.getD i 0 = b.getD i 0) : a = b := by
  apply List.ext_getElem (by omega)
  intro i h1 h2
  have := h i (by omega)
  rw [List.getD_eq_getElem?_getD, List.getD_eq_getElem?_getD, List.getElem?_eq_getElem h1, List.getElem?_eq_getElem h2] at this
  exact this
theorem held_len {K : Nat → Int} {n : Nat} {l : List Nat} (h : l ∈ heldL K n) : l.length = n := (rows_iff.mp (held_iff.mp h).1).2
theorem opt0_one {K : Nat → Int} {n : Nat} {a b : List Nat} (ha : Opt0 K n a) (hb : Opt0 K n b) : a = b := by
  refine row_ext (held_len ha.1) (held_len hb.1) (fun i hi => ?_)
  apply Classical.byContradiction
  intro hc
  rcases (more_ord K 0 n i hi).2.2 _ _ hc with q | q
  · exact hb.2 a ha.1 i hi q
  · exact ha.2 b hb.1 i hi q
theorem opt1_one {K : Nat → Int} {n : Nat} {a b : List Nat} (ha : Opt1 K n a) (hb : Opt1 K n b) : a = b := by
  refine row_ext (held_len ha.1) (held_len hb.1) (fun i hi => ?_)
  obtain ⟨p1, p2⟩ := rows_iff.mp (held_iff.mp hb.1).1
  have hlt := (rows_iff.mp (held_iff.mp ha.1).1).1.lt (i := i) (by rw [held_len ha.1]; exact hi)
  obtain ⟨j, hj, ej⟩ := inj_surj (f := fun i => b.getD i 0) (fun i hi => p1.lt (by omega)) (fun x y hx hy e => p1.inj (by omega) (by omega) e) hlt
  have ej2 : b.getD j 0 = a.getD i 0 := ej
  by_cases hc : i = j
  · subst hc
    exact ej2.symm
  · exfalso
    rcases (more_ord K 1 n (a.getD i 0) hlt).2.2 _ _ hc with q | q
    · exact hb.2 a ha.1 i j hi hj ej2.symm (by rw [ej2]; exact q)
    · exact ha.2 b hb.1 j i hj hi ej2 q
