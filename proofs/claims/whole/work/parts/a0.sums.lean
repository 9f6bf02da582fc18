-- SUMS, injections, preferences
def sm (h : Nat → Int) : Nat → Int
  | 0 => 0
  | k + 1 => sm h k + h k
theorem sm_s (h : Nat → Int) (k : Nat) : sm h (k + 1) = sm h k + h k := rfl
theorem sm_congr {h g : Nat → Int} : ∀ k, (∀ x, x < k → h x = g x) → sm h k = sm g k := by
  intro k
  induction k with
  | zero => intro _; rfl
  | succ k ih => intro e; rw [sm_s, sm_s, ih (fun x hx => e x (by omega)), e k (by omega)]
theorem sm_le {h g : Nat → Int} : ∀ k, (∀ x, x < k → h x ≤ g x) → sm h k ≤ sm g k := by
  intro k
  induction k with
  | zero => intro _; exact Int.le_refl _
  | succ k ih =>
    intro e
    have h1 := ih (fun x hx => e x (by omega))
    have h2 := e k (by omega)
    rw [sm_s, sm_s]
    omega
theorem sm_eq {h g : Nat → Int} : ∀ k, (∀ x, x < k → h x ≤ g x) → sm g k ≤ sm h k → ∀ x, x < k → h x = g x := by
  intro k
  induction k with
  | zero => intro _ _ x hx; omega
  | succ k ih =>
    intro e hs x hx
    have h1 := sm_le k (fun x hx => e x (by omega))
    have h2 := e k (by omega)
    rw [sm_s, sm_s] at hs
    by_cases hc : x = k
    · subst hc
      omega
    · exact ih (fun x hx => e x (by omega)) (by omega) x (by omega)
theorem sm_upd (h : Nat → Int) (a : Nat) (v : Int) : ∀ k, sm (fun x => if x = a then v else h x) k = sm h k + (if a < k then v - h a else 0) := by
  intro k
  induction k with
  | zero => rfl
  | succ k ih =>
    rw [sm_s, sm_s, ih]
    by_cases h1 : a < k
    · rw [if_pos h1, if_neg (show ¬ k = a by omega), if_pos (show a < k + 1 by omega)]
      omega
    · by_cases h2 : k = a
      · subst h2
        rw [if_neg h1, if_pos rfl, if_pos (show k < k + 1 by omega)]
        omega
      · rw [if_neg h1, if_neg h2, if_neg (show ¬ a < k + 1 by omega)]
        omega
theorem sm_bd {h : Nat → Int} {a b : Int} : ∀ k : Nat, (∀ x, x < k → a ≤ h x ∧ h x ≤ b) → a * k ≤ sm h k ∧ sm h k ≤ b * k := by
  intro k
  induction k with
  | zero => intro _; show a * 0 ≤ 0 ∧ 0 ≤ b * 0; omega
  | succ k ih =>
    intro e
    have h1 := ih (fun x hx => e x (by omega))
    have h2 := e k (by omega)
    rw [sm_s]
    have e1 : a * ((k + 1 : Nat) : Int) = a * k + a := by rw [Int.natCast_add, Int.mul_add]; simp
    have e2 : b * ((k + 1 : Nat) : Int) = b * k + b := by rw [Int.natCast_add, Int.mul_add]; simp
    omega
-- injections
def Inj (n : Nat) (f : Nat → Nat) : Prop := ∀ a b, a < n → b < n → f a = f b → a = b
theorem no_inj : ∀ (n : Nat) (f : Nat → Nat), (∀ a, a < n + 1 → f a < n) → ¬ Inj (n + 1) f := by
  intro n
  induction n with
  | zero => intro f h _; have := h 0 (by omega); omega
  | succ n ih =>
    intro f h hi
    refine ih (fun a => if f a = n then f (n + 1) else f a) (fun a ha => ?_) (fun a b ha hb e => ?_)
    · show (if f a = n then f (n + 1) else f a) < n
      have h1 := h a (by omega)
      have h2 := h (n + 1) (by omega)
      split
      · rename_i hc
        have : f (n + 1) ≠ n := fun q => by have := hi a (n + 1) (by omega) (by omega) (by omega); omega
        omega
      · omega
    · have e2 : (if f a = n then f (n + 1) else f a) = (if f b = n then f (n + 1) else f b) := e
      by_cases h1 : f a = n
      · by_cases h2 : f b = n
        · exact hi a b (by omega) (by omega) (by omega)
        · rw [if_pos h1, if_neg h2] at e2
          have := hi (n + 1) b (by omega) (by omega) e2
          omega
      · by_cases h2 : f b = n
        · rw [if_neg h1, if_pos h2] at e2
          have := hi a (n + 1) (by omega) (by omega) e2
          omega
        · rw [if_neg h1, if_neg h2] at e2
          exact hi a b (by omega) (by omega) e2
theorem inj_surj {n : Nat} {f : Nat → Nat} (h : ∀ a, a < n → f a < n) (hi : Inj n f) {i : Nat} (hn : i < n) : ∃ a, a < n ∧ f a = i := by
  apply Classical.byContradiction
  intro hc
  have hc2 : ∀ a, a < n → f a ≠ i := fun a ha e => hc ⟨a, ha, e⟩
  obtain ⟨m, rfl⟩ : ∃ m, n = m + 1 := ⟨n - 1, by omega⟩
  refine no_inj m (fun a => if f a = m then i else f a) (fun a ha => ?_) (fun a b ha hb e => ?_)
  · show (if f a = m then i else f a) < m
    have h1 := h a ha
    have h2 := hc2 a ha
    split <;> omega
  · have e2 : (if f a = m then i else f a) = (if f b = m then i else f b) := e
    have h1 := hc2 a ha
    have h2 := hc2 b hb
    apply hi a b ha hb
    by_cases g1 : f a = m
    · by_cases g2 : f b = m
      · omega
      · rw [if_pos g1, if_neg g2] at e2; omega
    · by_cases g2 : f b = m
      · rw [if_neg g1, if_pos g2] at e2; omega
      · rw [if_neg g1, if_neg g2] at e2; omega
theorem pigeon {n : Nat} {f : Nat → Nat} (h : ∀ a, a ≤ n → f a < n) : ∃ a b, a < b ∧ b ≤ n ∧ f a = f b := by
  apply Classical.byContradiction
  intro hc
  refine no_inj n f (fun a ha => h a (by omega)) (fun a b ha hb e => ?_)
  rcases Nat.lt_trichotomy a b with q | q | q
  · exact absurd ⟨a, b, q, by omega, e⟩ hc
  · exact q
  · exact absurd ⟨b, a, q, by omega, e.symm⟩ hc
theorem sm_perm : ∀ (n : Nat) (f : Nat → Nat) (h : Nat → Int), (∀ a, a < n → f a < n) → Inj n f → sm (fun m => h (f m)) n = sm h n := by
  intro n
  induction n with
  | zero => intro f h _ _; rfl
  | succ n ih =>
    intro f h hb hi
    obtain ⟨a, ha, ea⟩ := inj_surj hb hi (show n < n + 1 by omega)
    by_cases hc : a = n
    · subst hc
      have hb2 : ∀ x, x < a → f x < a := fun x hx => by
        have h1 := hb x (by omega)
        have h2 : f x ≠ a := fun q => by have := hi x a (by omega) (by omega) (by omega); omega
        omega
      rw [sm_s, sm_s, ih f h hb2 (fun x y hx hy e => hi x y (by omega) (by omega) e), ea]
    · have hb2 : ∀ x, x < n → (fun x => if x = a then f n else f x) x < n := fun x hx => by
        show (if x = a then f n else f x) < n
        split
        · have h1 := hb n (by omega)
          have h2 : f n ≠ n := fun q => by have := hi n a (by omega) (by omega) (by omega); omega
          omega
        · rename_i hx2
          have h1 := hb x (by omega)
          have h2 : f x ≠ n := fun q => by have := hi x a (by omega) (by omega) (by omega); omega
          omega
      have hi2 : Inj n (fun x => if x = a then f n else f x) := fun x y hx hy e => by
        have e2 : (if x = a then f n else f x) = (if y = a then f n else f y) := e
        by_cases g1 : x = a
        · by_cases g2 : y = a
          · omega
          · rw [if_pos g1, if_neg g2] at e2
            have := hi n y (by omega) (by omega) e2
            omega
        · by_cases g2 : y = a
          · rw [if_neg g1, if_pos g2] at e2
            have := hi x n (by omega) (by omega) e2
            omega
          · rw [if_neg g1, if_neg g2] at e2
            exact hi x y (by omega) (by omega) e2
      have h1 := ih _ h hb2 hi2
      have h2 : sm (fun m => h ((fun x => if x = a then f n else f x) m)) n = sm (fun x => if x = a then h (f n) else h (f x)) n := sm_congr n (fun x _ => by
        show h (if x = a then f n else f x) = if x = a then h (f n) else h (f x)
        split <;> rfl)
      have h3 := sm_upd (fun x => h (f x)) a (h (f n)) n
      rw [if_pos (by omega)] at h3
      have h4 : h (f a) = h n := by rw [ea]
      have h5 : sm (fun x => if x = a then h (f n) else h (f x)) n = sm h n := h2.symm.trans h1
      rw [sm_s, sm_s]
      show sm (fun m => h (f m)) n + h (f n) = _
      have h3' : sm (fun x => if x = a then h (f n) else h (f x)) n = sm (fun x => h (f x)) n + (h (f n) - h (f a)) := h3
      omega
-- STABLE PAIRINGS: pm i a b: man i likes a more than b
def Stb (n : Nat) (pm pw : Nat → Nat → Nat → Prop) (f : Nat → Nat) : Prop := (∀ i, i < n → f i < n) ∧ Inj n f ∧ ∀ i j, i < n → j < n → ¬ (pm i (f j) (f i) ∧ pw (f j) i j)
def Ord (n : Nat) (p : Nat → Nat → Nat → Prop) : Prop := ∀ i, i < n → (∀ a, ¬ p i a a) ∧ (∀ a b c, p i a b → p i b c → p i a c) ∧ ∀ a b, a ≠ b → p i a b ∨ p i b a
def cntB (f : Nat → Bool) : Nat → Nat
  | 0 => 0
  | k + 1 => cntB f k + if f k then 1 else 0
theorem cntB_le {f g : Nat → Bool} : ∀ k, (∀ x, x < k → f x = true → g x = true) → cntB f k ≤ cntB g k := by
  intro k
  induction k with
  | zero => intro _; exact Nat.le_refl _
  | succ k ih =>
    intro e
    have h1 := ih (fun x hx => e x (by omega))
    have h2 := e k (by omega)
    show cntB f k + (if f k then 1 else 0) ≤ cntB g k + (if g k then 1 else 0)
    cases hf : f k with
    | false => simp; omega
    | true => rw [h2 hf]; simp; omega
theorem cntB_lt {f g : Nat → Bool} {a : Nat} : ∀ k, a < k → (∀ x, x < k → f x = true → g x = true) → f a = false → g a = true → cntB f k < cntB g k := by
  intro k
  induction k with
  | zero => intro h; omega
  | succ k ih =>
    intro h e hf hg
    show cntB f k + (if f k then 1 else 0) < cntB g k + (if g k then 1 else 0)
    by_cases hc : a = k
    · subst hc
      have h1 := cntB_le a (fun x hx => e x (by omega))
      rw [hf, hg]
      simp
      omega
    · have h1 := ih (by omega) (fun x hx => e x (by omega)) hf hg
      have h2 := e k (by omega)
      cases hf2 : f k with
      | false => simp; omega
      | true => rw [h2 hf2]; simp; omega
/-- the best of those below k that are left -/
theorem best_ex {p : Nat → Nat → Prop} (hr : ∀ a, ¬ p a a) (ht : ∀ a b c, p a b → p b c → p a c) (hT : ∀ a b, a ≠ b → p a b ∨ p b a) (R : Nat → Bool) : ∀ k, (∃ a, a < k ∧ R a = false) → ∃ a, a < k ∧ R a = false ∧ ∀ b, b < k → R b = false → ¬ p b a := by
  intro k
  induction k with
  | zero => rintro ⟨a, h, _⟩; omega
  | succ k ih =>
    rintro ⟨a, ha, hR⟩
    by_cases hk : R k = false
    · by_cases hex : ∃ a, a < k ∧ R a = false
      · obtain ⟨c, h1, h2, h3⟩ := ih hex
        rcases hT c k (by omega) with q | q
        · refine ⟨c, by omega, h2, fun b hb hRb hp => ?_⟩
          by_cases hbk : b = k
          · subst hbk
            exact hr _ (ht _ _ _ hp q)
          · exact h3 b (by omega) hRb hp
        · refine ⟨k, by omega, hk, fun b hb hRb hp => ?_⟩
          by_cases hbk : b = k
          · subst hbk
            exact hr _ hp
          · exact h3 b (by omega) hRb (ht _ _ _ hp q)
      · refine ⟨k, by omega, hk, fun b hb hRb hp => ?_⟩
        by_cases hbk : b = k
        · subst hbk
          exact hr _ hp
        · exact hex ⟨b, by omega, hRb⟩
    · have ha2 : a < k := by
        rcases Nat.lt_or_ge a k with q | q
        · exact q
        · exact absurd (by rw [show k = a by omega]; exact hR) hk
      obtain ⟨c, h1, h2, h3⟩ := ih ⟨a, ha2, hR⟩
      refine ⟨c, by omega, h2, fun b hb hRb => ?_⟩
      by_cases hbk : b = k
      · subst hbk
        exact absurd hRb hk
      · exact h3 b (by omega) hRb
/-- b is the one that i asks, of those that have not refused -/
def Ask (n : Nat) (pm : Nat → Nat → Nat → Prop) (R : Nat → Nat → Bool) (i b : Nat) : Prop := b < n ∧ R i b = false ∧ ∀ c, c < n → R i c = false → ¬ pm i c b
theorem ask_one {n : Nat} {pm : Nat → Nat → Nat → Prop} (hm : Ord n pm) {R : Nat → Nat → Bool} {i b c : Nat} (hi : i < n) (h1 : Ask n pm R i b) (h2 : Ask n pm R i c) : b = c := by
  apply Classical.byContradiction
  intro hc
  rcases (hm i hi).2.2 b c hc with q | q
  · exact h2.2.2 b h1.1 h1.2.1 q
  · exact h1.2.2 c h2.1 h2.2.1 q
theorem gale {n : Nat} {pm pw : Nat → Nat → Nat → Prop} (hm : Ord n pm) (hw : Ord n pw) : ∀ (k : Nat) (R : Nat → Nat → Bool), cntB (fun c => !R (c / n) (c % n)) (n * n) < k → (∀ i w, i < n → w < n → R i w = true → ∃ j, j < n ∧ Ask n pm R j w ∧ pw w j i) → (∀ g, Stb n pm pw g → ∀ i, i < n → R i (g i) = false) → ∃ f, Stb n pm pw f ∧ ∀ g, Stb n pm pw g → ∀ i, i < n → ¬ pm i (g i) (f i) := by
  intro k
  induction k with
  | zero => intro R h; omega
  | succ k ih =>
    intro R hk hA hB
    have hex : ∀ i, i < n → ∃ b, Ask n pm R i b := by
      intro i hi
      by_cases hx : ∃ a, a < n ∧ R i a = false
      · obtain ⟨b, h1, h2, h3⟩ := best_ex (p := pm i) (hm i hi).1 (hm i hi).2.1 (hm i hi).2.2 (R i) n hx
        exact ⟨b, h1, h2, h3⟩
      · exfalso
        have hall : ∀ w, w < n → ∃ j, j < n ∧ Ask n pm R j w := by
          intro w hwn
          have hr : R i w = true := by
            cases e : R i w with
            | true => rfl
            | false => exact absurd ⟨w, hwn, e⟩ hx
          obtain ⟨j, h1, h2, _⟩ := hA i w hi hwn hr
          exact ⟨j, h1, h2⟩
        let J : Nat → Nat := fun w => if h : w < n then Classical.choose (hall w h) else 0
        have hJ : ∀ w, w < n → J w < n ∧ Ask n pm R (J w) w := by
          intro w h
          have := Classical.choose_spec (hall w h)
          have e : J w = Classical.choose (hall w h) := by show (if h : w < n then _ else _) = _; rw [dif_pos h]
          rw [e]
          exact this
        have hinj : Inj n J := by
          intro a b ha hb e
          have h1 := hJ a ha
          have h2 := hJ b hb
          rw [← e] at h2
          exact ask_one hm h1.1 h1.2 h2.2
        obtain ⟨a, ha, ea⟩ := inj_surj (fun a ha => (hJ a ha).1) hinj hi
        have h1 := (hJ a ha).2
        rw [ea] at h1
        exact hx ⟨a, ha, h1.2.1⟩
    let P : Nat → Nat := fun i => if h : i < n then Classical.choose (hex i h) else 0
    have hP : ∀ i, i < n → Ask n pm R i (P i) := by
      intro i h
      have := Classical.choose_spec (hex i h)
      have e : P i = Classical.choose (hex i h) := by show (if h : i < n then _ else _) = _; rw [dif_pos h]
      rw [e]
      exact this
    by_cases hinj : Inj n P
    · refine ⟨P, ⟨fun i hi => (hP i hi).1, hinj, fun i j hi hj hb => ?_⟩, fun g hg i hi hp => ?_⟩
      · have hr : R i (P j) = true := by
          cases e : R i (P j) with
          | true => rfl
          | false => exact absurd hb.1 ((hP i hi).2.2 (P j) (hP j hj).1 e)
        obtain ⟨j2, h1, h2, h3⟩ := hA i (P j) hi (hP j hj).1 hr
        have e : P j2 = P j := ask_one hm h1 (hP j2 h1) h2
        have e2 := hinj j2 j h1 hj e
        subst e2
        have hWn := (hP j2 h1).1
        exact (hw _ hWn).1 _ ((hw _ hWn).2.1 _ _ _ hb.2 h3)
      · exact (hP i hi).2.2 (g i) (hg.1 i hi) (hB g hg i hi) hp
    · obtain ⟨i, j, hi, hj, hij, e, hpw⟩ : ∃ i j, i < n ∧ j < n ∧ i ≠ j ∧ P i = P j ∧ pw (P i) j i := by
        apply Classical.byContradiction
        intro hc
        apply hinj
        intro a b ha hb e
        apply Classical.byContradiction
        intro hne
        rcases (hw (P a) (hP a ha).1).2.2 a b hne with q | q
        · exact hc ⟨b, a, hb, ha, fun x => hne x.symm, e.symm, by rw [← e]; exact q⟩
        · exact hc ⟨a, b, ha, hb, hne, e, q⟩
      have hjw : Ask n pm R j (P i) := by rw [e]; exact hP j hj
      refine ih (fun x y => if x = i ∧ y = P i then true else R x y) ?_ (fun x y hx hy hr => ?_) (fun g hg x hx => ?_)
      · have hPn := (hP i hi).1
        have hc1 : i * n + P i < n * n := by
          have : (i + 1) * n ≤ n * n := Nat.mul_le_mul_right n hi
          rw [Nat.add_mul] at this
          omega
        have hn0 : 0 < n := by omega
        have hd : (i * n + P i) / n = i := by rw [Nat.mul_comm, Nat.mul_add_div hn0, Nat.div_eq_of_lt hPn, Nat.add_zero]
        have hmd : (i * n + P i) % n = P i := by rw [Nat.mul_comm, Nat.mul_add_mod, Nat.mod_eq_of_lt hPn]
        have := cntB_lt (f := fun c => !(if c / n = i ∧ c % n = P i then true else R (c / n) (c % n))) (g := fun c => !R (c / n) (c % n)) (a := i * n + P i) (n * n) hc1 (fun x _ hf => ?_) ?_ ?_
        · show cntB (fun c => !(if c / n = i ∧ c % n = P i then true else R (c / n) (c % n))) (n * n) < k
          omega
        · have hf2 : (!(if x / n = i ∧ x % n = P i then true else R (x / n) (x % n))) = true := hf
          by_cases q : x / n = i ∧ x % n = P i
          · rw [if_pos q] at hf2; cases hf2
          · rw [if_neg q] at hf2; exact hf2
        · show (!(if (i * n + P i) / n = i ∧ (i * n + P i) % n = P i then true else R ((i * n + P i) / n) ((i * n + P i) % n))) = false
          rw [if_pos ⟨hd, hmd⟩]
          rfl
        · show (!R ((i * n + P i) / n) ((i * n + P i) % n)) = true
          rw [hd, hmd, (hP i hi).2.1]
          rfl
      · have askj : ∀ z b, z ≠ i → Ask n pm R z b → Ask n pm (fun x y => if x = i ∧ y = P i then true else R x y) z b := by
          intro z b hz ha
          refine ⟨ha.1, ?_, fun c hc hcr => ha.2.2 c hc ?_⟩
          · show (if z = i ∧ b = P i then true else R z b) = false
            rw [if_neg (fun q => hz q.1)]
            exact ha.2.1
          · have q : (if z = i ∧ c = P i then true else R z c) = false := hcr
            rw [if_neg (fun q => hz q.1)] at q
            exact q
        by_cases hc : x = i ∧ y = P i
        · obtain ⟨rfl, rfl⟩ := hc
          exact ⟨j, hj, askj j _ (fun q => hij q.symm) hjw, hpw⟩
        · have hr2 : R x y = true := by
            have q : (if x = i ∧ y = P i then true else R x y) = true := hr
            rw [if_neg hc] at q
            exact q
          obtain ⟨j2, h1, h2, h3⟩ := hA x y hx hy hr2
          by_cases hj2 : j2 = i
          · subst hj2
            have ey : y = P j2 := ask_one hm hi h2 (hP j2 hi)
            subst ey
            exact ⟨j, hj, askj j _ (fun q => hij q.symm) hjw, (hw _ hy).2.1 _ _ _ hpw h3⟩
          · exact ⟨j2, h1, askj j2 _ hj2 h2, h3⟩
      · show (if x = i ∧ g x = P i then true else R x (g x)) = false
        by_cases hc : x = i ∧ g x = P i
        · exfalso
          obtain ⟨rfl, eg⟩ := hc
          have h1 := hB g hg j hj
          have h2 : ¬ pm j (g j) (P x) := hjw.2.2 (g j) (hg.1 j hj) h1
          have h3 : P x ≠ g j := fun q => hij (hg.2.1 x j hi hj (eg.trans q))
          have h4 : pm j (P x) (g j) := by
            rcases (hm j hj).2.2 _ _ h3 with q | q
            · exact q
            · exact absurd q h2
          exact hg.2.2 j x hj hi ⟨by rw [eg]; exact h4, by rw [eg]; exact hpw⟩
        · rw [if_neg hc]
          exact hB g hg x hx
theorem stable_best {n : Nat} {pm pw : Nat → Nat → Nat → Prop} (hm : Ord n pm) (hw : Ord n pw) : ∃ f, Stb n pm pw f ∧ ∀ g, Stb n pm pw g → ∀ i, i < n → ¬ pm i (g i) (f i) :=
  gale hm hw _ (fun _ _ => false) (Nat.lt_succ_self _) (fun _ _ _ _ h => by cases h) (fun _ _ _ _ => rfl)
