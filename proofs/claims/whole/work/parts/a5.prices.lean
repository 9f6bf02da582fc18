-- LEAST PRICES: a round for each MAN is enough
def mxm (g : Nat → Int) : Nat → Int → Int
  | 0, a => a
  | m + 1, a => if mxm g m a < g m then g m else mxm g m a
theorem mxm_s (g : Nat → Int) (m : Nat) (a : Int) : mxm g (m + 1) a = if mxm g m a < g m then g m else mxm g m a := rfl
theorem mxm_ge (g : Nat → Int) (a : Int) : ∀ n, a ≤ mxm g n a ∧ ∀ m, m < n → g m ≤ mxm g n a := by
  intro n
  induction n with
  | zero => exact ⟨Int.le_refl _, fun m h => by omega⟩
  | succ n ih =>
    rw [mxm_s]
    refine ⟨by split <;> omega, fun m hm => ?_⟩
    by_cases hc : m = n
    · subst hc; split <;> omega
    · have := ih.2 m (by omega)
      split <;> omega
theorem mxm_in (g : Nat → Int) (a : Int) : ∀ n, mxm g n a = a ∨ ∃ m, m < n ∧ mxm g n a = g m := by
  intro n
  induction n with
  | zero => exact Or.inl rfl
  | succ n ih =>
    rw [mxm_s]
    split
    · exact Or.inr ⟨n, by omega, rfl⟩
    · rcases ih with q | ⟨m, h1, h2⟩
      · exact Or.inl q
      · exact Or.inr ⟨m, by omega, h2⟩
theorem mxm_le (g : Nat → Int) (a b : Int) (n : Nat) (h : a ≤ b) (hg : ∀ m, m < n → g m ≤ b) : mxm g n a ≤ b := by
  rcases mxm_in g a n with q | ⟨m, h1, h2⟩
  · omega
  · have := hg m h1; omega
section PR
variable (n : Nat) (C : Nat → Nat → Int)
def dJ : Nat → Nat → Int
  | 0, _ => 0
  | k + 1, m => mxm (fun i => dJ k i + C i m) n (dJ k m)
end PR
theorem dJ_s (n : Nat) (C : Nat → Nat → Int) (k m : Nat) : dJ n C (k + 1) m = mxm (fun i => dJ n C k i + C i m) n (dJ n C k m) := rfl
theorem dJ_up (n : Nat) (C : Nat → Nat → Int) (m : Nat) : ∀ k d, dJ n C k m ≤ dJ n C (k + d) m := by
  intro k d
  induction d with
  | zero => exact Int.le_refl _
  | succ d ih =>
    have := (mxm_ge (fun i => dJ n C (k + d) i + C i m) (dJ n C (k + d) m) n).1
    have e : dJ n C (k + (d + 1)) m = mxm (fun i => dJ n C (k + d) i + C i m) n (dJ n C (k + d) m) := rfl
    rw [e]
    omega
/-- a step that changes comes of one that changed the round before -/
def Chn (n : Nat) (C : Nat → Nat → Int) (k : Nat) (μ : Nat → Nat) : Prop := (∀ j, j ≤ k → μ j < n) ∧ ∀ j, j < k → dJ n C (j + 1) (μ (j + 1)) = dJ n C j (μ j) + C (μ j) (μ (j + 1)) ∧ dJ n C j (μ (j + 1)) < dJ n C (j + 1) (μ (j + 1))
theorem chn_ex (n : Nat) (C : Nat → Nat → Int) : ∀ (k m : Nat), m < n → dJ n C k m < dJ n C (k + 1) m → ∃ μ, Chn n C (k + 1) μ ∧ μ (k + 1) = m := by
  intro k
  induction k with
  | zero =>
    intro m hm h
    rcases mxm_in (fun i => dJ n C 0 i + C i m) (dJ n C 0 m) n with q | ⟨i, hi, q⟩
    · rw [dJ_s, q] at h; omega
    · refine ⟨fun j => if j = 0 then i else m, ⟨fun j hj => ?_, fun j hj => ?_⟩, rfl⟩
      · show (if j = 0 then i else m) < n
        split <;> assumption
      · have : j = 0 := by omega
        subst this
        exact ⟨q, h⟩
  | succ k ih =>
    intro m hm h
    rcases mxm_in (fun i => dJ n C (k + 1) i + C i m) (dJ n C (k + 1) m) n with q | ⟨i, hi, q⟩
    · rw [dJ_s n C (k + 1), q] at h; omega
    · have q1 : dJ n C (k + 1 + 1) m = dJ n C (k + 1) i + C i m := q
      have hi2 : dJ n C k i < dJ n C (k + 1) i := by
        have h1 := dJ_up n C i k 1
        have h2 := (mxm_ge (fun i => dJ n C k i + C i m) (dJ n C k m) n).2 i hi
        have h3 : dJ n C k i + C i m ≤ dJ n C (k + 1) m := h2
        omega
      obtain ⟨μ, h1, h2⟩ := ih i hi hi2
      refine ⟨fun j => if j ≤ k + 1 then μ j else m, ⟨fun j hj => ?_, fun j hj => ?_⟩, ?_⟩
      · show (if j ≤ k + 1 then μ j else m) < n
        split
        · exact h1.1 j (by omega)
        · exact hm
      · show dJ n C (j + 1) (if j + 1 ≤ k + 1 then μ (j + 1) else m) = dJ n C j (if j ≤ k + 1 then μ j else m) + C (if j ≤ k + 1 then μ j else m) (if j + 1 ≤ k + 1 then μ (j + 1) else m) ∧ dJ n C j (if j + 1 ≤ k + 1 then μ (j + 1) else m) < dJ n C (j + 1) (if j + 1 ≤ k + 1 then μ (j + 1) else m)
        by_cases hc : j + 1 ≤ k + 1
        · rw [if_pos hc, if_pos (by omega)]
          exact h1.2 j (by omega)
        · have : j = k + 1 := by omega
          subst this
          rw [if_neg hc, if_pos (Nat.le_refl _), h2]
          exact ⟨q1, h⟩
      · show (if k + 1 + 1 ≤ k + 1 then _ else m) = m
        rw [if_neg (by omega)]
/-- of a chain that comes back a part that comes back for the first time -/
theorem cyc_ex (μ : Nat → Nat) : ∀ (d a b : Nat), b - a ≤ d → a < b → μ a = μ b → ∃ a' b', a ≤ a' ∧ a' < b' ∧ b' ≤ b ∧ μ a' = μ b' ∧ ∀ x y, a' ≤ x → x < y → y ≤ b' → μ x = μ y → x = a' ∧ y = b' := by
  intro d
  induction d with
  | zero => intro a b h1 h2; omega
  | succ d ih =>
    intro a b h1 h2 e
    by_cases hc : ∀ x y, a ≤ x → x < y → y ≤ b → μ x = μ y → x = a ∧ y = b
    · exact ⟨a, b, Nat.le_refl _, h2, Nat.le_refl _, e, hc⟩
    · obtain ⟨x, hx⟩ := Classical.not_forall.mp hc
      obtain ⟨y, hy⟩ := Classical.not_forall.mp hx
      have hq : a ≤ x ∧ x < y ∧ y ≤ b ∧ μ x = μ y ∧ ¬ (x = a ∧ y = b) := by
        apply Classical.byContradiction
        intro hn
        exact hy (fun q1 q2 q3 q4 => Classical.byContradiction (fun q5 => hn ⟨q1, q2, q3, q4, q5⟩))
      obtain ⟨a', b', p1, p2, p3, p4, p5⟩ := ih x y (by omega) hq.2.1 hq.2.2.2.1
      exact ⟨a', b', by omega, p2, by omega, p4, p5⟩
def phS (μ : Nat → Nat) (a : Nat) : Nat → Nat → Nat
  | 0, i => i
  | q + 1, i => if i = μ (a + q) then μ (a + q + 1) else phS μ a q i
theorem phS_s (μ : Nat → Nat) (a q i : Nat) : phS μ a (q + 1) i = if i = μ (a + q) then μ (a + q + 1) else phS μ a q i := rfl
theorem phS_out (μ : Nat → Nat) (a i : Nat) : ∀ q, (∀ t, t < q → i ≠ μ (a + t)) → phS μ a q i = i := by
  intro q
  induction q with
  | zero => intro _; rfl
  | succ q ih =>
    intro h
    rw [phS_s, if_neg (h q (by omega))]
    exact ih (fun t ht => h t (by omega))
theorem phS_in (μ : Nat → Nat) (a : Nat) {q : Nat} : ∀ L, q < L → (∀ t, q < t → t < L → μ (a + q) ≠ μ (a + t)) → phS μ a L (μ (a + q)) = μ (a + q + 1) := by
  intro L
  induction L with
  | zero => intro h; omega
  | succ L ih =>
    intro h hd
    rw [phS_s]
    by_cases hc : q = L
    · subst hc
      rw [if_pos rfl]
    · rw [if_neg (hd L (by omega) (by omega))]
      exact ih (by omega) (fun t h1 h2 => hd t h1 (by omega))
theorem no_gain {n : Nat} {C : Nat → Nat → Int} (h0 : ∀ i, C i i = 0) (hopt : ∀ φ : Nat → Nat, (∀ i, i < n → φ i < n) → Inj n φ → sm (fun i => C i (φ i)) n ≤ 0) {k : Nat} (hk : n ≤ k) {μ : Nat → Nat} (hc : Chn n C k μ) : False := by
  obtain ⟨a0, b0, g1, g2, g3⟩ := pigeon (n := n) (f := μ) (fun a ha => hc.1 a (by omega))
  obtain ⟨a, b, p1, p2, p3, p4, p5⟩ := cyc_ex μ (b0 - a0) a0 b0 (Nat.le_refl _) g1 g3
  have hdis : ∀ q t, q < t → t < b - a → μ (a + q) ≠ μ (a + t) := fun q t h1 h2 e => by
    have := p5 (a + q) (a + t) (by omega) (by omega) (by omega) e
    omega
  -- the sum over the part
  have hsum : ∀ q, q ≤ b - a → sm (fun i => C i (phS μ a q i)) n = dJ n C (a + q) (μ (a + q)) - dJ n C a (μ a) := by
    intro q
    induction q with
    | zero =>
      intro _
      have e : sm (fun i => C i (phS μ a 0 i)) n = sm (fun _ => 0) n := sm_congr n (fun x _ => h0 x)
      have e2 : ∀ m, sm (fun _ => (0 : Int)) m = 0 := by
        intro m
        induction m with
        | zero => rfl
        | succ m ih => rw [sm_s, ih]; rfl
      rw [e, e2, Nat.add_zero]
      omega
    | succ q ih =>
      intro hq
      have e : sm (fun i => C i (phS μ a (q + 1) i)) n = sm (fun i => if i = μ (a + q) then C (μ (a + q)) (μ (a + q + 1)) else C i (phS μ a q i)) n := sm_congr n (fun x _ => by
        show C x (phS μ a (q + 1) x) = _
        rw [phS_s]
        by_cases hx : x = μ (a + q)
        · rw [if_pos hx, if_pos hx, hx]
        · rw [if_neg hx, if_neg hx])
      have e2 := sm_upd (fun i => C i (phS μ a q i)) (μ (a + q)) (C (μ (a + q)) (μ (a + q + 1))) n
      have hlt : μ (a + q) < n := hc.1 (a + q) (by omega)
      rw [if_pos hlt] at e2
      have e3 : C (μ (a + q)) (phS μ a q (μ (a + q))) = 0 := by
        rw [phS_out μ a _ q (fun t ht e4 => hdis t q ht (by omega) e4.symm)]
        exact h0 _
      have e4 := (hc.2 (a + q) (by omega)).1
      have e5 := ih (by omega)
      rw [e, e2]
      show sm (fun i => C i (phS μ a q i)) n + (C (μ (a + q)) (μ (a + q + 1)) - C (μ (a + q)) (phS μ a q (μ (a + q)))) = _
      rw [e3, e5, show a + (q + 1) = a + q + 1 by omega, e4]
      omega
  have hS := hsum (b - a) (Nat.le_refl _)
  rw [show a + (b - a) = b by omega] at hS
  have hgt : dJ n C a (μ a) < dJ n C b (μ b) := by
    have h1 := (hc.2 (b - 1) (by omega)).2
    rw [show b - 1 + 1 = b by omega] at h1
    have h2 := dJ_up n C (μ b) a (b - 1 - a)
    rw [show a + (b - 1 - a) = b - 1 by omega] at h2
    rw [p4]
    omega
  have hin : ∀ q, q < b - a → phS μ a (b - a) (μ (a + q)) = μ (a + q + 1) := fun q hq => phS_in μ a (b - a) hq (fun t h1 h2 => hdis q t h1 h2)
  have hcase : ∀ i, (∃ q, q < b - a ∧ i = μ (a + q)) ∨ ∀ t, t < b - a → i ≠ μ (a + t) := by
    intro i
    by_cases h : ∃ q, q < b - a ∧ i = μ (a + q)
    · exact Or.inl h
    · exact Or.inr (fun t ht e => h ⟨t, ht, e⟩)
  have hout : ∀ q i, q < b - a → (∀ t, t < b - a → i ≠ μ (a + t)) → μ (a + q + 1) ≠ i := by
    intro q i hq hi e
    by_cases hl : q + 1 < b - a
    · exact hi (q + 1) hl e.symm
    · refine hi 0 (by omega) ?_
      rw [Nat.add_zero, p4, ← e, show a + q + 1 = b by omega]
  have := hopt (phS μ a (b - a)) (fun i hi => ?_) (fun i j hi hj e => ?_)
  · omega
  · rcases hcase i with ⟨q, hq, rfl⟩ | q
    · rw [hin q hq]; exact hc.1 _ (by omega)
    · rw [phS_out μ a i (b - a) q]; exact hi
  · rcases hcase i with ⟨q, hq, rfl⟩ | q
    · rcases hcase j with ⟨t, ht, rfl⟩ | t
      · rw [hin q hq, hin t ht] at e
        rcases Nat.lt_trichotomy q t with c | c | c
        · have := p5 (a + q + 1) (a + t + 1) (by omega) (by omega) (by omega) e
          omega
        · rw [c]
        · have := p5 (a + t + 1) (a + q + 1) (by omega) (by omega) (by omega) e.symm
          omega
      · rw [hin q hq, phS_out μ a j (b - a) t] at e
        exact absurd e (hout q j hq t)
    · rcases hcase j with ⟨t, ht, rfl⟩ | t
      · rw [hin t ht, phS_out μ a i (b - a) q] at e
        exact absurd e.symm (hout t i ht q)
      · rw [phS_out μ a i (b - a) q, phS_out μ a j (b - a) t] at e
        exact e
theorem dJ_fix {n : Nat} {C : Nat → Nat → Int} (h0 : ∀ i, C i i = 0) (hopt : ∀ φ : Nat → Nat, (∀ i, i < n → φ i < n) → Inj n φ → sm (fun i => C i (φ i)) n ≤ 0) {i m : Nat} (hi : i < n) (hm : m < n) : dJ n C (n - 1) i + C i m ≤ dJ n C (n - 1) m := by
  have h1 := (mxm_ge (fun i => dJ n C (n - 1) i + C i m) (dJ n C (n - 1) m) n).2 i hi
  have h1' : dJ n C (n - 1) i + C i m ≤ dJ n C (n - 1 + 1) m := h1
  rcases Int.lt_or_le (dJ n C (n - 1) m) (dJ n C (n - 1 + 1) m) with q | q
  · exfalso
    obtain ⟨μ, h2, h3⟩ := chn_ex n C (n - 1) m hm q
    exact no_gain h0 hopt (by omega) h2
  · omega
theorem dJ_bd {n : Nat} {C : Nat → Nat → Int} (hC : ∀ i m, C i m ≤ 198) (m : Nat) : ∀ k, 0 ≤ dJ n C k m := fun k => by
  have := dJ_up n C m 0 k
  rw [Nat.zero_add] at this
  exact this
theorem dJ_le {n : Nat} {C : Nat → Nat → Int} (hC : ∀ i m, C i m ≤ 198) : ∀ k m, dJ n C k m ≤ 198 * k := by
  intro k
  induction k with
  | zero => intro m; exact Int.le_refl _
  | succ k ih =>
    intro m
    rw [dJ_s]
    have h1 := ih m
    refine mxm_le _ _ _ _ (by omega) (fun i _ => ?_)
    have h2 := ih i
    have h3 := hC i m
    show dJ n C k i + C i m ≤ 198 * ((k + 1 : Nat) : Int)
    omega
-- the rounds as they are done
def psh (K : Nat → Int) (n : Nat) (M : Nat → Nat) (m : Nat) (L : Nat → Int) : Nat → Int := fun w => if w < n then (if L w < L (M m) + both K m w - both K m (M m) then L (M m) + both K m w - both K m (M m) else L w) else L w
def rnd (K : Nat → Int) (n : Nat) (M : Nat → Nat) : Nat → (Nat → Int) → (Nat → Int)
  | 0, L => L
  | m + 1, L => psh K n M m (rnd K n M m L)
theorem rnd_s (K : Nat → Int) (n : Nat) (M : Nat → Nat) (m : Nat) (L : Nat → Int) : rnd K n M (m + 1) L = psh K n M m (rnd K n M m L) := rfl
def itP (K : Nat → Int) (n : Nat) (M : Nat → Nat) : Nat → (Nat → Int)
  | 0 => fun _ => 0
  | r + 1 => rnd K n M n (itP K n M r)
theorem itP_s (K : Nat → Int) (n : Nat) (M : Nat → Nat) (r : Nat) : itP K n M (r + 1) = rnd K n M n (itP K n M r) := rfl
theorem psh_o (K : Nat → Int) (n : Nat) (M : Nat → Nat) (m : Nat) (L : Nat → Int) {w : Nat} (h : ¬ w < n) : psh K n M m L w = L w := by unfold psh; rw [if_neg h]
theorem psh_i (K : Nat → Int) (n : Nat) (M : Nat → Nat) (m : Nat) (L : Nat → Int) {w : Nat} (h : w < n) : psh K n M m L w = (if L w < L (M m) + both K m w - both K m (M m) then L (M m) + both K m w - both K m (M m) else L w) := by unfold psh; rw [if_pos h]
theorem psh_ge (K : Nat → Int) (n : Nat) (M : Nat → Nat) (m : Nat) (L : Nat → Int) (w : Nat) : L w ≤ psh K n M m L w := by
  by_cases h : w < n
  · rw [psh_i _ _ _ _ _ h]; split <;> omega
  · rw [psh_o _ _ _ _ _ h]; exact Int.le_refl _
theorem rnd_o (K : Nat → Int) (n : Nat) (M : Nat → Nat) (L : Nat → Int) {w : Nat} (h : ¬ w < n) : ∀ m, rnd K n M m L w = L w := by
  intro m
  induction m with
  | zero => rfl
  | succ m ih => rw [rnd_s, psh_o _ _ _ _ _ h, ih]
theorem rnd_ge (K : Nat → Int) (n : Nat) (M : Nat → Nat) (L : Nat → Int) (w : Nat) : ∀ m d, rnd K n M m L w ≤ rnd K n M (m + d) L w := by
  intro m d
  induction d with
  | zero => exact Int.le_refl _
  | succ d ih =>
    have := psh_ge K n M (m + d) (rnd K n M (m + d) L) w
    have e : rnd K n M (m + (d + 1)) L = psh K n M (m + d) (rnd K n M (m + d) L) := rfl
    rw [e]
    omega
theorem itP_ge (K : Nat → Int) (n : Nat) (M : Nat → Nat) (w : Nat) : ∀ r, 0 ≤ itP K n M r w := by
  intro r
  induction r with
  | zero => exact Int.le_refl _
  | succ r ih =>
    have := rnd_ge K n M (itP K n M r) w 0 n
    rw [Nat.zero_add] at this
    rw [itP_s]
    have e : rnd K n M 0 (itP K n M r) w = itP K n M r w := rfl
    omega
def cst (K : Nat → Int) (M : Nat → Nat) (i m : Nat) : Int := both K i (M m) - both K i (M i)
theorem most_opt {K : Nat → Int} (hK : Lok K) {n : Nat} {M : Nat → Nat} (hM : ∀ i, M i = (mostL K n).getD i 0) : (∀ i, i < n → M i < n) ∧ Inj n M ∧ ∀ φ : Nat → Nat, (∀ i, i < n → φ i < n) → Inj n φ → sm (fun i => cst K M i (φ i)) n ≤ 0 := by
  obtain ⟨h1, h2, h3⟩ := most_row hK n
  obtain ⟨r1, r2⟩ := rows_iff.mp h1
  have hb : ∀ i, i < n → M i < n := fun i hi => by rw [hM]; exact r1.lt (by omega)
  have hi : Inj n M := fun a b ha hb e => r1.inj (by omega) (by omega) (by rw [← hM, ← hM]; exact e)
  refine ⟨hb, hi, fun φ p1 p2 => ?_⟩
  obtain ⟨q1, q2⟩ := row_fun (n := n) (f := fun i => M (φ i)) (fun i h => hb _ (p1 i h)) (fun a b ha hb2 e => p2 a b ha hb2 (hi _ _ (p1 a ha) (p1 b hb2) e))
  have q3 := h3 _ q1
  have e1 : sR K ((List.range n).map (fun i => M (φ i))) = sm (fun i => both K i (M (φ i))) n := by
    unfold sR
    rw [show ((List.range n).map (fun i => M (φ i))).length = n by simp]
    exact sm_congr n (fun x hx => by
      show both K x (((List.range n).map (fun i => M (φ i))).getD x 0) = _
      rw [q2 x hx])
  have e2 : sR K (mostL K n) = sm (fun i => both K i (M i)) n := by
    unfold sR
    rw [r2]
    exact sm_congr n (fun x _ => by show both K x ((mostL K n).getD x 0) = _; rw [hM])
  rw [h2, e1, e2] at q3
  have e3 : ∀ m, sm (fun i => cst K M i (φ i)) m = sm (fun i => both K i (M (φ i))) m - sm (fun i => both K i (M i)) m := by
    intro m
    induction m with
    | zero => rfl
    | succ m ih =>
      rw [sm_s, sm_s, sm_s, ih]
      show _ + (both K m (M (φ m)) - both K m (M m)) = _
      omega
  rw [e3]
  omega
section PX
variable {K : Nat → Int} {n : Nat} {M : Nat → Nat}
theorem rnd_up (hK : Lok K) (hM : ∀ i, M i = (mostL K n).getD i 0) {L : Nat → Int} (h : ∀ x, x < n → L (M x) ≤ dJ n (cst K M) (n - 1) x) : ∀ m, m ≤ n → ∀ x, x < n → rnd K n M m L (M x) ≤ dJ n (cst K M) (n - 1) x := by
  obtain ⟨hb, hi, hopt⟩ := most_opt hK hM
  intro m
  induction m with
  | zero => intro _ x hx; exact h x hx
  | succ m ih =>
    intro hm x hx
    rw [rnd_s, psh_i _ _ _ _ _ (hb x hx)]
    have h1 := ih (by omega) x hx
    have h2 := ih (by omega) m (by omega)
    have h3 := dJ_fix (C := cst K M) (fun i => Int.sub_self _) hopt (i := m) (m := x) (by omega) hx
    unfold cst at h3
    unfold cst at h1 h2 ⊢
    split <;> omega
theorem rnd_lo {L : Nat → Int} {r : Nat} (hb : ∀ i, i < n → M i < n) (h : ∀ x, x < n → dJ n (cst K M) r x ≤ L (M x)) : ∀ x, x < n → dJ n (cst K M) (r + 1) x ≤ rnd K n M n L (M x) := by
  intro x hx
  rw [dJ_s]
  refine mxm_le _ _ _ _ ?_ (fun i hi => ?_)
  · have h1 := rnd_ge K n M L (M x) 0 n
    rw [Nat.zero_add] at h1
    have e : rnd K n M 0 L (M x) = L (M x) := rfl
    have := h x hx
    omega
  · show dJ n (cst K M) r i + cst K M i x ≤ _
    have h1 := rnd_ge K n M L (M x) (i + 1) (n - (i + 1))
    rw [show i + 1 + (n - (i + 1)) = n by omega, rnd_s, psh_i _ _ _ _ _ (hb x hx)] at h1
    have h2 := rnd_ge K n M L (M i) 0 i
    rw [Nat.zero_add] at h2
    have e : rnd K n M 0 L (M i) = L (M i) := rfl
    have h3 := h i hi
    unfold cst at h3 ⊢
    split at h1 <;> omega
theorem itP_dJ (hK : Lok K) (hM : ∀ i, M i = (mostL K n).getD i 0) : ∀ r, ∀ x, x < n → dJ n (cst K M) r x ≤ itP K n M r (M x) ∧ itP K n M r (M x) ≤ dJ n (cst K M) (n - 1) x := by
  obtain ⟨hb, hi, hopt⟩ := most_opt hK hM
  intro r
  induction r with
  | zero =>
    intro x hx
    refine ⟨Int.le_refl _, ?_⟩
    have := dJ_up n (cst K M) x 0 (n - 1)
    rw [Nat.zero_add] at this
    exact this
  | succ r ih =>
    intro x hx
    rw [itP_s]
    exact ⟨rnd_lo hb (fun y hy => (ih y hy).1) x hx, rnd_up hK hM (fun y hy => (ih y hy).2) n (Nat.le_refl _) x hx⟩
theorem cst_le (hK : Lok K) (i m : Nat) : cst K M i m ≤ 198 := by
  unfold cst
  have h1 := both_in hK i (M m)
  have h2 := both_in hK i (M i)
  omega
/-- in the midst of a round too the prices stay small -/
theorem rnd_bd (hK : Lok K) (hM : ∀ i, M i = (mostL K n).getD i 0) (r m w : Nat) (hm : m ≤ n) : 0 ≤ rnd K n M m (itP K n M r) w ∧ rnd K n M m (itP K n M r) w ≤ 198 * (n - 1 : Nat) := by
  obtain ⟨hb, hi, hopt⟩ := most_opt hK hM
  have h0 := itP_ge K n M w r
  have h1 := rnd_ge K n M (itP K n M r) w 0 m
  rw [Nat.zero_add] at h1
  have e : rnd K n M 0 (itP K n M r) w = itP K n M r w := rfl
  refine ⟨by omega, ?_⟩
  by_cases hw : w < n
  · obtain ⟨x, hx, rfl⟩ := inj_surj hb hi hw
    have h2 := rnd_up hK hM (fun y hy => (itP_dJ hK hM r y hy).2) m hm x hx
    have h3 := dJ_le (n := n) (cst_le (M := M) hK) (n - 1) x
    omega
  · rw [rnd_o _ _ _ _ hw]
    have : ∀ r, itP K n M r w = 0 := by
      intro r
      induction r with
      | zero => rfl
      | succ r ih => rw [itP_s, rnd_o _ _ _ _ hw, ih]
    rw [this]
    omega
theorem itP_fix (hK : Lok K) (hM : ∀ i, M i = (mostL K n).getD i 0) {r : Nat} (hr : n - 1 ≤ r) : itP K n M (r + 1) = itP K n M r := by
  obtain ⟨hb, hi, hopt⟩ := most_opt hK hM
  funext w
  by_cases hw : w < n
  · obtain ⟨x, hx, rfl⟩ := inj_surj hb hi hw
    have h1 := itP_dJ hK hM r x hx
    have h2 := itP_dJ hK hM (r + 1) x hx
    have h3 := dJ_up n (cst K M) x (n - 1) (r - (n - 1))
    rw [show n - 1 + (r - (n - 1)) = r by omega] at h3
    have h4 := dJ_up n (cst K M) x r 1
    omega
  · rw [itP_s, rnd_o _ _ _ _ hw]
theorem itP_stay {r : Nat} (h : itP K n M (r + 1) = itP K n M r) : ∀ d, itP K n M (r + d) = itP K n M r := by
  intro d
  induction d with
  | zero => rfl
  | succ d ih =>
    have e : itP K n M (r + (d + 1)) = rnd K n M n (itP K n M (r + d)) := rfl
    rw [e, ih]
    exact h
end PX
