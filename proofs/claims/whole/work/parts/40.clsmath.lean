theorem AW_lmulE {M : MT} {G : Gt} {d bc bs : Nat} {Qz : QZ} {pc : Nat} {ls : List (Option AV)} {st : List AV} {σ : St} {a b : Int} (hd : decode M.2.1 pc = .ok (.lmul, 1)) (h : -100000000000000 ≤ a * b ∧ a * b ≤ 100000000000000) (k : AW M G d bc bs Qz (pc + 1) ls (vL (a * b) :: st) σ) : AW M G d bc bs Qz pc ls (vL b :: vL a :: st) σ := AW_lmul hd (by rw [wL_id (by omega) (by omega)]; exact k)
theorem lc_le {a b : Int} : (if a < b then (-1 : Int) else if a = b then 0 else 1) ≤ 0 ↔ a ≤ b := by
  split
  · omega
  · split <;> omega
theorem lc_gt {a b : Int} : (0 : Int) < (if a < b then (-1 : Int) else if a = b then 0 else 1) ↔ b < a := by
  split
  · omega
  · split <;> omega
theorem mulb {x y A B : Int} (hx : -A ≤ x ∧ x ≤ A) (hy : 0 ≤ y ∧ y ≤ B) (hA : 0 ≤ A) : -(A * B) ≤ x * y ∧ x * y ≤ A * B := by
  have h1 : x * y ≤ A * y := Int.mul_le_mul_of_nonneg_right hx.2 hy.1
  have h2 : -A * y ≤ x * y := Int.mul_le_mul_of_nonneg_right hx.1 hy.1
  have h3 : A * y ≤ A * B := Int.mul_le_mul_of_nonneg_left hy.2 hA
  rw [Int.neg_mul] at h2
  omega
theorem mul0 {x y A B : Int} (hx : 0 ≤ x ∧ x ≤ A) (hy : 0 ≤ y ∧ y ≤ B) : 0 ≤ x * y ∧ x * y ≤ A * B := by
  have h1 : x * y ≤ A * y := Int.mul_le_mul_of_nonneg_right hx.2 hy.1
  have h3 : A * y ≤ A * B := Int.mul_le_mul_of_nonneg_left hy.2 (Int.le_trans hx.1 hx.2)
  exact ⟨Int.mul_nonneg hx.1 hy.1, Int.le_trans h1 h3⟩
-- a cell whose fields are told apart
def Fo (r0 : Nat) (fs L : List Nat) (σ τ : St) : Prop := Fr (r0 :: L) σ τ ∧ ∀ j, j ∉ fs → τ.2.1 r0 j = σ.2.1 r0 j
theorem Fo.rf {r0 : Nat} {fs L : List Nat} {σ : St} : Fo r0 fs L σ σ := ⟨Fr.rf, fun _ _ => rfl⟩
theorem Fo.tr {r0 : Nat} {fs L : List Nat} {σ τ ρ : St} (h : Fo r0 fs L σ τ) (h2 : Fo r0 fs L τ ρ) : Fo r0 fs L σ ρ := ⟨h.1.tr h2.1, fun j hj => (h2.2 j hj).trans (h.2 j hj)⟩
theorem Fo.mo {r0 : Nat} {fs L fs' L' : List Nat} {σ τ : St} (h : Fo r0 fs L σ τ) (h1 : ∀ r, r ∈ fs → r ∈ fs') (h2 : ∀ r, r ∈ L → r ∈ L') : Fo r0 fs' L' σ τ :=
  ⟨h.1.mo (fun r hr => by rcases List.mem_cons.mp hr with e | e; exact List.mem_cons.mpr (Or.inl e); exact List.mem_cons.mpr (Or.inr (h2 r e))), fun j hj => h.2 j (fun q => hj (h1 j q))⟩
theorem Fo.uf {r0 : Nat} {fs L : List Nat} {σ τ : St} (h : Fo r0 fs L σ τ) {j : Nat} (hj : j ∈ fs) (x : Int) : Fo r0 fs L σ (upI τ r0 j x) := by
  refine ⟨h.1.up (by simp) _ _, fun i hi => ?_⟩
  rw [← h.2 i hi, up_if, if_neg]
  intro q
  exact hi (by rw [q.2]; exact hj)
theorem Fo.ua {r0 : Nat} {fs L : List Nat} {σ τ : St} (h : Fo r0 fs L σ τ) {r : Nat} (hr : r ∈ L) (hr2 : r ≠ r0) (j : Nat) (x : Int) : Fo r0 fs L σ (upI τ r j x) := by
  refine ⟨h.1.up (by simp [hr]) _ _, fun i hi => ?_⟩
  rw [up_r _ _ _ _ (Ne.symm hr2)]
  exact h.2 i hi
theorem Fo.sta {r0 : Nat} {fs L : List Nat} {σ τ : St} (h : Fo r0 fs L σ τ) (hS : Sta σ) : Sta τ := h.1.sta hS
theorem Fo.f {r0 : Nat} {fs L : List Nat} {σ τ : St} (h : Fo r0 fs L σ τ) (j : Nat) (hj : j ∉ fs := by decide) : τ.2.1 r0 j = σ.2.1 r0 j := h.2 j hj
theorem Fo.a {r0 : Nat} {fs L : List Nat} {σ τ : St} (h : Fo r0 fs L σ τ) (r j : Nat) (hr : r ∉ r0 :: L := by decide) : τ.2.1 r j = σ.2.1 r j := h.1.2.2.2 r hr j
theorem RepC.fr {D : Mk} {L : List Nat} {σ τ : St} (hR : RepC D σ) (h : Fr L σ τ) (h2 : ∀ k, k < 5 → 18 + k ∉ L := by decide) : RepC D τ :=
  ⟨fun k hk => (h.iv 18 k (h2 0 (by decide))).trans (hR.1 k hk), fun k hk => (h.iv 19 k (h2 1 (by decide))).trans (hR.2.1 k hk), fun k hk => (h.iv 20 k (h2 2 (by decide))).trans (hR.2.2.1 k hk), fun k hk => (h.iv 21 k (h2 3 (by decide))).trans (hR.2.2.2.1 k hk), fun k hk => (h.iv 22 k (h2 4 (by decide))).trans (hR.2.2.2.2 k hk)⟩
-- CLASSES
def chU (D : Mk) (s f : Nat) : Nat → Int
  | 0 => -1000 * D 4 0
  | n + 1 => chU D s f n + D 2 (6 * s + (f + n)) * D 1 (6 * s + (f + n))
def chD (D : Mk) (s f : Nat) : Nat → Int
  | 0 => D 4 1
  | n + 1 => chD D s f n + D 2 (6 * s + (f + n))
def chB (D : Mk) (s f : Nat) : Nat → Nat × Int × Int
  | 0 => (0, 0, 0)
  | n + 1 => if n = 0 ∨ (chB D s f n).2.1 * chD D s f (n + 1) < chU D s f (n + 1) * (chB D s f n).2.2 then (f + n, chU D s f (n + 1), chD D s f (n + 1)) else chB D s f n
def chT (D : Mk) (s f : Nat) : Nat × Int × Int := chB D s f ((D 0 s).toNat - f)
theorem chU_in {D : Mk} (hW : WFm D) {s f : Nat} (hs : s < 2) : ∀ n, f + n ≤ 6 → -99000 ≤ chU D s f n ∧ chU D s f n ≤ 998001 * n := by
  intro n
  induction n with
  | zero => intro _; have := hW.2.2.2.2.1; simp only [chU]; omega
  | succ n ih =>
    intro hn
    have h1 := ih (by omega)
    have h2 := mul0 (hW.2.2.1 (6 * s + (f + n)) (by omega)) (hW.2.1 (6 * s + (f + n)) (by omega))
    simp only [chU]
    omega
theorem chD_in {D : Mk} (hW : WFm D) {s f : Nat} (hs : s < 2) : ∀ n, f + n ≤ 6 → 1 ≤ chD D s f n ∧ chD D s f n ≤ 999 + 999 * n := by
  intro n
  induction n with
  | zero => intro _; have := hW.2.2.2.2.2.1; simp only [chD]; omega
  | succ n ih =>
    intro hn
    have h1 := ih (by omega)
    have h2 := hW.2.2.1 (6 * s + (f + n)) (by omega)
    simp only [chD]
    omega
theorem chB_in {D : Mk} (hW : WFm D) {s f : Nat} (hs : s < 2) : ∀ n, 1 ≤ n → f + n ≤ 6 → (f ≤ (chB D s f n).1 ∧ (chB D s f n).1 < f + n) ∧ (-99000 ≤ (chB D s f n).2.1 ∧ (chB D s f n).2.1 ≤ 5988006) ∧ 1 ≤ (chB D s f n).2.2 ∧ (chB D s f n).2.2 ≤ 6993 := by
  intro n
  induction n with
  | zero => intro h; omega
  | succ n ih =>
    intro _ hn
    have h1 := chU_in hW (f := f) hs (n + 1) hn
    have h2 := chD_in hW (f := f) hs (n + 1) hn
    simp only [chB]
    split
    · simp only
      omega
    · rename_i hc
      have := ih (by omega) (by omega)
      omega
def clA (D : Mk) : Nat → Nat × Nat
  | 0 => (0, 0)
  | n + 1 => ((chT D 0 (clA D n).1).1 + 1, (chT D 1 (clA D n).2).1 + 1)
def clOk (D : Mk) (n : Nat) : Prop := ((clA D n).1 : Int) < D 0 0 ∧ ((clA D n).2 : Int) < D 0 1 ∧ 0 ≤ (chT D 1 (clA D n).2).2.1 ∧ 0 ≤ (chT D 0 (clA D n).1).2.1
def isCnt (D : Mk) (m : Nat) : Prop := (∀ k, k < m → clOk D k) ∧ ¬ clOk D m
theorem isCnt_one {D : Mk} {m m' : Nat} (h : isCnt D m) (h' : isCnt D m') : m = m' := by
  rcases Nat.lt_trichotomy m m' with q | q | q
  · exact absurd (h'.1 m q) h.2
  · exact q
  · exact absurd (h.1 m' q) h'.2
theorem chT_in {D : Mk} (hW : WFm D) {s f : Nat} (hs : s < 2) (hf : (f : Int) < D 0 s) : (f ≤ (chT D s f).1 ∧ ((chT D s f).1 : Int) < D 0 s) ∧ (-99000 ≤ (chT D s f).2.1 ∧ (chT D s f).2.1 ≤ 5988006) ∧ 1 ≤ (chT D s f).2.2 ∧ (chT D s f).2.2 ≤ 6993 := by
  have hb := hW.1 s hs
  have h := chB_in hW (f := f) hs ((D 0 s).toNat - f) (by omega) (by omega)
  unfold chT
  omega
theorem clA_in {D : Mk} (hW : WFm D) : ∀ n, (∀ k, k < n → clOk D k) → n ≤ (clA D n).1 ∧ ((clA D n).1 : Int) ≤ D 0 0 ∧ n ≤ (clA D n).2 ∧ ((clA D n).2 : Int) ≤ D 0 1 := by
  intro n
  induction n with
  | zero =>
    intro _
    have h0 := hW.1 0 (by decide)
    have h1 := hW.1 1 (by decide)
    simp only [clA]
    omega
  | succ n ih =>
    intro h
    have h1 := ih (fun k hk => h k (by omega))
    obtain ⟨q1, q2, -, -⟩ := h n (by omega)
    have h2 := chT_in hW (s := 0) (by decide) q1
    have h3 := chT_in hW (s := 1) (by decide) q2
    simp only [clA]
    omega
