-- what a method may have written
def Fr (L : List Nat) (σ τ : St) : Prop := τ.1 = σ.1 ∧ τ.2.2.1 = σ.2.2.1 ∧ τ.2.2.2 = σ.2.2.2 ∧ ∀ r, r ∉ L → ∀ j, τ.2.1 r j = σ.2.1 r j
theorem Fr.rf {L : List Nat} {σ : St} : Fr L σ σ := ⟨rfl, rfl, rfl, fun _ _ _ => rfl⟩
theorem Fr.tr {L : List Nat} {σ τ ρ : St} (h : Fr L σ τ) (h2 : Fr L τ ρ) : Fr L σ ρ := ⟨h2.1.trans h.1, h2.2.1.trans h.2.1, h2.2.2.1.trans h.2.2.1, fun r hr j => (h2.2.2.2 r hr j).trans (h.2.2.2 r hr j)⟩
theorem Fr.mo {L L' : List Nat} {σ τ : St} (h : Fr L σ τ) (hs : ∀ r, r ∈ L → r ∈ L') : Fr L' σ τ := ⟨h.1, h.2.1, h.2.2.1, fun r hr j => h.2.2.2 r (fun q => hr (hs r q)) j⟩
theorem Fr.up {L : List Nat} {σ τ : St} (h : Fr L σ τ) {r : Nat} (hr : r ∈ L) (j : Nat) (x : Int) : Fr L σ (upI τ r j x) := by
  refine ⟨h.1, h.2.1, h.2.2.1, fun r' hr' j' => ?_⟩
  rw [← h.2.2.2 r' hr' j']
  simp only [upI]
  rw [if_neg]
  intro q
  exact hr' (by rw [q.1]; exact hr)
theorem Fr.cel {L : List Nat} {σ τ : St} (h : Fr L σ τ) {r : Nat} {k : Nat × Nat} (hk : Cel σ r k) : Cel τ r k := ⟨hk.1, by rw [h.2.2.1]; exact hk.2.1, by rw [h.1]; exact hk.2.2⟩
theorem Fr.sta {L : List Nat} {σ τ : St} (h : Fr L σ τ) (hS : Sta σ) : Sta τ := ⟨by rw [h.2.2.1]; exact hS.1, by rw [h.1]; exact hS.2.1, by rw [h.2.1]; exact hS.2.2⟩
theorem Fr.iv {L : List Nat} {σ τ : St} (h : Fr L σ τ) (r j : Nat) (hr : r ∉ L := by decide) : τ.2.1 r j = σ.2.1 r j := h.2.2.2 r hr j
theorem Fr.rv {L : List Nat} {σ τ : St} (h : Fr L σ τ) (r j : Nat) : τ.2.2.1 r j = σ.2.2.1 r j := by rw [h.2.1]
theorem up_at (σ : St) (r j : Nat) (x : Int) : (upI σ r j x).2.1 r j = x := by simp [upI]
theorem up_r (σ : St) {r r' : Nat} (j j' : Nat) (x : Int) (h : r' ≠ r) : (upI σ r j x).2.1 r' j' = σ.2.1 r' j' := by simp [upI, h]
theorem up_j (σ : St) (r : Nat) {j j' : Nat} (x : Int) (h : j' ≠ j) : (upI σ r j x).2.1 r j' = σ.2.1 r j' := by simp [upI, h]
theorem up_if (σ : St) (r j r' j' : Nat) (x : Int) : (upI σ r j x).2.1 r' j' = if r' = r ∧ j' = j then x else σ.2.1 r' j' := rfl
-- the market: 0 counts, 1 LOOKS, 2 often, 3 told, 4 settings
abbrev Mk : Type := Nat → Nat → Int
def RepC (D : Mk) (σ : St) : Prop := (∀ k, k < 2 → σ.2.1 18 k = D 0 k) ∧ (∀ k, k < 12 → σ.2.1 19 k = D 1 k) ∧ (∀ k, k < 12 → σ.2.1 20 k = D 2 k) ∧ (∀ k, k < 72 → σ.2.1 21 k = D 3 k) ∧ ∀ k, k < 7 → σ.2.1 22 k = D 4 k
def RepM (D : Mk) (σ : St) : Prop := (∀ k, k < 2 → σ.2.1 95 k = D 0 k) ∧ (∀ k, k < 12 → σ.2.1 96 k = D 1 k) ∧ (∀ k, k < 12 → σ.2.1 97 k = D 2 k) ∧ (∀ k, k < 72 → σ.2.1 98 k = D 3 k) ∧ ∀ k, k < 7 → σ.2.1 94 (5 + k) = D 4 k
/-- what is always so of a market -/
def WFm (D : Mk) : Prop := (∀ s, s < 2 → 1 ≤ D 0 s ∧ D 0 s ≤ 6) ∧ (∀ k, k < 12 → 0 ≤ D 1 k ∧ D 1 k ≤ 999) ∧ (∀ k, k < 12 → 0 ≤ D 2 k ∧ D 2 k ≤ 999) ∧ (∀ k, k < 72 → -1 ≤ D 3 k ∧ D 3 k ≤ 999) ∧
  (0 ≤ D 4 0 ∧ D 4 0 ≤ 99) ∧ (1 ≤ D 4 1 ∧ D 4 1 ≤ 999) ∧ (1 ≤ D 4 2 ∧ D 4 2 ≤ 60) ∧ (0 ≤ D 4 3 ∧ D 4 3 ≤ 99) ∧ (1 ≤ D 4 4 ∧ D 4 4 ≤ 99) ∧ (0 ≤ D 4 5 ∧ D 4 5 ≤ 1) ∧ (0 ≤ D 4 6 ∧ D 4 6 ≤ 1) ∧
  (∀ s i : Nat, s < 2 → i < 6 → D 0 s ≤ (i : Int) → D 2 (6 * s + i) = 0) ∧ ∀ s, s < 2 → D 2 (6 * s) + D 2 (6 * s + 1) + D 2 (6 * s + 2) + D 2 (6 * s + 3) + D 2 (6 * s + 4) + D 2 (6 * s + 5) ≤ 1000
def isSr (D : Mk) (side sort : Int) : Prop := (side = 0 ∨ side = 1) ∧ 0 ≤ sort ∧ sort < D 0 side.toNat
def dSorts (D : Mk) (s : Nat) (n : Int) : Mk := fun c k => match c with
  | 0 => if k = s then n else D 0 k
  | 1 => if 6 * s ≤ k ∧ k < 6 * s + 6 then 0 else D 1 k
  | 2 => if 6 * s ≤ k ∧ k < 6 * s + 6 then 0 else D 2 k
  | 3 => -1
  | c + 4 => D (c + 4) k
def dLook (D : Mk) (p : Nat) (look often : Int) : Mk := fun c k => match c with
  | 0 => D 0 k
  | 1 => if k = p then look else D 1 k
  | 2 => if k = p then often else D 2 k
  | c + 3 => D (c + 3) k
def dPut (D : Mk) (c0 p : Nat) (v : Int) : Mk := fun c k => if c = c0 ∧ k = p then v else D c k
def wo (D : Mk) (s i j : Nat) : Int := if D 3 (36 * s + 6 * i + j) = -1 then D 1 (6 * (1 - s) + j) else D 3 (36 * s + 6 * i + j)
/-- all often of a SIDE but one, and v -/
def oSum (D : Mk) (s p : Nat) (v : Int) : Nat → Int
  | 0 => v
  | n + 1 => oSum D s p v n + if n = p then 0 else D 2 (6 * s + n)
