-- READING a WAY of TOKENS: the fault (0: none), the token's number, and the code: its length and its steps
abbrev PS : Type := Int × Nat × Nat × (Nat → Int)
def stepS (s : PS) : PS := (s.1, s.2.1 + 1, s.2.2)
def blameS (k : Int) (s : PS) : PS := if s.1 = 0 then (k, s.2) else s
def putS (x : Int) (s : PS) : PS := (s.1, s.2.1, s.2.2.1 + 1, fun k => if k = s.2.2.1 then x else s.2.2.2 k)
section SPEC
variable (F : Nat) (K V : Nat → Int)
/-- the TOKEN that stands now; behind a fault none stands -/
def kd (s : PS) : Int := if s.1 = 0 then K s.2.1 else 1
def unitS (s : PS) : PS := if kd K s = 2 then stepS (putS (V s.2.1) s) else if 262 ≤ kd K s ∧ kd K s ≤ 268 then stepS (putS (261 - kd K s) s) else blameS 1 s
def divS (s : PS) : PS := if kd K s = 2 then (if V s.2.1 = 0 then blameS 2 s else stepS (putS (V s.2.1) s)) else blameS 1 s
def sumL : Nat → Int → PS → PS
  | 0, _, s => s
  | f + 1, w, s =>
    if kd K s = 42 then sumL f w (putS (-10) (unitS K V (stepS s)))
    else if kd K s = 47 then sumL f w (putS (-11) (divS K V (stepS s)))
    else if kd K s = 43 then sumL f (-8) (unitS K V (stepS (if w = 0 then s else putS w s)))
    else if kd K s = 45 then sumL f (-9) (unitS K V (stepS (if w = 0 then s else putS w s)))
    else (if w = 0 then s else putS w s)
def sumS (s : PS) : PS := sumL K V F 0 (unitS K V s)
def joint (k : Int) : Int := if k = 60 then -12 else if k = 61 then -13 else -14
def cmpS (s : PS) : PS := if kd K s = 60 ∨ kd K s = 61 ∨ kd K s = 62 then stepS s else blameS 1 s
def comS (s : PS) : PS := putS (joint (kd K (sumS F K V s))) (sumS F K V (cmpS K (sumS F K V s)))
def eitherL (cl : PS → PS) : Nat → Bool → PS → PS
  | 0, _, s => s
  | f + 1, w, s =>
    if kd K s = 260 then eitherL cl f w (putS (-15) (cl (stepS s)))
    else if kd K s = 259 then eitherL cl f true (cl (stepS (if w then putS (-16) s else s)))
    else (if w then putS (-16) s else s)
def eitherS (cl : PS → PS) (s : PS) : PS := eitherL K cl F false (cl s)
def closeS (s : PS) : PS := if kd K s = 41 then stepS s else blameS 1 s
/-- d: how many more may be open -/
def claimS : Nat → PS → PS
  | 0, s => if kd K s = 261 ∨ kd K s = 40 then blameS 3 s else comS F K V s
  | d + 1, s =>
    if kd K s = 261 then putS (-17) (claimS d (stepS s))
    else if kd K s = 40 then closeS K (eitherS F K (claimS d) (stepS s))
    else comS F K V s
end SPEC
/-- n more TOKENS are read than steps are told; the last is the N-th -/
def Inv (N p : Nat) (s : PS) : Prop := s.2.1 ≤ N ∧ (s.1 = 0 → s.2.2.1 + p ≤ s.2.1)
def Fn (K : Nat → Int) (N : Nat) : Prop := (K N = 0 ∨ K N = 1) ∧ ∀ k, k < N → K k ≠ 0 ∧ K k ≠ 1
theorem kd_lt {K : Nat → Int} {N : Nat} {s : PS} (hN : Fn K N) (h : s.2.1 ≤ N) (h0 : kd K s ≠ 0) (h1 : kd K s ≠ 1) : s.1 = 0 ∧ s.2.1 < N ∧ kd K s = K s.2.1 := by
  unfold kd at *
  by_cases hf : s.1 = 0
  · rw [if_pos hf] at h0 h1 ⊢
    refine ⟨hf, ?_, rfl⟩
    rcases Nat.lt_or_ge s.2.1 N with q | q
    · exact q
    · have e : s.2.1 = N := by omega
      rw [e] at h0 h1
      rcases hN.1 with q | q
      · exact absurd q h0
      · exact absurd q h1
  · rw [if_neg hf] at h1
    exact absurd rfl h1
theorem Inv.step {K : Nat → Int} {N p : Nat} {s : PS} (hN : Fn K N) (h : Inv N p s) (h0 : kd K s ≠ 0) (h1 : kd K s ≠ 1) : Inv N (p + 1) (stepS s) := by
  have q := kd_lt hN h.1 h0 h1
  refine ⟨by show s.2.1 + 1 ≤ N; omega, fun hf => ?_⟩
  have := h.2 hf
  show s.2.2.1 + (p + 1) ≤ s.2.1 + 1
  omega
theorem Inv.put {N p : Nat} {s : PS} (h : Inv N (p + 1) s) (x : Int) : Inv N p (putS x s) := by
  refine ⟨h.1, fun hf => ?_⟩
  have := h.2 hf
  show s.2.2.1 + 1 + p ≤ s.2.1
  omega
theorem Inv.blame {N p : Nat} {s : PS} (h : Inv N p s) {k : Int} (hk : k ≠ 0) : Inv N p (blameS k s) := by
  unfold blameS
  split
  · exact ⟨h.1, fun q => absurd q hk⟩
  · exact h
theorem Inv.mono {N p p' : Nat} {s : PS} (h : Inv N p s) (hp : p' ≤ p) : Inv N p' s := ⟨h.1, fun q => by have := h.2 q; omega⟩
theorem Inv.sp {K : Nat → Int} {N p : Nat} {s : PS} (hN : Fn K N) (h : Inv N p s) (h0 : kd K s ≠ 0) (h1 : kd K s ≠ 1) (x : Int) : Inv N p (stepS (putS x s)) := by
  have q := kd_lt hN h.1 h0 h1
  refine ⟨by show s.2.1 + 1 ≤ N; omega, fun hf => ?_⟩
  have := h.2 hf
  show s.2.2.1 + 1 + p ≤ s.2.1 + 1
  omega
theorem Inv.unit {K : Nat → Int} {N p : Nat} {s : PS} (V : Nat → Int) (hN : Fn K N) (h : Inv N p s) : Inv N p (unitS K V s) := by
  unfold unitS
  split
  · exact h.sp hN (by omega) (by omega) _
  · split
    · exact h.sp hN (by omega) (by omega) _
    · exact h.blame (by decide)
theorem Inv.div {K : Nat → Int} {N p : Nat} {s : PS} (V : Nat → Int) (hN : Fn K N) (h : Inv N p s) : Inv N p (divS K V s) := by
  unfold divS
  split
  · split
    · exact h.blame (by decide)
    · exact h.sp hN (by omega) (by omega) _
  · exact h.blame (by decide)
theorem Inv.wput {K : Nat → Int} {N p : Nat} {w : Int} {s : PS} (h : Inv N (p + (if w = 0 then 0 else 1)) s) : Inv N p (if w = 0 then s else putS w s) := by
  split
  · rename_i hw
    rw [if_pos hw] at h
    exact h
  · rename_i hw
    rw [if_neg hw] at h
    exact h.put w
theorem kd_put (K : Nat → Int) (x : Int) (s : PS) : kd K (putS x s) = kd K s := rfl
theorem kd_wput (K : Nat → Int) (w : Int) (s : PS) : kd K (if w = 0 then s else putS w s) = kd K s := by split <;> rfl
theorem Inv.sumLp {K : Nat → Int} {N : Nat} (V : Nat → Int) (hN : Fn K N) : ∀ (f : Nat) (w : Int) (p : Nat) (s : PS), Inv N (p + (if w = 0 then 0 else 1)) s → Inv N p (sumL K V f w s) := by
  intro f
  induction f with
  | zero => intro w p s h; exact h.mono (by omega)
  | succ f ih =>
    intro w p s h
    unfold sumL
    split
    · exact ih w p _ (Inv.put (Inv.unit V hN ((h.step hN (by omega) (by omega)))) _)
    · split
      · exact ih w p _ (Inv.put (Inv.div V hN ((h.step hN (by omega) (by omega)))) _)
      · split
        · exact ih _ p _ (Inv.unit V hN ((Inv.wput (K := K) h).step hN (by rw [kd_wput]; omega) (by rw [kd_wput]; omega)))
        · split
          · exact ih _ p _ (Inv.unit V hN ((Inv.wput (K := K) h).step hN (by rw [kd_wput]; omega) (by rw [kd_wput]; omega)))
          · exact Inv.wput (K := K) h
theorem Inv.sum {F : Nat} {K : Nat → Int} {N p : Nat} {s : PS} (V : Nat → Int) (hN : Fn K N) (h : Inv N p s) : Inv N p (sumS F K V s) := Inv.sumLp V hN F 0 p _ (by rw [if_pos rfl]; exact h.unit V hN)
theorem Inv.com {F : Nat} {K : Nat → Int} {N p : Nat} {s : PS} (V : Nat → Int) (hN : Fn K N) (h : Inv N p s) : Inv N p (comS F K V s) := by
  unfold comS
  refine Inv.put (Inv.sum V hN ?_) _
  have h1 := h.sum (F := F) V hN
  unfold cmpS
  split
  · exact h1.step hN (by omega) (by omega)
  · refine ⟨(h1.blame (k := 1) (by decide)).1, fun q => absurd q ?_⟩
    unfold blameS
    split
    · exact (by decide : ¬ (1 : Int) = 0)
    · assumption
theorem Inv.bput {N p : Nat} {w : Bool} {s : PS} (h : Inv N (p + (if w then 1 else 0)) s) : Inv N p (if w then putS (-16) s else s) := by
  split
  · rename_i hw
    rw [if_pos hw] at h
    exact h.put _
  · rename_i hw
    rw [if_neg hw] at h
    exact h
theorem kd_bput (K : Nat → Int) (w : Bool) (s : PS) : kd K (if w then putS (-16) s else s) = kd K s := by split <;> rfl
theorem Inv.eitherLp {K : Nat → Int} {N : Nat} (hN : Fn K N) {cl : PS → PS} (hcl : ∀ p s, Inv N p s → Inv N p (cl s)) : ∀ (f : Nat) (w : Bool) (p : Nat) (s : PS), Inv N (p + (if w then 1 else 0)) s → Inv N p (eitherL K cl f w s) := by
  intro f
  induction f with
  | zero => intro w p s h; exact h.mono (by omega)
  | succ f ih =>
    intro w p s h
    unfold eitherL
    split
    · exact ih w p _ (Inv.put (hcl _ _ (h.step hN (by omega) (by omega))) _)
    · split
      · exact ih true p _ (hcl _ _ ((Inv.bput h).step hN (by rw [kd_bput]; omega) (by rw [kd_bput]; omega)))
      · exact Inv.bput h
theorem Inv.either {F : Nat} {K : Nat → Int} {N p : Nat} (hN : Fn K N) {cl : PS → PS} (hcl : ∀ p s, Inv N p s → Inv N p (cl s)) {s : PS} (h : Inv N p s) : Inv N p (eitherS F K cl s) := Inv.eitherLp hN hcl F false p _ (hcl p s h)
theorem Inv.claim {F : Nat} {K : Nat → Int} {N : Nat} (V : Nat → Int) (hN : Fn K N) : ∀ (d p : Nat) (s : PS), Inv N p s → Inv N p (claimS F K V d s) := by
  intro d
  induction d with
  | zero =>
    intro p s h
    unfold claimS
    split
    · exact h.blame (by decide)
    · exact h.com V hN
  | succ d ih =>
    intro p s h
    unfold claimS
    split
    · exact Inv.put (ih _ _ (h.step hN (by omega) (by omega))) _
    · split
      · have h2 := Inv.either (F := F) hN ih (h.step hN (by omega) (by omega))
        unfold closeS
        split
        · exact (h2.step hN (by omega) (by omega)).mono (by omega)
        · exact (h2.blame (by decide)).mono (by omega)
      · exact h.com V hN
