-- PEOPLE as the model holds them
def TwM (n : Nat) (w : Tw) (σ : St) : Prop := (∀ f p, f < 10 → p < 40 → σ.2.1 (113 + f) p = w.1 f p) ∧ σ.2.1 94 42 = n ∧ (∀ i, i < 5 → σ.2.1 94 (54 + i) = w.2.1 i) ∧ σ.2.1 94 53 = w.2.2
theorem TwM.v0 {n : Nat} {w : Tw} {σ : St} (h : TwM n w σ) {p : Nat} (hp : p < 40) : σ.2.1 113 p = w.1 0 p := h.1 0 p (by decide) hp
theorem TwM.v1 {n : Nat} {w : Tw} {σ : St} (h : TwM n w σ) {p : Nat} (hp : p < 40) : σ.2.1 114 p = w.1 1 p := h.1 1 p (by decide) hp
theorem TwM.v2 {n : Nat} {w : Tw} {σ : St} (h : TwM n w σ) {p : Nat} (hp : p < 40) : σ.2.1 115 p = w.1 2 p := h.1 2 p (by decide) hp
theorem TwM.v3 {n : Nat} {w : Tw} {σ : St} (h : TwM n w σ) {p : Nat} (hp : p < 40) : σ.2.1 116 p = w.1 3 p := h.1 3 p (by decide) hp
theorem TwM.v4 {n : Nat} {w : Tw} {σ : St} (h : TwM n w σ) {p : Nat} (hp : p < 40) : σ.2.1 117 p = w.1 4 p := h.1 4 p (by decide) hp
theorem TwM.v5 {n : Nat} {w : Tw} {σ : St} (h : TwM n w σ) {p : Nat} (hp : p < 40) : σ.2.1 118 p = w.1 5 p := h.1 5 p (by decide) hp
theorem TwM.v6 {n : Nat} {w : Tw} {σ : St} (h : TwM n w σ) {p : Nat} (hp : p < 40) : σ.2.1 119 p = w.1 6 p := h.1 6 p (by decide) hp
theorem TwM.v7 {n : Nat} {w : Tw} {σ : St} (h : TwM n w σ) {p : Nat} (hp : p < 40) : σ.2.1 120 p = w.1 7 p := h.1 7 p (by decide) hp
theorem TwM.v8 {n : Nat} {w : Tw} {σ : St} (h : TwM n w σ) {p : Nat} (hp : p < 40) : σ.2.1 121 p = w.1 8 p := h.1 8 p (by decide) hp
theorem TwM.v9 {n : Nat} {w : Tw} {σ : St} (h : TwM n w σ) {p : Nat} (hp : p < 40) : σ.2.1 122 p = w.1 9 p := h.1 9 p (by decide) hp
theorem TwM.t0 {n : Nat} {w : Tw} {σ : St} (h : TwM n w σ) : σ.2.1 94 54 = w.2.1 0 := h.2.2.1 0 (by decide)
theorem TwM.t1 {n : Nat} {w : Tw} {σ : St} (h : TwM n w σ) : σ.2.1 94 55 = w.2.1 1 := h.2.2.1 1 (by decide)
theorem TwM.t2 {n : Nat} {w : Tw} {σ : St} (h : TwM n w σ) : σ.2.1 94 56 = w.2.1 2 := h.2.2.1 2 (by decide)
theorem TwM.t3 {n : Nat} {w : Tw} {σ : St} (h : TwM n w σ) : σ.2.1 94 57 = w.2.1 3 := h.2.2.1 3 (by decide)
theorem TwM.t4 {n : Nat} {w : Tw} {σ : St} (h : TwM n w σ) : σ.2.1 94 58 = w.2.1 4 := h.2.2.1 4 (by decide)
theorem TwM.uP {n : Nat} {w : Tw} {σ : St} (h : TwM n w σ) {p : Nat} (f r : Nat) (v : Int) (e : r = 113 + f ∧ f < 10 := by decide) : TwM n (setP w.1 f p v, w.2.1, w.2.2) (upI σ r p v) := by
  refine ⟨fun f' p' hf hp => ?_, ?_, fun i hi => ?_, ?_⟩
  · show _ = setP w.1 f p v f' p'
    rw [up_if, setP_if]
    by_cases hc : f' = f ∧ p' = p
    · rw [if_pos ⟨by omega, hc.2⟩, if_pos hc]
    · rw [if_neg (fun q => hc ⟨by omega, q.2⟩), if_neg hc]
      exact h.1 f' p' hf hp
  · rw [up_r _ _ _ _ (by omega)]; exact h.2.1
  · rw [up_r _ _ _ _ (by omega)]; exact h.2.2.1 i hi
  · rw [up_r _ _ _ _ (by omega)]; exact h.2.2.2
theorem TwM.uT {n : Nat} {w : Tw} {σ : St} (h : TwM n w σ) (i j : Nat) (v : Int) (e : j = 54 + i ∧ i < 5 := by decide) : TwM n (w.1, setT w.2.1 i v, w.2.2) (upI σ 94 j v) := by
  refine ⟨fun f' p' hf hp => ?_, ?_, fun i' hi => ?_, ?_⟩
  · rw [up_r _ _ _ _ (by omega)]; exact h.1 f' p' hf hp
  · rw [up_j _ _ _ (by omega)]; exact h.2.1
  · show _ = setT w.2.1 i v i'
    rw [up_if, setT_if]
    by_cases hc : i' = i
    · rw [if_pos ⟨rfl, by omega⟩, if_pos hc]
    · rw [if_neg (fun q => hc (by omega)), if_neg hc]
      exact h.2.2.1 i' hi
  · rw [up_j _ _ _ (by omega)]; exact h.2.2.2
theorem TwM.uz {n : Nat} {w : Tw} {σ : St} (h : TwM n w σ) (v : Int) : TwM n (w.1, w.2.1, v) (upI σ 94 53 v) := by
  refine ⟨fun f' p' hf hp => ?_, ?_, fun i' hi => ?_, up_at _ _ _ _⟩
  · rw [up_r _ _ _ _ (by omega)]; exact h.1 f' p' hf hp
  · rw [up_j _ _ _ (by omega)]; exact h.2.1
  · rw [up_j _ _ _ (by omega)]; exact h.2.2.1 i' hi
theorem TwM.fm {n : Nat} {w : Tw} {fs L : List Nat} {σ ρ : St} (h : TwM n w σ) (hF : Fm fs L σ ρ) (h1 : ∀ j ∈ fs, j ≠ 42 ∧ (j < 53 ∨ 58 < j) := by decide) (h2 : ∀ r ∈ 94 :: L, r < 113 ∨ 122 < r := by decide) : TwM n w ρ :=
  ⟨fun f p hf hp => (hF.a _ _ (fun q => by have := h2 _ q; omega)).trans (h.1 f p hf hp), (hF.f 42 (fun q => (h1 _ q).1 rfl)).trans h.2.1, fun i hi => (hF.f _ (fun q => by have := h1 _ q; omega)).trans (h.2.2.1 i hi), (hF.f 53 (fun q => by have := h1 _ q; omega)).trans h.2.2.2⟩
/-- what the model's PEOPLE read and leave as it is -/
def CtM (D : Mk) (Ws : Nat → Wy) (σ : St) : Prop := RepM D σ ∧ WFm D ∧ mwC D σ ∧ ∀ k, k < 6 → WyM σ k (Ws k) ∧ wyOK (Ws k)
theorem mwC.fm {D : Mk} {fs L : List Nat} {σ τ : St} (h : mwC D σ) (hF : Fm fs L σ τ) (h1 : 18 ∉ fs := by decide) (h2 : 102 ∉ 94 :: L := by decide) : mwC D τ := by
  unfold mwC
  rw [hF.f 18 h1]
  exact h.imp id (fun q => ⟨q.1, q.2.fm hF h2⟩)
theorem CtM.fm {D : Mk} {Ws : Nat → Wy} {fs L : List Nat} {σ τ : St} (h : CtM D Ws σ) (hF : Fm fs L σ τ) (h0 : ∀ k, k < 7 → 5 + k ∉ fs := by decide) (h1 : 18 ∉ fs := by decide) (h2 : ∀ r, r ∈ 94 :: L → r = 94 ∨ 111 < r := by decide) : CtM D Ws τ := by
  refine ⟨h.1.fm hF h0 (fun k hk q => by have := h2 _ q; omega), h.2.1, h.2.2.1.fm hF h1 (fun q => by have := h2 _ q; omega), fun k hk => ⟨(h.2.2.2 k hk).1.fm hF (fun r q => by have := h2 _ q; omega), (h.2.2.2 k hk).2⟩⟩
theorem CtM.fw {D : Mk} {Ws : Nat → Wy} {fs L : List Nat} {σ τ : St} (h : CtM D Ws σ) (hF : Fm fs L σ τ) (hm : mwC D τ) (h0 : ∀ k, k < 7 → 5 + k ∉ fs := by decide) (h2 : ∀ r, r ∈ 94 :: L → r = 94 ∨ r = 102 ∨ 111 < r := by decide) : CtM D Ws τ := by
  refine ⟨h.1.fm hF h0 (fun k hk q => by have := h2 _ q; omega), h.2.1, hm, fun k hk => ⟨(h.2.2.2 k hk).1.fm hF (fun r q => by have := h2 _ q; omega), (h.2.2.2 k hk).2⟩⟩
