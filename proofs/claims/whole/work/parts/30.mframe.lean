-- what a method of the model may have written: these fields of the model's own cell, these arrays
def Fm (fs L : List Nat) (σ τ : St) : Prop := Fr (94 :: L) σ τ ∧ ∀ j, j ∉ fs → τ.2.1 94 j = σ.2.1 94 j
theorem Fm.rf {fs L : List Nat} {σ : St} : Fm fs L σ σ := ⟨Fr.rf, fun _ _ => rfl⟩
theorem Fm.tr {fs L : List Nat} {σ τ ρ : St} (h : Fm fs L σ τ) (h2 : Fm fs L τ ρ) : Fm fs L σ ρ := ⟨h.1.tr h2.1, fun j hj => (h2.2 j hj).trans (h.2 j hj)⟩
theorem Fm.mo {fs L fs' L' : List Nat} {σ τ : St} (h : Fm fs L σ τ) (h1 : ∀ r, r ∈ fs → r ∈ fs') (h2 : ∀ r, r ∈ L → r ∈ L') : Fm fs' L' σ τ :=
  ⟨h.1.mo (fun r hr => by rcases List.mem_cons.mp hr with e | e; exact List.mem_cons.mpr (Or.inl e); exact List.mem_cons.mpr (Or.inr (h2 r e))), fun j hj => h.2 j (fun q => hj (h1 j q))⟩
theorem Fm.uf {fs L : List Nat} {σ τ : St} (h : Fm fs L σ τ) {j : Nat} (hj : j ∈ fs) (x : Int) : Fm fs L σ (upI τ 94 j x) := by
  refine ⟨h.1.up (by simp) _ _, fun i hi => ?_⟩
  rw [← h.2 i hi, up_if, if_neg]
  intro q
  exact hi (by rw [q.2]; exact hj)
theorem Fm.ua {fs L : List Nat} {σ τ : St} (h : Fm fs L σ τ) {r : Nat} (hr : r ∈ L) (hr2 : r ≠ 94) (j : Nat) (x : Int) : Fm fs L σ (upI τ r j x) := by
  refine ⟨h.1.up (by simp [hr]) _ _, fun i hi => ?_⟩
  rw [up_r _ _ _ _ (Ne.symm hr2)]
  exact h.2 i hi
theorem Fm.sta {fs L : List Nat} {σ τ : St} (h : Fm fs L σ τ) (hS : Sta σ) : Sta τ := h.1.sta hS
theorem Fm.f {fs L : List Nat} {σ τ : St} (h : Fm fs L σ τ) (j : Nat) (hj : j ∉ fs := by decide) : τ.2.1 94 j = σ.2.1 94 j := h.2 j hj
theorem Fm.a {fs L : List Nat} {σ τ : St} (h : Fm fs L σ τ) (r j : Nat) (hr : r ∉ 94 :: L := by decide) : τ.2.1 r j = σ.2.1 r j := h.1.2.2.2 r hr j
theorem RepM.fm {D : Mk} {fs L : List Nat} {σ τ : St} (hR : RepM D σ) (h : Fm fs L σ τ) (h1 : ∀ k, k < 7 → 5 + k ∉ fs := by decide) (h2 : ∀ k, k < 4 → 95 + k ∉ 94 :: L := by decide) : RepM D τ :=
  ⟨fun k hk => (h.a 95 k (h2 0 (by decide))).trans (hR.1 k hk), fun k hk => (h.a 96 k (h2 1 (by decide))).trans (hR.2.1 k hk), fun k hk => (h.a 97 k (h2 2 (by decide))).trans (hR.2.2.1 k hk), fun k hk => (h.a 98 k (h2 3 (by decide))).trans (hR.2.2.2.1 k hk), fun k hk => (h.2 (5 + k) (h1 k hk)).trans (hR.2.2.2.2 k hk)⟩
