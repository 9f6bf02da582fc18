-- frames of the model's reading: the codes of the WAYS that are told (below 2400) stand
def lowE (σ τ : St) : Prop := ∀ j, j < 2400 → τ.2.1 110 j = σ.2.1 110 j ∧ τ.2.1 111 j = σ.2.1 111 j
def Fe (fs L : List Nat) (σ τ : St) : Prop := Fm fs L σ τ ∧ lowE σ τ
theorem Fe.rf {fs L : List Nat} {σ : St} : Fe fs L σ σ := ⟨Fm.rf, fun _ _ => ⟨rfl, rfl⟩⟩
theorem Fe.tr {fs L : List Nat} {σ τ ρ : St} (h : Fe fs L σ τ) (h2 : Fe fs L τ ρ) : Fe fs L σ ρ := ⟨h.1.tr h2.1, fun j hj => ⟨(h2.2 j hj).1.trans (h.2 j hj).1, (h2.2 j hj).2.trans (h.2 j hj).2⟩⟩
theorem Fe.mo {fs L fs' L' : List Nat} {σ τ : St} (h : Fe fs L σ τ) (h1 : ∀ r, r ∈ fs → r ∈ fs') (h2 : ∀ r, r ∈ L → r ∈ L') : Fe fs' L' σ τ := ⟨h.1.mo h1 h2, h.2⟩
theorem Fe.uf {fs L : List Nat} {σ τ : St} (h : Fe fs L σ τ) {j : Nat} (hj : j ∈ fs) (x : Int) : Fe fs L σ (upI τ 94 j x) := ⟨h.1.uf hj x, fun i hi => by rw [up_r _ _ _ _ (by decide), up_r _ _ _ _ (by decide)]; exact h.2 i hi⟩
theorem Fe.ua {fs L : List Nat} {σ τ : St} (h : Fe fs L σ τ) {r : Nat} (hr : r ∈ L) (hr2 : r ≠ 94) (j : Nat) (x : Int) (h3 : r ≠ 110 ∧ r ≠ 111 := by decide) : Fe fs L σ (upI τ r j x) := ⟨h.1.ua hr hr2 j x, fun i hi => by rw [up_r _ _ _ _ (Ne.symm h3.1), up_r _ _ _ _ (Ne.symm h3.2)]; exact h.2 i hi⟩
theorem Fe.ue {fs L : List Nat} {σ τ : St} (h : Fe fs L σ τ) {r : Nat} (hr : r ∈ L) (hr2 : r ≠ 94) (j : Nat) (x : Int) (h3 : 2400 ≤ j) : Fe fs L σ (upI τ r j x) := ⟨h.1.ua hr hr2 j x, fun i hi => by rw [up_if, if_neg (by omega), up_if, if_neg (by omega)]; exact h.2 i hi⟩
theorem Fe.sta {fs L : List Nat} {σ τ : St} (h : Fe fs L σ τ) (hS : Sta σ) : Sta τ := h.1.sta hS
theorem Fe.f {fs L : List Nat} {σ τ : St} (h : Fe fs L σ τ) (j : Nat) (hj : j ∉ fs := by decide) : τ.2.1 94 j = σ.2.1 94 j := h.1.2 j hj
theorem Fe.a {fs L : List Nat} {σ τ : St} (h : Fe fs L σ τ) (r j : Nat) (hr : r ∉ 94 :: L := by decide) : τ.2.1 r j = σ.2.1 r j := h.1.1.2.2.2 r hr j
theorem Fm.e {fs L : List Nat} {σ τ : St} (h : Fm fs L σ τ) (h1 : 110 ∉ 94 :: L := by decide) (h2 : 111 ∉ 94 :: L := by decide) : Fe fs L σ τ := ⟨h, fun j _ => ⟨h.a 110 j h1, h.a 111 j h2⟩⟩
