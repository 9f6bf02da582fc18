-- PEOPLE as the class holds them: pc tells the cell of each
theorem upR_if (σ : St) (r j x r' j' : Nat) : (upR σ r j x).2.2.1 r' j' = if r' = r ∧ j' = j then x else σ.2.2.1 r' j' := rfl
theorem upR_o (σ : St) {r r' : Nat} (j x j' : Nat) (h : r' ≠ r) : (upR σ r j x).2.2.1 r' j' = σ.2.2.1 r' j' := by rw [upR_if, if_neg (fun q => h q.1)]
theorem Sta.uR {σ : St} (h : Sta σ) {r : Nat} (hr : 132 ≤ r) (j x : Nat) : Sta (upR σ r j x) := by
  refine ⟨h.1, h.2.1, fun r' j' a h16 hk => ?_⟩
  have h1 : r' < 132 := by
    rcases Nat.lt_or_ge r' 132 with q | q
    · exact q
    · exfalso
      unfold rfo at hk
      have e : RFL.getD (r' - 16) [] = [] := by
        rw [List.getD_eq_getElem?_getD, List.getElem?_eq_none (by have : RFL.length = 116 := rfl; omega)]
        rfl
      rw [e] at hk
      cases hk
  rw [upR_o _ _ _ _ (by omega)]
  exact h.2.2 r' j' a h16 hk
theorem Cel.uR {σ : St} {r' : Nat} {k : Nat × Nat} (h : Cel σ r' k) (r j x : Nat) : Cel (upR σ r j x) r' k := h
theorem Sta.np {σ : St} (h : Sta σ) {r : Nat} (h1 : 16 ≤ r) (h2 : r < 132) : σ.1 r ≠ (4, 11) := by
  have h3 : ∀ r, r < 132 → 16 ≤ r → (shc r).isSome = true ∧ shc r ≠ some (4, 11) := by decide +kernel
  obtain ⟨a, b⟩ := h3 r h2 h1
  cases e : shc r with
  | none => rw [e] at a; cases a
  | some k =>
    rw [h.2.1 r k e]
    intro q
    rw [q] at e
    exact b e
def orf (pc : Nat → Nat) (v : Int) : Nat := if v = -1 then 0 else pc v.toNat
def PnC (pc : Nat → Nat) (P : Pe) (σ : St) (i : Nat) : Prop := Cel σ (pc i) (4, 11) ∧ 132 ≤ pc i ∧ σ.2.1 (pc i) 0 = i ∧ (∀ f, f < 10 → f ≠ 2 → f ≠ 3 → σ.2.1 (pc i) (f + 1) = P f i) ∧ σ.2.2.1 (pc i) 3 = wcl (P 2 i).toNat ∧ σ.2.2.1 (pc i) 4 = orf pc (P 3 i)
def LsC (n : Nat) (pc : Nat → Nat) (σ : St) : Prop := σ.2.1 46 2 = n ∧ n ≤ 40 ∧ ((n = 0 ∧ σ.2.2.1 46 1 = 3) ∨ ∃ ea N, σ.2.2.1 46 1 = ea ∧ Cel σ ea (23, N) ∧ 132 ≤ ea ∧ n ≤ N ∧ (N = 10 ∨ N = 15 ∨ N = 22 ∨ N = 33 ∨ N = 49) ∧ ∀ i, i < n → σ.2.2.1 ea i = pc i)
def PeC (n : Nat) (pc : Nat → Nat) (P : Pe) (σ : St) : Prop := LsC n pc σ ∧ (∀ i j, i < n → j < n → pc i = pc j → i = j) ∧ ∀ i, i < n → PnC pc P σ i
theorem PeC.ls {n : Nat} {pc : Nat → Nat} {P : Pe} {σ : St} (h : PeC n pc P σ) {p : Nat} (hp : p < n) : ∃ ea N, σ.2.2.1 46 1 = ea ∧ Cel σ ea (23, N) ∧ n ≤ N ∧ ∀ i, i < n → σ.2.2.1 ea i = pc i := by
  rcases h.1.2.2 with q | ⟨ea, N, q1, q2, q3, q4, q5, q6⟩
  · omega
  · exact ⟨ea, N, q1, q2, q4, q6⟩
theorem PeC.cel {n : Nat} {pc : Nat → Nat} {P : Pe} {σ : St} (h : PeC n pc P σ) {p : Nat} (hp : p < n) : Cel σ (pc p) (4, 11) := (h.2.2 p hp).1
theorem PeC.ge {n : Nat} {pc : Nat → Nat} {P : Pe} {σ : St} (h : PeC n pc P σ) {p : Nat} (hp : p < n) : 132 ≤ pc p := (h.2.2 p hp).2.1
theorem PeC.v {n : Nat} {pc : Nat → Nat} {P : Pe} {σ : St} (h : PeC n pc P σ) {p : Nat} (hp : p < n) (f : Nat) (hf : f < 10 ∧ f ≠ 2 ∧ f ≠ 3 := by decide) : σ.2.1 (pc p) (f + 1) = P f p := (h.2.2 p hp).2.2.2.1 f hf.1 hf.2.1 hf.2.2
theorem PeC.own {n : Nat} {pc : Nat → Nat} {P : Pe} {σ : St} (h : PeC n pc P σ) {p : Nat} (hp : p < n) : σ.2.2.1 (pc p) 4 = orf pc (P 3 p) := (h.2.2 p hp).2.2.2.2.2
theorem PeC.way {n : Nat} {pc : Nat → Nat} {P : Pe} {σ : St} (h : PeC n pc P σ) {p : Nat} (hp : p < n) : σ.2.2.1 (pc p) 3 = wcl (P 2 p).toNat := (h.2.2 p hp).2.2.2.2.1
theorem PeC.uI {n : Nat} {pc : Nat → Nat} {P : Pe} {σ : St} (h : PeC n pc P σ) {p : Nat} (hp : p < n) (f : Nat) (v : Int) (hf : 4 ≤ f ∧ f < 10 := by decide) : PeC n pc (setP P f p v) (upI σ (pc p) (f + 1) v) := by
  have hg := h.ge hp
  refine ⟨⟨?_, h.1.2⟩, h.2.1, fun i hi => ?_⟩
  · rw [up_r _ _ _ _ (by omega)]; exact h.1.1
  · obtain ⟨a1, a2, a3, a4, a5, a6⟩ := h.2.2 i hi
    refine ⟨a1, a2, ?_, fun f' h1 h2 h3 => ?_, ?_, ?_⟩
    · rw [up_if, if_neg (by omega)]; exact a3
    · rw [up_if, setP_if]
      by_cases hc : f' = f ∧ i = p
      · rw [if_pos ⟨by rw [hc.2], by omega⟩, if_pos hc]
      · rw [if_neg (fun q => hc ⟨by omega, h.2.1 i p hi hp q.1⟩), if_neg hc]
        exact a4 f' h1 h2 h3
    · rw [setP_f _ _ _ _ (by omega)]; exact a5
    · rw [setP_f _ _ _ _ (by omega)]; exact a6
theorem PeC.uR {n : Nat} {pc : Nat → Nat} {P : Pe} {σ : St} (h : PeC n pc P σ) {p : Nat} (hp : p < n) (v : Int) : PeC n pc (setP P 3 p v) (upR σ (pc p) 4 (orf pc v)) := by
  have hg := h.ge hp
  have hk := (h.cel hp).2.2
  refine ⟨⟨h.1.1, h.1.2.1, ?_⟩, h.2.1, fun i hi => ?_⟩
  · rcases h.1.2.2 with q | ⟨ea, N, q1, q2, q3, q4, q5, q6⟩
    · omega
    · have hne : ea ≠ pc p := fun e => by
        have := q2.2.2
        rw [e, hk] at this
        cases this
      refine Or.inr ⟨ea, N, ?_, q2, q3, q4, q5, fun i hi => ?_⟩
      · rw [upR_o _ _ _ _ (by omega)]; exact q1
      · rw [upR_o _ _ _ _ hne]; exact q6 i hi
  · obtain ⟨a1, a2, a3, a4, a5, a6⟩ := h.2.2 i hi
    refine ⟨a1, a2, a3, fun f' h1 h2 h3 => ?_, ?_, ?_⟩
    · rw [setP_f _ _ _ _ h3]; exact a4 f' h1 h2 h3
    · rw [upR_if, if_neg (by omega), setP_f _ _ _ _ (by omega)]; exact a5
    · rw [upR_if, setP_if]
      by_cases hc : i = p
      · rw [if_pos ⟨by rw [hc], rfl⟩, if_pos ⟨rfl, hc⟩]
      · rw [if_neg (fun q => hc (h.2.1 i p hi hp q.1)), if_neg (fun q => hc q.2)]
        exact a6
theorem PeC.fr {n : Nat} {pc : Nat → Nat} {P : Pe} {L : List Nat} {σ ρ : St} (h : PeC n pc P σ) (hF : Fr L σ ρ) (hL : ∀ r ∈ L, r < 132 ∧ r ≠ 46 := by decide) : PeC n pc P ρ := by
  have hn : ∀ r, 132 ≤ r → r ∉ L := fun r hr q => by have := hL r q; omega
  have h46 : 46 ∉ L := fun q => (hL 46 q).2 rfl
  refine ⟨⟨(hF.iv 46 2 h46).trans h.1.1, h.1.2.1, ?_⟩, h.2.1, fun i hi => ?_⟩
  · rcases h.1.2.2 with q | ⟨ea, N, q1, q2, q3, q4, q5, q6⟩
    · exact Or.inl ⟨q.1, (hF.rv 46 1).trans q.2⟩
    · exact Or.inr ⟨ea, N, (hF.rv 46 1).trans q1, hF.cel q2, q3, q4, q5, fun i hi => (hF.rv ea i).trans (q6 i hi)⟩
  · obtain ⟨a1, a2, a3, a4, a5, a6⟩ := h.2.2 i hi
    exact ⟨hF.cel a1, a2, (hF.iv _ _ (hn _ a2)).trans a3, fun f h1 h2 h3 => (hF.iv _ _ (hn _ a2)).trans (a4 f h1 h2 h3), (hF.rv _ _).trans a5, (hF.rv _ _).trans a6⟩
/-- what the PEOPLE's methods may write: the Folk's own rows, and cells of people -/
def Fz (σ τ : St) : Prop := τ.1 = σ.1 ∧ τ.2.2.2 = σ.2.2.2 ∧ (∀ r j, σ.1 r ≠ (4, 11) → τ.2.2.1 r j = σ.2.2.1 r j) ∧ ∀ r j, σ.1 r ≠ (4, 11) → r ∉ [41, 43, 44, 47] → τ.2.1 r j = σ.2.1 r j
theorem Fz.rf {σ : St} : Fz σ σ := ⟨rfl, rfl, fun _ _ _ => rfl, fun _ _ _ _ => rfl⟩
theorem Fz.tr {σ τ ρ : St} (h : Fz σ τ) (h2 : Fz τ ρ) : Fz σ ρ := ⟨h2.1.trans h.1, h2.2.1.trans h.2.1, fun r j q => (h2.2.2.1 r j (by rw [h.1]; exact q)).trans (h.2.2.1 r j q), fun r j q q2 => (h2.2.2.2 r j (by rw [h.1]; exact q) q2).trans (h.2.2.2 r j q q2)⟩
theorem Fr.z {L : List Nat} {σ τ : St} (h : Fr L σ τ) (hL : ∀ r, r ∈ L → r ∈ [41, 43, 44, 47] := by decide) : Fz σ τ := ⟨h.1, h.2.2.1, fun r j _ => h.rv r j, fun r j _ q => h.iv r j (fun q2 => q (hL r q2))⟩
theorem Fz.uI {σ τ : St} (h : Fz σ τ) {r : Nat} (hk : Cel τ r (4, 11)) (j : Nat) (x : Int) : Fz σ (upI τ r j x) := by
  refine ⟨h.1, h.2.1, h.2.2.1, fun r' j' q q2 => ?_⟩
  rw [up_if, if_neg (fun e => q (by rw [← h.1, e.1]; exact hk.2.2))]
  exact h.2.2.2 r' j' q q2
theorem Fz.uR {σ τ : St} (h : Fz σ τ) {r : Nat} (hk : Cel τ r (4, 11)) (j x : Nat) : Fz σ (upR τ r j x) := by
  refine ⟨h.1, h.2.1, fun r' j' q => ?_, h.2.2.2⟩
  rw [upR_if, if_neg (fun e => q (by rw [← h.1, e.1]; exact hk.2.2))]
  exact h.2.2.1 r' j' q
theorem Fz.ul {σ τ : St} (h : Fz σ τ) {r : Nat} (hr : r ∈ [41, 43, 44, 47]) (j : Nat) (x : Int) : Fz σ (upI τ r j x) := by
  refine ⟨h.1, h.2.1, h.2.2.1, fun r' j' q q2 => ?_⟩
  rw [up_if, if_neg (fun e => q2 (by rw [e.1]; exact hr))]
  exact h.2.2.2 r' j' q q2
theorem Fz.sta {σ τ : St} (h : Fz σ τ) (hS : Sta σ) : Sta τ := by
  refine ⟨by rw [h.2.1]; exact hS.1, by rw [h.1]; exact hS.2.1, fun r j a h16 hk => ?_⟩
  have h1 : r < 132 := by
    rcases Nat.lt_or_ge r 132 with q | q
    · exact q
    · exfalso
      unfold rfo at hk
      have e : RFL.getD (r - 16) [] = [] := by
        rw [List.getD_eq_getElem?_getD, List.getElem?_eq_none (by have : RFL.length = 116 := rfl; omega)]
        rfl
      rw [e] at hk
      cases hk
  rw [h.2.2.1 r j (hS.np h16 h1)]
  exact hS.2.2 r j a h16 hk
theorem Fz.cel {σ τ : St} (h : Fz σ τ) {r : Nat} {k : Nat × Nat} (hk : Cel σ r k) : Cel τ r k := ⟨hk.1, by rw [h.2.1]; exact hk.2.1, by rw [h.1]; exact hk.2.2⟩
theorem Fz.iv {σ τ : St} (h : Fz σ τ) (hS : Sta σ) (r j : Nat) (h1 : 16 ≤ r ∧ r < 132 := by decide) (h2 : r ∉ [41, 43, 44, 47] := by decide) : τ.2.1 r j = σ.2.1 r j := h.2.2.2 r j (hS.np h1.1 h1.2) h2
theorem RepC.fz {D : Mk} {σ τ : St} (hR : RepC D σ) (h : Fz σ τ) (hS : Sta σ) : RepC D τ := by
  obtain ⟨a1, a2, a3, a4, a5⟩ := hR
  exact ⟨fun k hk => (h.iv hS 18 k).trans (a1 k hk), fun k hk => (h.iv hS 19 k).trans (a2 k hk), fun k hk => (h.iv hS 20 k).trans (a3 k hk), fun k hk => (h.iv hS 21 k).trans (a4 k hk), fun k hk => (h.iv hS 22 k).trans (a5 k hk)⟩
theorem tabC.fz {D : Mk} {σ τ : St} {t : Nat} (hR : tabC D σ t) (h : Fz σ τ) (hS : Sta σ) : tabC D τ t := fun s i a b c t' e f => (h.iv hS 27 _).trans (hR s i a b c t' e f)
theorem WyC.fz {σ τ : St} {k : Nat} {W : Wy} (hW : WyC σ k W) (hk : k < 6) (h : Fz σ τ) (hS : Sta σ) : WyC τ k W := by
  have hb := wcl_b hk
  have e : ∀ r j, wcl k ≤ r → r ≤ wcl k + 5 → τ.2.1 r j = σ.2.1 r j := fun r j h1 h2 => h.iv hS r j (by omega) (by simp; omega)
  obtain ⟨a1, a2, a3, a4, a5, a6⟩ := hW
  refine ⟨(e _ _ (by omega) (by omega)).trans a1, a2, (e _ _ (by omega) (by omega)).trans a3, a4, fun l hl => ?_, fun i hi => (e _ _ (by omega) (by omega)).trans (a6 i hi)⟩
  rw [e _ _ (by omega) (by omega), e _ _ (by omega) (by omega), e _ _ (by omega) (by omega), e _ _ (by omega) (by omega)]
  exact a5 l hl
/-- what the PEOPLE's methods read and leave as it is -/
def CtC (D : Mk) (Ws : Nat → Wy) (σ : St) : Prop := RepC D σ ∧ WFm D ∧ tabC D σ 0 ∧ ∀ k, k < 6 → WyC σ k (Ws k) ∧ wyOK (Ws k)
theorem CtC.fz {D : Mk} {Ws : Nat → Wy} {σ τ : St} (h : CtC D Ws σ) (hF : Fz σ τ) (hS : Sta σ) : CtC D Ws τ := ⟨h.1.fz hF hS, h.2.1, h.2.2.1.fz hF hS, fun k hk => ⟨(h.2.2.2 k hk).1.fz hk hF hS, (h.2.2.2 k hk).2⟩⟩
/-- PEOPLE, tallies and STATE -/
def TwC (n : Nat) (pc : Nat → Nat) (w : Tw) (σ : St) : Prop := PeC n pc w.1 σ ∧ (∀ i, i < 5 → σ.2.1 47 i = w.2.1 i) ∧ σ.2.1 41 6 = w.2.2
theorem TwC.fr {n : Nat} {pc : Nat → Nat} {w : Tw} {L : List Nat} {σ ρ : St} (h : TwC n pc w σ) (hF : Fr L σ ρ) (hL : ∀ r ∈ L, (r < 132 ∧ r ≠ 46) ∧ r ≠ 47 ∧ r ≠ 41 := by decide) : TwC n pc w ρ := ⟨h.1.fr hF (fun r hr => (hL r hr).1), fun i hi => (hF.iv 47 i (fun q => (hL _ q).2.1 rfl)).trans (h.2.1 i hi), (hF.iv 41 6 (fun q => (hL _ q).2.2 rfl)).trans h.2.2⟩
theorem PeC.ul {n : Nat} {pc : Nat → Nat} {P : Pe} {σ : St} (h : PeC n pc P σ) (r j : Nat) (x : Int) (hr : r < 132 ∧ r ≠ 46 := by decide) : PeC n pc P (upI σ r j x) := h.fr (L := [r]) (Fr.rf.up (by simp) j x) (fun r' q => by simp at q; omega)
theorem TwC.tal {n : Nat} {pc : Nat → Nat} {w : Tw} {σ : St} (h : TwC n pc w σ) (i : Nat) (x : Int) : TwC n pc (w.1, setT w.2.1 i x, w.2.2) (upI σ 47 i x) := by
  refine ⟨h.1.ul 47 i x, fun j hj => ?_, ?_⟩
  · show _ = setT w.2.1 i x j
    rw [up_if, setT_if]
    by_cases hc : j = i
    · rw [if_pos ⟨rfl, hc⟩, if_pos hc]
    · rw [if_neg (fun q => hc q.2), if_neg hc]
      exact h.2.1 j hj
  · rw [up_r _ _ _ _ (by decide)]; exact h.2.2
theorem TwC.sta {n : Nat} {pc : Nat → Nat} {w : Tw} {σ : St} (h : TwC n pc w σ) (x : Int) : TwC n pc (w.1, w.2.1, x) (upI σ 41 6 x) := by
  refine ⟨h.1.ul 41 6 x, fun j hj => ?_, ?_⟩
  · rw [up_r _ _ _ _ (by decide)]; exact h.2.1 j hj
  · rw [up_at]
theorem TwC.uI {n : Nat} {pc : Nat → Nat} {w : Tw} {σ : St} (h : TwC n pc w σ) {p : Nat} (hp : p < n) (f : Nat) (v : Int) (hf : 4 ≤ f ∧ f < 10 := by decide) : TwC n pc (setP w.1 f p v, w.2.1, w.2.2) (upI σ (pc p) (f + 1) v) := by
  have hg := h.1.ge hp
  refine ⟨h.1.uI hp f v hf, fun j hj => ?_, ?_⟩
  · rw [up_r _ _ _ _ (by omega)]; exact h.2.1 j hj
  · rw [up_r _ _ _ _ (by omega)]; exact h.2.2
theorem TwC.uR {n : Nat} {pc : Nat → Nat} {w : Tw} {σ : St} (h : TwC n pc w σ) {p : Nat} (hp : p < n) (v : Int) : TwC n pc (setP w.1 3 p v, w.2.1, w.2.2) (upR σ (pc p) 4 (orf pc v)) := ⟨h.1.uR hp v, h.2.1, h.2.2⟩
