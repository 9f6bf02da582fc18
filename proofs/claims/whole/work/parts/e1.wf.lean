-- a market stays well formed
theorem WFm_sorts {D : Mk} (h : WFm D) {s : Nat} {n : Int} (hs : s < 2) (hn : 1 ≤ n ∧ n ≤ 6) : WFm (dSorts D s n) := by
  obtain ⟨a0, a1, a2, a3, b0, b1, b2, b3, b4, b5, b6, c, e⟩ := h
  refine ⟨fun t ht => ?_, fun k hk => ?_, fun k hk => ?_, fun k _ => ⟨Int.le_refl _, by show (-1 : Int) ≤ 999; decide⟩, b0, b1, b2, b3, b4, b5, b6, fun t i ht hi hle => ?_, fun t ht => ?_⟩
  · show 1 ≤ (if t = s then n else D 0 t) ∧ (if t = s then n else D 0 t) ≤ 6
    split
    · exact hn
    · exact a0 t ht
  · show 0 ≤ (if 6 * s ≤ k ∧ k < 6 * s + 6 then 0 else D 1 k) ∧ (if 6 * s ≤ k ∧ k < 6 * s + 6 then 0 else D 1 k) ≤ 999
    split
    · exact ⟨Int.le_refl _, by decide⟩
    · exact a1 k hk
  · show 0 ≤ (if 6 * s ≤ k ∧ k < 6 * s + 6 then 0 else D 2 k) ∧ (if 6 * s ≤ k ∧ k < 6 * s + 6 then 0 else D 2 k) ≤ 999
    split
    · exact ⟨Int.le_refl _, by decide⟩
    · exact a2 k hk
  · show (if 6 * s ≤ 6 * t + i ∧ 6 * t + i < 6 * s + 6 then 0 else D 2 (6 * t + i)) = 0
    have hle2 : (if t = s then n else D 0 t) ≤ (i : Int) := hle
    split
    · rfl
    · rename_i q
      have hts : t ≠ s := fun e2 => q (by omega)
      rw [if_neg hts] at hle2
      exact c t i ht hi hle2
  · have g : ∀ i, i < 6 → dSorts D s n 2 (6 * t + i) = if t = s then 0 else D 2 (6 * t + i) := fun i hi => by
      show (if 6 * s ≤ 6 * t + i ∧ 6 * t + i < 6 * s + 6 then 0 else D 2 (6 * t + i)) = _
      by_cases q : t = s
      · rw [if_pos q, if_pos (by omega)]
      · rw [if_neg q, if_neg (by omega)]
    have g0 := g 0 (by omega)
    rw [Nat.add_zero] at g0
    rw [g0, g 1 (by omega), g 2 (by omega), g 3 (by omega), g 4 (by omega), g 5 (by omega)]
    have := e t ht
    split <;> omega
theorem WFm_look {D : Mk} (h : WFm D) {s p : Nat} {look often : Int} (hs : s < 2) (hp : (p : Int) < D 0 s) (h1 : 0 ≤ look ∧ look ≤ 999) (h2 : 0 ≤ often ∧ often ≤ 999) (h3 : oSum D s p often 6 ≤ 1000) : WFm (dLook D (6 * s + p) look often) := by
  obtain ⟨a0, a1, a2, a3, b0, b1, b2, b3, b4, b5, b6, c, e⟩ := h
  have hp6 : p < 6 := by have := (a0 s hs).2; omega
  have g : ∀ k, dLook D (6 * s + p) look often 2 k = if k = 6 * s + p then often else D 2 k := fun k => rfl
  refine ⟨a0, fun k hk => ?_, fun k hk => ?_, a3, b0, b1, b2, b3, b4, b5, b6, fun t i ht hi hle => ?_, fun t ht => ?_⟩
  · show 0 ≤ (if k = 6 * s + p then look else D 1 k) ∧ (if k = 6 * s + p then look else D 1 k) ≤ 999
    split
    · exact h1
    · exact a1 k hk
  · rw [g]
    split
    · exact h2
    · exact a2 k hk
  · rw [g]
    have hle2 : D 0 t ≤ (i : Int) := hle
    by_cases q : 6 * t + i = 6 * s + p
    · exfalso
      have e1 : t = s := by omega
      subst e1
      have e2 : i = p := by omega
      omega
    · rw [if_neg q]
      exact c t i ht hi hle2
  · rw [g, g, g, g, g, g]
    have he := e t ht
    by_cases q : t = s
    · subst q
      simp only [oSum] at h3
      rcases (show p = 0 ∨ p = 1 ∨ p = 2 ∨ p = 3 ∨ p = 4 ∨ p = 5 by omega) with rfl | rfl | rfl | rfl | rfl | rfl <;> simp at h3 ⊢ <;> omega
    · rw [if_neg (by omega), if_neg (by omega), if_neg (by omega), if_neg (by omega), if_neg (by omega), if_neg (by omega)]
      exact he
theorem dPut_ne {D : Mk} {c0 p c k : Nat} {v : Int} (h : c ≠ c0) : dPut D c0 p v c k = D c k := if_neg (fun q => h q.1)
theorem WFm_put3 {D : Mk} (h : WFm D) {p : Nat} {v : Int} (hv : -1 ≤ v ∧ v ≤ 999) : WFm (dPut D 3 p v) := by
  obtain ⟨a0, a1, a2, a3, b0, b1, b2, b3, b4, b5, b6, c, e⟩ := h
  unfold WFm
  simp only [dPut_ne (D := D) (c0 := 3) (p := p) (v := v) (c := 0) (by decide), dPut_ne (D := D) (c0 := 3) (p := p) (v := v) (c := 1) (by decide), dPut_ne (D := D) (c0 := 3) (p := p) (v := v) (c := 2) (by decide), dPut_ne (D := D) (c0 := 3) (p := p) (v := v) (c := 4) (by decide)]
  refine ⟨a0, a1, a2, fun k hk => ?_, b0, b1, b2, b3, b4, b5, b6, c, e⟩
  unfold dPut
  split
  · exact hv
  · exact a3 k hk
theorem WFm_put4 {D : Mk} (h : WFm D) {p : Nat} {v : Int} (hp : p < 7) (hv : lowS p ≤ v ∧ v ≤ higS p) : WFm (dPut D 4 p v) := by
  obtain ⟨a0, a1, a2, a3, b0, b1, b2, b3, b4, b5, b6, c, e⟩ := h
  unfold WFm
  simp only [dPut_ne (D := D) (c0 := 4) (p := p) (v := v) (c := 0) (by decide), dPut_ne (D := D) (c0 := 4) (p := p) (v := v) (c := 1) (by decide), dPut_ne (D := D) (c0 := 4) (p := p) (v := v) (c := 2) (by decide), dPut_ne (D := D) (c0 := 4) (p := p) (v := v) (c := 3) (by decide)]
  have g : ∀ k (lo hi : Int), lo ≤ D 4 k ∧ D 4 k ≤ hi → (k = p → lowS p = lo ∧ higS p = hi) → lo ≤ dPut D 4 p v 4 k ∧ dPut D 4 p v 4 k ≤ hi := fun k lo hi q q2 => by
    unfold dPut
    by_cases r : k = p
    · rw [if_pos ⟨rfl, r⟩, ← (q2 r).1, ← (q2 r).2]
      exact hv
    · rw [if_neg (fun q3 => r q3.2)]
      exact q
  exact ⟨a0, a1, a2, a3, g 0 _ _ b0 (fun q => by subst q; exact ⟨rfl, rfl⟩), g 1 _ _ b1 (fun q => by subst q; exact ⟨rfl, rfl⟩), g 2 _ _ b2 (fun q => by subst q; exact ⟨rfl, rfl⟩), g 3 _ _ b3 (fun q => by subst q; exact ⟨rfl, rfl⟩), g 4 _ _ b4 (fun q => by subst q; exact ⟨rfl, rfl⟩), g 5 _ _ b5 (fun q => by subst q; exact ⟨rfl, rfl⟩), g 6 _ _ b6 (fun q => by subst q; exact ⟨rfl, rfl⟩), c, e⟩
theorem WFP.dm {D D' : Mk} {n : Nat} {P : Pe} (h : WFP D n P) (e : ∀ s, D' 0 s = D 0 s) : WFP D' n P := by
  refine ⟨h.1, fun p hp => ?_, h.2.2⟩
  obtain ⟨a, b, c⟩ := h.2.1 p hp
  exact ⟨a, ⟨b.1, by rw [e]; exact b.2⟩, c⟩
theorem WFP.d0 {D D' : Mk} {n : Nat} {P : Pe} (h : WFP D n P) (hn : n = 0) : WFP D' n P := ⟨h.1, fun p hp => by omega, h.2.2⟩
theorem weeks_t0 (D : Mk) (Ws : Nat → Wy) (n : Nat) : ∀ (k : Nat) (w : Tw), 0 ≤ w.2.1 0 → w.2.1 0 + k ≤ 99 → (weeksS D Ws n k w).2.1 0 = w.2.1 0 + k := by
  intro k
  induction k with
  | zero => intro w _ _; rw [weeksS_0]; simp
  | succ k ih =>
    intro w h1 h2
    have e : (weekS D Ws n w).2.1 0 = w.2.1 0 + 1 := by rw [week_t0, wr_id (by omega) (by omega)]
    rw [weeksS_s, ih _ (by omega) (by omega), e]
    omega
/-- the room of a refresh -/
theorem rf_room {n N r : Nat} {K : Nat → Int} {z : Int} (h8 : 8 ≤ N) (h9 : N ≤ 10080) (hr : r ≤ 5040) : rfC n N K z r + N ≤ rfN N z r + 2 ∧ rfS n N K z r + 2 * N ≤ 2 * rfN N z r + 60 ∧ rfN N z r ≤ 10080 := by
  unfold rfC rfS rfN
  by_cases hz : z = 0
  · rw [if_pos hz, if_pos hz, if_pos hz]
    omega
  · rw [if_neg hz, if_neg hz, if_neg hz]
    have := gro_sum r N 0
    have := gro_cell r N 0 h8
    have := gro_bd r N 0 h9 (by omega)
    omega
