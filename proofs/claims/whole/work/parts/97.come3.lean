def comeP (P : Pe) (n : Nat) (side sort way : Int) : Pe := setP (setP (setP (setP P 0 n side) 1 n sort) 2 n way) 3 n (-1)
theorem comeP_o (P : Pe) {n : Nat} (side sort way : Int) (f : Nat) {p : Nat} (h : p ≠ n) : comeP P n side sort way f p = P f p := by
  unfold comeP
  rw [setP_p _ _ _ _ h, setP_p _ _ _ _ h, setP_p _ _ _ _ h, setP_p _ _ _ _ h]
theorem comeP_f (P : Pe) (n : Nat) (side sort way : Int) {f : Nat} (p : Nat) (h : 4 ≤ f) : comeP P n side sort way f p = P f p := by
  unfold comeP
  rw [setP_f _ _ _ _ (by omega), setP_f _ _ _ _ (by omega), setP_f _ _ _ _ (by omega), setP_f _ _ _ _ (by omega)]
theorem comeP_0 (P : Pe) (n : Nat) (side sort way : Int) : comeP P n side sort way 0 n = side ∧ comeP P n side sort way 1 n = sort ∧ comeP P n side sort way 2 n = way ∧ comeP P n side sort way 3 n = -1 := by
  unfold comeP
  refine ⟨?_, ?_, ?_, setP_at _ _ _ _⟩
  · rw [setP_f _ _ _ _ (by decide), setP_f _ _ _ _ (by decide), setP_f _ _ _ _ (by decide), setP_at]
  · rw [setP_f _ _ _ _ (by decide), setP_f _ _ _ _ (by decide), setP_at]
  · rw [setP_f _ _ _ _ (by decide), setP_at]
theorem WFP.come {D : Mk} {n : Nat} {P : Pe} (h : WFP D n P) (hn : n < 40) {side sort way : Int} (hs : (side = 0 ∨ side = 1) ∧ 0 ≤ sort ∧ sort < D 0 side.toNat) (hw : 0 ≤ way ∧ way < 6) : WFP D (n + 1) (comeP P n side sort way) := by
  obtain ⟨e0, e1, e2, e3⟩ := comeP_0 P n side sort way
  refine ⟨hn, fun p hp => ?_, fun f p h4 hp => ?_⟩
  · by_cases hc : p = n
    · subst hc
      exact ⟨by rw [e0]; exact hs.1, by rw [e0, e1]; exact hs.2, by rw [e2]; exact hw, Or.inl e3, Or.inl (by rw [comeP_f _ _ _ _ _ _ (by decide)]; exact h.2.2 7 p (by decide) (Nat.le_refl _))⟩
    · obtain ⟨a1, a2, a3, a4, a5⟩ := h.2.1 p (by omega)
      have e := fun f => comeP_o P side sort way f hc
      refine ⟨by rw [e]; exact a1, by rw [e, e]; exact a2, by rw [e]; exact a3, ?_, by rw [e]; exact a5⟩
      rw [e, e]
      rcases a4 with q | q
      · exact Or.inl q
      · refine Or.inr ⟨q.1, by omega, ?_⟩
        rw [comeP_o P side sort way 0 (by omega)]
        exact q.2.2
  · rw [comeP_f _ _ _ _ _ _ h4]
    exact h.2.2 f p h4 (by omega)
/-- what a new one may change: the list of people, and rows of references -/
def Fkm (σ τ : St) : Prop := σ.2.2.2 ≤ τ.2.2.2 ∧ (∀ r, r < σ.2.2.2 → τ.1 r = σ.1 r) ∧ (∀ r j, r < σ.2.2.2 → r ≠ 46 → τ.2.1 r j = σ.2.1 r j) ∧ ∀ r j, 16 ≤ r → r < σ.2.2.2 → r ≠ 46 → (r < 132 ∨ (σ.1 r).1 ≠ 23) → τ.2.2.1 r j = σ.2.2.1 r j
theorem rfo_46 (j : Nat) : rfo 46 j = none := by
  unfold rfo
  have e : RFL.getD (46 - 16) [] = [] := rfl
  rw [e]
  rfl
theorem rfo_lt {r j a : Nat} (hk : rfo r j = some a) : r < 132 := by
  rcases Nat.lt_or_ge r 132 with q | q
  · exact q
  · exfalso
    unfold rfo at hk
    have e : RFL.getD (r - 16) [] = [] := by
      rw [List.getD_eq_getElem?_getD, List.getElem?_eq_none (by have : RFL.length = 116 := rfl; omega)]
      rfl
    rw [e] at hk
    cases hk
theorem shc_lt {r : Nat} {k : Nat × Nat} (hk : shc r = some k) : r < 132 := by
  unfold shc at hk
  split at hk
  · have h1 := (List.getElem?_eq_some_iff.mp hk).1
    have h2 : SHL.length = 116 := rfl
    omega
  · cases hk
theorem Fkm.sta {σ τ : St} (h : Fkm σ τ) (hS : Sta σ) : Sta τ := by
  have h1 := hS.1
  have h2 := h.1
  refine ⟨by omega, fun r k hk => ?_, fun r j a h16 hk => ?_⟩
  · have := shc_lt hk
    rw [h.2.1 r (by omega)]
    exact hS.2.1 r k hk
  · have := rfo_lt hk
    by_cases hc : r = 46
    · rw [hc, rfo_46] at hk
      cases hk
    · rw [h.2.2.2 r j h16 (by omega) hc (Or.inl this)]
      exact hS.2.2 r j a h16 hk
theorem Sta.nw {σ : St} (hS : Sta σ) (k : Nat × Nat) : Sta (nwC σ k) := by
  have h1 := hS.1
  refine ⟨Nat.le_succ_of_le h1, fun r k' hk => ?_, fun r j a h16 hk => ?_⟩
  · have := shc_lt hk
    rw [nw_k, if_neg (by omega)]
    exact hS.2.1 r k' hk
  · have := rfo_lt hk
    rw [nw_r, if_neg (by omega)]
    exact hS.2.2 r j a h16 hk
def newP (σ : St) (n : Nat) (side sort : Int) (wc : Nat) : St := upR (upI (upI (upI (nwC σ (4, 11)) σ.2.2.2 0 (n : Int)) σ.2.2.2 1 side) σ.2.2.2 2 sort) σ.2.2.2 3 wc
theorem newP_i (σ : St) (n : Nat) (side sort : Int) (wc : Nat) {r : Nat} (j : Nat) (h : r < σ.2.2.2) : (newP σ n side sort wc).2.1 r j = σ.2.1 r j := by
  show (upI (upI (upI (nwC σ (4, 11)) σ.2.2.2 0 (n : Int)) σ.2.2.2 1 side) σ.2.2.2 2 sort).2.1 r j = _
  rw [up_r _ _ _ _ (by omega), up_r _ _ _ _ (by omega), up_r _ _ _ _ (by omega), nw_i, if_neg (by omega)]
theorem newP_r (σ : St) (n : Nat) (side sort : Int) (wc : Nat) {r : Nat} (j : Nat) (h : r < σ.2.2.2) : (newP σ n side sort wc).2.2.1 r j = σ.2.2.1 r j := by
  unfold newP
  rw [upR_o _ _ _ _ (by omega)]
  show (nwC σ (4, 11)).2.2.1 r j = _
  rw [nw_r, if_neg (by omega)]
theorem newP_k (σ : St) (n : Nat) (side sort : Int) (wc : Nat) {r : Nat} (h : r < σ.2.2.2) : (newP σ n side sort wc).1 r = σ.1 r := by
  show (nwC σ (4, 11)).1 r = _
  rw [nw_k, if_neg (by omega)]
theorem newP_c (σ : St) (n : Nat) (side sort : Int) (wc : Nat) {r : Nat} {k : Nat × Nat} (h : Cel σ r k) : Cel (newP σ n side sort wc) r k := h.nw _
theorem newP_s (σ : St) (n : Nat) (side sort : Int) (wc : Nat) (hS : Sta σ) : Sta (newP σ n side sort wc) := Sta.uR (σ := upI (upI (upI (nwC σ (4, 11)) σ.2.2.2 0 (n : Int)) σ.2.2.2 1 side) σ.2.2.2 2 sort) (hS.nw _) hS.1 3 wc
theorem newP_new (σ : St) (n : Nat) (side sort : Int) (wc : Nat) : (newP σ n side sort wc).2.1 σ.2.2.2 0 = n ∧ (newP σ n side sort wc).2.1 σ.2.2.2 1 = side ∧ (newP σ n side sort wc).2.1 σ.2.2.2 2 = sort ∧ (∀ j, 3 ≤ j → (newP σ n side sort wc).2.1 σ.2.2.2 j = 0) ∧ (newP σ n side sort wc).2.2.1 σ.2.2.2 3 = wc ∧ ∀ j, j ≠ 3 → (newP σ n side sort wc).2.2.1 σ.2.2.2 j = 0 := by
  refine ⟨?_, ?_, ?_, fun j hj => ?_, ?_, fun j hj => ?_⟩
  · show (upI (upI (upI (nwC σ (4, 11)) σ.2.2.2 0 (n : Int)) σ.2.2.2 1 side) σ.2.2.2 2 sort).2.1 σ.2.2.2 0 = _
    rw [up_j _ _ _ (by decide), up_j _ _ _ (by decide), up_at]
  · show (upI (upI (upI (nwC σ (4, 11)) σ.2.2.2 0 (n : Int)) σ.2.2.2 1 side) σ.2.2.2 2 sort).2.1 σ.2.2.2 1 = _
    rw [up_j _ _ _ (by decide), up_at]
  · show (upI (upI (upI (nwC σ (4, 11)) σ.2.2.2 0 (n : Int)) σ.2.2.2 1 side) σ.2.2.2 2 sort).2.1 σ.2.2.2 2 = _
    rw [up_at]
  · show (upI (upI (upI (nwC σ (4, 11)) σ.2.2.2 0 (n : Int)) σ.2.2.2 1 side) σ.2.2.2 2 sort).2.1 σ.2.2.2 j = _
    rw [up_j _ _ _ (by omega), up_j _ _ _ (by omega), up_j _ _ _ (by omega), nw_i, if_pos rfl]
  · unfold newP
    rw [upR_if, if_pos ⟨rfl, rfl⟩]
  · unfold newP
    rw [upR_if, if_neg (fun q => hj q.2)]
    show (nwC σ (4, 11)).2.2.1 σ.2.2.2 j = _
    rw [nw_r, if_pos rfl]
def pcN (pc : Nat → Nat) (n c : Nat) : Nat → Nat := fun i => if i = n then c else pc i
theorem pcN_o (pc : Nat → Nat) {n c i : Nat} (h : i < n) : pcN pc n c i = pc i := by unfold pcN; rw [if_neg (by omega)]
theorem pcN_n (pc : Nat → Nat) (n c : Nat) : pcN pc n c n = c := by unfold pcN; rw [if_pos rfl]
theorem TwC.come {D : Mk} {n : Nat} {pc : Nat → Nat} {w : Tw} {σ ρ : St} (hS : Sta σ) (hT : TwC n pc w σ) (hw : WFP D n w.1) (hn : n < 40) {side sort way : Int} (hA : AddP 46 σ.2.2.2 n (newP σ n side sort (wcl way.toNat)) ρ) : TwC (n + 1) (pcN pc n σ.2.2.2) (comeP w.1 n side sort way, w.2) ρ ∧ Fkm σ ρ := by
  obtain ⟨b1, b2, b3, b4, b5, ea, N, b6, b7, b8, b9, b10, b11, b12⟩ := hA
  have h132 := hS.1
  have hnx : (newP σ n side sort (wcl way.toNat)).2.2.2 = σ.2.2.2 + 1 := rfl
  rw [hnx] at b1 b2 b3 b5 b8
  have hea : (newP σ n side sort (wcl way.toNat)).2.2.1 46 1 = σ.2.2.1 46 1 := newP_r _ _ _ _ _ _ (by omega)
  rw [hea] at b5 b8 b12
  obtain ⟨n1, n2, n3, n4, n5, n6⟩ := newP_new σ n side sort (wcl way.toNat)
  -- the old list's row
  have hold : (n = 0 ∧ σ.2.2.1 46 1 = 3) ∨ (132 ≤ σ.2.2.1 46 1 ∧ σ.2.2.1 46 1 < σ.2.2.2 ∧ (σ.1 (σ.2.2.1 46 1)).1 = 23) := by
    rcases hT.1.1.2.2 with q | ⟨ea2, N2, q1, q2, q3, q4, q5, q6⟩
    · exact Or.inl q
    · rw [← q1] at q2 q3
      exact Or.inr ⟨q3, q2.2.1, by rw [q2.2.2]⟩
  have hk : Fkm σ ρ := by
    refine ⟨by omega, fun r hr => (b2 r (by omega)).trans (newP_k _ _ _ _ _ hr), fun r j hr h46 => (b3 r j (by omega) h46).trans (newP_i _ _ _ _ _ _ hr), fun r j h16 hr h46 hc => (b5 r j (by omega) h46 ?_).trans (newP_r _ _ _ _ _ _ hr)⟩
    rcases hold with q | q
    · intro e
      rw [e, q.2] at h16
      omega
    · rintro rfl
      rcases hc with c | c
      · omega
      · exact c q.2.2
  have hge : 132 ≤ ea := by
    rcases b8 with q | q
    · rcases hold with q2 | q2
      · have := b7.1
        omega
      · omega
    · omega
  have hpc : ∀ i, i < n → pc i < σ.2.2.2 := fun i hi => (hT.1.cel hi).2.1
  have horf : ∀ i, i < n → orf (pcN pc n σ.2.2.2) (w.1 3 i) = orf pc (w.1 3 i) := by
    intro i hi
    unfold orf
    by_cases q : w.1 3 i = -1
    · rw [if_pos q, if_pos q]
    · rw [if_neg q, if_neg q, pcN_o _ (own_lt hw hi q).1]
  refine ⟨⟨⟨⟨by rw [b4]; omega, by omega, Or.inr ⟨ea, N, b6, b7, hge, b9, b10, fun i hi => ?_⟩⟩, fun i j hi hj e => ?_, fun i hi => ?_⟩, fun i hi => ?_, ?_⟩, hk⟩
  · by_cases hc : i = n
    · rw [hc, b11, pcN_n]
    · rw [b12 i (by omega), pcN_o _ (by omega)]
      obtain ⟨ea2, N2, q1, q2, q3, q4⟩ := hT.1.ls (show i < n by omega)
      rw [newP_r _ _ _ _ _ _ (by rw [q1]; exact q2.2.1), q1]
      exact q4 i (by omega)
  · by_cases h1 : i = n
    · by_cases h2 : j = n
      · omega
      · rw [h1, pcN_n, pcN_o _ (by omega)] at e
        have := hpc j (by omega)
        omega
    · by_cases h2 : j = n
      · rw [h2, pcN_n, pcN_o _ (by omega)] at e
        have := hpc i (by omega)
        omega
      · rw [pcN_o _ (by omega), pcN_o _ (by omega)] at e
        exact hT.1.2.1 i j (by omega) (by omega) e
  · by_cases hc : i = n
    · subst hc
      obtain ⟨e0, e1, e2, e3⟩ := comeP_0 w.1 i side sort way
      have hne : σ.2.2.2 ≠ σ.2.2.1 46 1 := by rcases hold with q | q <;> omega
      have hi3 := fun j => b3 σ.2.2.2 j (by omega) (by omega)
      have hr3 := fun j => b5 σ.2.2.2 j (by omega) (by omega) hne
      rw [show PnC (pcN pc i σ.2.2.2) (comeP w.1 i side sort way, w.2).1 ρ i ↔ PnC (pcN pc i σ.2.2.2) (comeP w.1 i side sort way) ρ i from Iff.rfl]
      unfold PnC
      rw [pcN_n]
      refine ⟨⟨by omega, by omega, ?_⟩, h132, (hi3 0).trans n1, fun f h1 h2 h3 => ?_, ?_, ?_⟩
      · rw [b2 _ (by omega)]
        show (nwC σ (4, 11)).1 σ.2.2.2 = _
        rw [nw_k, if_pos rfl]
      · rw [hi3]
        by_cases f0 : f = 0
        · rw [f0, e0]; exact n2
        · by_cases f1 : f = 1
          · rw [f1, e1]; exact n3
          · rw [n4 _ (by omega), comeP_f _ _ _ _ _ _ (by omega), hw.2.2 f i (by omega) (Nat.le_refl _)]
      · rw [hr3, n5, e2]
      · rw [hr3, n6 4 (by decide), e3, orf_m]
    · have hi2 : i < n := by omega
      obtain ⟨a1, a2, a3, a4, a5, a6⟩ := hT.1.2.2 i hi2
      have hl := hpc i hi2
      have e := fun f => comeP_o w.1 side sort way f hc
      have hr := fun j => hk.2.2.2 (pc i) j (by omega) hl (by omega) (Or.inr (by rw [a1.2.2]; decide))
      rw [show PnC (pcN pc n σ.2.2.2) (comeP w.1 n side sort way, w.2).1 ρ i ↔ PnC (pcN pc n σ.2.2.2) (comeP w.1 n side sort way) ρ i from Iff.rfl]
      unfold PnC
      rw [pcN_o _ hi2]
      refine ⟨⟨a1.1, by omega, by rw [hk.2.1 _ hl]; exact a1.2.2⟩, a2, (hk.2.2.1 _ _ hl (by omega)).trans a3, fun f h1 h2 h3 => ?_, ?_, ?_⟩
      · rw [hk.2.2.1 _ _ hl (by omega), e]
        exact a4 f h1 h2 h3
      · rw [hr, e]; exact a5
      · rw [hr, e, horf i hi2]; exact a6
  · rw [hk.2.2.1 47 i (by omega) (by decide)]
    exact hT.2.1 i hi
  · rw [hk.2.2.1 41 6 (by omega) (by decide)]
    exact hT.2.2
theorem oiX11 : Cond.methodLink RX11 3 Lib.objectInit ∈ lw_g := mem_g 138 (by decide +kernel) rfl
theorem oiX3 : Cond.methodLink RX3 3 Lib.objectInit ∈ lw_g := mem_g 146 (by decide +kernel) rfl
theorem oiX6 : Cond.methodLink RX6 3 Lib.objectInit ∈ lw_g := mem_g 175 (by decide +kernel) rfl
theorem oiX9 : Cond.methodLink RX9 5 Lib.objectInit ∈ lw_g := mem_g 209 (by decide +kernel) rfl
theorem oiX8 : Cond.methodLink RX8 1 Lib.objectInit ∈ lw_g := mem_g 228 (by decide +kernel) rfl
theorem oiX7 : Cond.methodLink RX7 3 Lib.objectInit ∈ lw_g := mem_g 258 (by decide +kernel) rfl
theorem oiX10 : Cond.methodLink RX10 1 Lib.objectInit ∈ lw_g := mem_g 264 (by decide +kernel) rfl
theorem oiX1 : Cond.methodLink RX1 3 Lib.objectInit ∈ lw_g := mem_g 311 (by decide +kernel) rfl
theorem oiX2 : Cond.methodLink RX2 3 Lib.objectInit ∈ lw_g := mem_g 317 (by decide +kernel) rfl
theorem oiJxa1e45 : Cond.methodLink RJxa1e45 1 Lib.objectInit ∈ lw_g := mem_g 336 (by decide +kernel) rfl
theorem oiX0 : Cond.methodLink RX0 5 Lib.objectInit ∈ lw_g := mem_g 441 (by decide +kernel) rfl
theorem oiX5 : Cond.methodLink RX5 3 Lib.objectInit ∈ lw_g := mem_g 481 (by decide +kernel) rfl
theorem oiX4 : Cond.methodLink RX4 1 Lib.objectInit ∈ lw_g := mem_g 974 (by decide +kernel) rfl
theorem oiX12 : Cond.methodLink RX12 1 Lib.objectInit ∈ lw_g := mem_g 1348 (by decide +kernel) rfl
theorem k_pinit {G : Gt} {d : Nat} {σ : St} (hd : 1 ≤ d) {c wc : Nat} (hk : Cel σ c (4, 11)) (a b e : Int) : AM mX4_init G d 0 0 [vR c, vI a, vI b, vI e, vR wc] σ (fun r τ => r = none ∧ τ = upR (upI (upI (upI σ c 0 a) c 1 b) c 2 e) c 3 wc) := by
  refine AM.intro (by decide +kernel) (by simp [nLg]) (Nat.le_of_ble_eq_true rfl) (fun hO => ?_)
  show AW _ _ _ _ _ _ 0 [some (vR c), some (vI a), some (vI b), some (vI e), some (vR wc)] [] σ
  refine AW_aload_n dX4_init_0 rfl ?_
  refine AW_objInit dX4_init_1 oiX4 hk.1 (by omega) (Nat.le_of_ble_eq_true rfl) ?_
  refine AW_aload_n dX4_init_4 rfl ?_
  refine AW_iload_n dX4_init_5 rfl ?_
  refine AW_putI dX4_init_6 (Or.inr (Or.inl ⟨pfX4_7, rfl⟩)) hk ?_
  refine AW_aload_n dX4_init_9 rfl ?_
  refine AW_iload_n dX4_init_10 rfl ?_
  refine AW_putI dX4_init_11 (Or.inr (Or.inl ⟨pfX4_13, rfl⟩)) hk ?_
  refine AW_aload_n dX4_init_14 rfl ?_
  refine AW_iload_n dX4_init_15 rfl ?_
  refine AW_putI dX4_init_16 (Or.inr (Or.inl ⟨pfX4_16, rfl⟩)) hk ?_
  refine AW_aload_n dX4_init_19 rfl ?_
  refine AW_aload dX4_init_20 rfl ?_
  refine AW_putR dX4_init_22 (Or.inr (Or.inl ⟨pfX4_19, rfl⟩)) hk ?_
  refine AW_vret dX4_init_25 rfl ?_
  exact ⟨rfl, rfl⟩
theorem k_admit {G : Gt} {d : Nat} {σ : St} (hd : 7 ≤ d) {D : Mk} {n : Nat} {pc : Nat → Nat} {w : Tw} (hS : Sta σ) (h6 : σ.2.1 45 2 = 6) (hT : TwC n pc w σ) (hw : WFP D n w.1) (side sort way : Int)  : AM mX1_admit G d 2 60 [vR 41, vI side, vI sort, vI way] σ (fun ro ρ => ∃ z : Int, ro = some (vI z) ∧ ((¬ ((0 ≤ way ∧ way < 6) ∧ n < 40) ∧ z = -1 ∧ ρ = σ) ∨ (((0 ≤ way ∧ way < 6) ∧ n < 40) ∧ z = n ∧ TwC (n + 1) (pcN pc n σ.2.2.2) (comeP w.1 n side sort way, w.2) ρ ∧ Fkm σ ρ))) := by
  refine AM.intro (by decide +kernel) (by simp [nLg]) (Nat.le_of_ble_eq_true rfl) (fun hO => ?_)
  have i_side : -2147483648 ≤ side ∧ side < 2147483648 := hO (vI side) (by simp)
  have i_sort : -2147483648 ≤ sort ∧ sort < 2147483648 := hO (vI sort) (by simp)
  have i_way : -2147483648 ≤ way ∧ way < 2147483648 := hO (vI way) (by simp)
  show AW _ _ _ _ _ _ 0 [some (vR 41), some (vI side), some (vI sort), some (vI way), none] [] σ
  have hn40 := hw.1
  have h132 := hS.1
  refine AW_aload_n dX1_admit_0 rfl ?_
  refine AW_getR (a := 46) dX1_admit_1 gfX1_25 (hS.cel rfl) (hS.rf rfl) ?_
  refine AW_callV0 (d' := d - 1) dX1_admit_4 (Or.inl lkX1_47) mfJx4a65c_size_8abf5 (hS.cel rfl) ⟨_, rfl, rfl⟩ (k_ALsize (hS.cel rfl)) (by omega) (Nat.le_of_ble_eq_true rfl) ?_
  rintro _ _ ⟨e_, rfl⟩ -
  rw [e_]
  clear e_
  rw [hT.1.1.1]
  refine AW_istore4 dX1_admit_7 ?_
  refine AW_iload dX1_admit_9 rfl ?_
  refine AW_bipush dX1_admit_11 ?_
  refine AW_icmp_ge (tgt := 24) dX1_admit_13 (by decide) (fun c_13 => ?_) (fun c_13 => ?_)
  · skip
    refine AW_iconst dX1_admit_24 ?_
    refine AW_iret dX1_admit_25 rfl ?_
    exact ⟨-1, rfl, Or.inl ⟨by omega, rfl, rfl⟩⟩
  · skip
    refine AW_aload_n dX1_admit_16 rfl ?_
    refine AW_iload_n dX1_admit_17 rfl ?_
    refine AW_callV1 (d' := d - 1) dX1_admit_18 (Or.inl lkX1_55) mfX1_isWay (hS.cel rfl) ⟨_, rfl, rfl⟩ (k_isWay (by omega) hS h6 way) (by omega) (Nat.le_of_ble_eq_true rfl) ?_
    rintro _ _ ⟨e_, rfl⟩ -
    rw [e_]
    clear e_
    refine AW_if_ne (tgt := 26) dX1_admit_21 (by decide) (fun c_21 => ?_) (fun c_21 => ?_)
    · skip
      replace c_21 := bz1 c_21
      refine AW_aload_n dX1_admit_26 rfl ?_
      refine AW_getR (a := 46) dX1_admit_27 gfX1_25 (hS.cel rfl) (hS.rf rfl) ?_
      refine AW_up (bc := 1 + 1) (bs := 49 + 11) (by decide) (by decide) ?_
      refine AW_new dX1_admit_30 nwX1_70 ?_
      have hS1 := hS.nw (4, 11)
      refine AW_dup dX1_admit_33 ?_
      refine AW_iload dX1_admit_34 rfl ?_
      refine AW_iload_n dX1_admit_36 rfl ?_
      refine AW_iload_n dX1_admit_37 rfl ?_
      refine AW_aload_n dX1_admit_38 rfl ?_
      refine AW_getR (a := 45) dX1_admit_39 gfX1_21 (hS1.cel rfl) (hS1.rf rfl) ?_
      refine AW_iload_n dX1_admit_42 rfl ?_
      refine AW_callV1 (d' := d - 1) dX1_admit_43 (Or.inl lkX1_59) mfJx4a65c_get_915e3 (hS1.cel rfl) ⟨_, rfl, rfl⟩ (k_ALget (by omega) (hS1.cel rfl) (hS1.rf rfl) (hS1.cel rfl) way (by omega) (show way < 10 by omega) (by rw [nw_i, if_neg (by omega), h6]; omega)) (by omega) (Nat.le_of_ble_eq_true rfl) ?_
      rintro _ _ ⟨e_, rfl⟩ -
      rw [e_]
      clear e_
      rw [hS1.wn (show way.toNat < 6 by omega)]
      refine AW_cast dX1_admit_46 (hS1.wc (show way.toNat < 6 by omega)) ⟨_, rfl, cl_W⟩ ?_
      refine AW_callI4 (d' := d - 1) dX1_admit_49 (Or.inl lkX1_72) mfX4_init (show 16 ≤ σ.2.2.2 by omega) (k_pinit (by omega) (Cel.new (by omega) _) (n : Int) side sort) (by omega) (Nat.le_of_ble_eq_true rfl) ?_
      rintro _ _ ⟨rfl, rfl⟩ -
      have hS2 := newP_s σ n side sort (wcl way.toNat) hS
      replace hS2 : Sta (upR (upI (upI (upI (nwC σ (4, 11)) σ.2.2.2 0 (n : Int)) σ.2.2.2 1 side) σ.2.2.2 2 sort) σ.2.2.2 3 (wcl way.toNat)) := hS2
      have hls : (n = 0 ∧ (newP σ n side sort (wcl way.toNat)).2.2.1 46 1 = 3) ∨ ∃ ea N, (newP σ n side sort (wcl way.toNat)).2.2.1 46 1 = ea ∧ Cel (newP σ n side sort (wcl way.toNat)) ea (23, N) ∧ n ≤ N ∧ capN N ∧ ∀ i, i < n → ∃ ci N2, Cel (newP σ n side sort (wcl way.toNat)) ((newP σ n side sort (wcl way.toNat)).2.2.1 ea i) (ci, N2) ∧ CO ci := by
        rw [newP_r _ _ _ _ _ _ (by omega)]
        rcases hT.1.1.2.2 with q | ⟨ea, N, q1, q2, q3, q4, q5, q6⟩
        · exact Or.inl q
        · refine Or.inr ⟨ea, N, q1, newP_c _ _ _ _ _ q2, q4, q5, fun i hi => ⟨4, 11, ?_, co4⟩⟩
          rw [newP_r _ _ _ _ _ _ q2.2.1, q6 i hi]
          exact newP_c _ _ _ _ _ (hT.1.cel hi)
      refine AW_callVb1 (d' := d - 1) dX1_admit_52 (Or.inl lkX1_43) mfJx4a65c_add_9ea2d (hS2.cel rfl) ⟨_, rfl, rfl⟩ (k_ALadd (n := n) (by omega) (show 16 ≤ (newP σ n side sort (wcl way.toNat)).2.2.2 by have : (newP σ n side sort (wcl way.toNat)).2.2.2 = σ.2.2.2 + 1 := rfl; omega) (hS2.cel rfl) ((newP_i σ n side sort (wcl way.toNat) 2 (by omega)).trans hT.1.1.1) (by omega) hls (show Cel (newP σ n side sort (wcl way.toNat)) σ.2.2.2 (4, 11) from Cel.new (by omega) _) co4) (by omega) (Nat.le_of_ble_eq_true rfl) ?_
      rintro _ ρ1 ⟨rfl, hA⟩ -
      refine AW_pop dX1_admit_55 ?_
      refine AW_iload dX1_admit_56 rfl ?_
      refine AW_iret dX1_admit_58 rfl ?_
      obtain ⟨r1, r2⟩ := TwC.come hS hT hw (by omega) hA
      exact ⟨(n : Int), rfl, Or.inr ⟨by omega, rfl, r1, r2⟩⟩
    · skip
      replace c_21 := bz0 c_21
      refine AW_iconst dX1_admit_24 ?_
      refine AW_iret dX1_admit_25 rfl ?_
      exact ⟨-1, rfl, Or.inl ⟨by omega, rfl, rfl⟩⟩
theorem x_come {G : Gt} {d : Nat} {σ : St} (hd : 8 ≤ d) {D : Mk} {n : Nat} {pc : Nat → Nat} {w : Tw} (hS : Sta σ) (h6 : σ.2.1 45 2 = 6) (hT : TwC n pc w σ) (hw : WFP D n w.1) (hR : RepC D σ) (side sort way : Int)  : AM mX11_come G d 2 60 [vR 16, vI side, vI sort, vI way] σ (fun ro ρ => ∃ z : Int, ro = some (vI z) ∧ ((¬ (((side = 0 ∨ side = 1) ∧ 0 ≤ sort ∧ sort < D 0 side.toNat) ∧ (0 ≤ way ∧ way < 6) ∧ n < 40) ∧ z = -1 ∧ ρ = σ) ∨ ((((side = 0 ∨ side = 1) ∧ 0 ≤ sort ∧ sort < D 0 side.toNat) ∧ (0 ≤ way ∧ way < 6) ∧ n < 40) ∧ z = n ∧ TwC (n + 1) (pcN pc n σ.2.2.2) (comeP w.1 n side sort way, w.2) ρ ∧ Fkm σ ρ))) := by
  refine AM.intro (by decide +kernel) (by simp [nLg]) (Nat.le_of_ble_eq_true rfl) (fun hO => ?_)
  have i_side : -2147483648 ≤ side ∧ side < 2147483648 := hO (vI side) (by simp)
  have i_sort : -2147483648 ≤ sort ∧ sort < 2147483648 := hO (vI sort) (by simp)
  have i_way : -2147483648 ≤ way ∧ way < 2147483648 := hO (vI way) (by simp)
  show AW _ _ _ _ _ _ 0 [some (vR 16), some (vI side), some (vI sort), some (vI way)] [] σ
  refine AW_up (bc := 0 + 2) (bs := 0 + 60) (by omega) (by omega) ?_
  refine AW_aload_n dX11_come_0 rfl ?_
  refine AW_getR (a := 17) dX11_come_1 gfX11_12 (hS.cel rfl) (hS.rf rfl) ?_
  refine AW_iload_n dX11_come_4 rfl ?_
  refine AW_iload_n dX11_come_5 rfl ?_
  refine AW_callV2 (d' := d - 1) dX11_come_6 (Or.inl lkX11_85) mfX3_isSort (hS.cel rfl) ⟨_, rfl, rfl⟩ (k_isSort hS hR side sort) (by omega) (Nat.le_of_ble_eq_true rfl) ?_
  rintro _ _ ⟨e_, rfl⟩ -
  rw [e_]
  clear e_
  refine AW_if_eq (tgt := 23) dX11_come_9 (by decide) (fun c_9 => ?_) (fun c_9 => ?_)
  · skip
    replace c_9 := bz0 c_9
    refine AW_iconst dX11_come_23 ?_
    refine AW_iret dX11_come_24 rfl ?_
    exact ⟨-1, rfl, Or.inl ⟨by omega, rfl, rfl⟩⟩
  · skip
    replace c_9 := bz1 c_9
    refine AW_aload_n dX11_come_12 rfl ?_
    refine AW_getR (a := 41) dX11_come_13 gfX11_53 (hS.cel rfl) (hS.rf rfl) ?_
    refine AW_iload_n dX11_come_16 rfl ?_
    refine AW_callV1 (d' := d - 1) dX11_come_17 (Or.inl lkX11_144) mfX1_isWay (hS.cel rfl) ⟨_, rfl, rfl⟩ (k_isWay (by omega) hS h6 way) (by omega) (Nat.le_of_ble_eq_true rfl) ?_
    rintro _ _ ⟨e_, rfl⟩ -
    rw [e_]
    clear e_
    refine AW_if_ne (tgt := 25) dX11_come_20 (by decide) (fun c_20 => ?_) (fun c_20 => ?_)
    · skip
      replace c_20 := bz1 c_20
      refine AW_aload_n dX11_come_25 rfl ?_
      refine AW_getR (a := 41) dX11_come_26 gfX11_53 (hS.cel rfl) (hS.rf rfl) ?_
      refine AW_iload_n dX11_come_29 rfl ?_
      refine AW_iload_n dX11_come_30 rfl ?_
      refine AW_iload_n dX11_come_31 rfl ?_
      refine AW_callVb3 (d' := d - 1) dX11_come_32 (Or.inl lkX11_164) mfX1_admit (hS.cel rfl) ⟨_, rfl, rfl⟩ (k_admit (by omega) hS h6 hT hw side sort way) (by omega) (Nat.le_of_ble_eq_true rfl) ?_
      rintro _ ρ1 ⟨z, rfl, hz⟩ -
      refine AW_iret dX11_come_35 rfl ?_
      refine ⟨z, rfl, ?_⟩
      rcases hz with ⟨q1, q2, q3⟩ | ⟨q1, q2, q3⟩
      · exact Or.inl ⟨by omega, q2, q3⟩
      · exact Or.inr ⟨⟨c_9, q1⟩, q2, q3⟩
    · skip
      replace c_20 := bz0 c_20
      refine AW_iconst dX11_come_23 ?_
      refine AW_iret dX11_come_24 rfl ?_
      exact ⟨-1, rfl, Or.inl ⟨by omega, rfl, rfl⟩⟩
