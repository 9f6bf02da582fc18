theorem cpR_if (σ : St) (r0 r1 sp dp n r j : Nat) : (cpR σ r0 r1 sp dp n).2.2.1 r j = if r = r1 ∧ dp ≤ j ∧ j < dp + n then σ.2.2.1 r0 (sp + (j - dp)) else σ.2.2.1 r j := rfl
def capN (N : Nat) : Prop := N = 10 ∨ N = 15 ∨ N = 22 ∨ N = 33 ∨ N = 49
/-- v has come behind the n that the list lc held -/
def AddP (lc v n : Nat) (σ ρ : St) : Prop := σ.2.2.2 ≤ ρ.2.2.2 ∧ (∀ r, r < σ.2.2.2 → ρ.1 r = σ.1 r) ∧ (∀ r j, r < σ.2.2.2 → r ≠ lc → ρ.2.1 r j = σ.2.1 r j) ∧ ρ.2.1 lc 2 = (n : Int) + 1 ∧ (∀ r j, r < σ.2.2.2 → r ≠ lc → r ≠ σ.2.2.1 lc 1 → ρ.2.2.1 r j = σ.2.2.1 r j) ∧ ∃ ea N, ρ.2.2.1 lc 1 = ea ∧ Cel ρ ea (23, N) ∧ (ea = σ.2.2.1 lc 1 ∨ σ.2.2.2 ≤ ea) ∧ n + 1 ≤ N ∧ capN N ∧ ρ.2.2.1 ea n = v ∧ ∀ i, i < n → ρ.2.2.1 ea i = σ.2.2.1 (σ.2.2.1 lc 1) i
theorem addP_N {σ : St} {lc v n ea N : Nat} (hl : Cel σ lc (13, 3)) (he : σ.2.2.1 lc 1 = ea) (ha : Cel σ ea (23, N)) (hlt : n < N) (hc : capN N) (x : Int) : AddP lc v n σ (upI (upR (upI σ lc 0 x) ea n v) lc 2 ((n : Int) + 1)) := by
  have hne : lc ≠ ea := fun e => by
    have h1 := hl.2.2
    rw [e, ha.2.2] at h1
    cases h1
  refine ⟨Nat.le_refl _, fun _ _ => rfl, fun r j _ hr => ?_, up_at _ _ _ _, fun r j _ h1 h2 => ?_, ea, N, ?_, ha, Or.inl he.symm, hlt, hc, ?_, fun i hi => ?_⟩
  · rw [up_r _ _ _ _ hr]
    show (upI σ lc 0 x).2.1 r j = _
    rw [up_r _ _ _ _ hr]
  · show (upR (upI σ lc 0 x) ea n v).2.2.1 r j = _
    rw [upR_o _ _ _ _ (by rw [he] at h2; exact h2)]
    rfl
  · show (upR (upI σ lc 0 x) ea n v).2.2.1 lc 1 = _
    rw [upR_o _ _ _ _ hne]
    exact he
  · show (upR (upI σ lc 0 x) ea n v).2.2.1 ea n = _
    rw [upR_if, if_pos ⟨rfl, rfl⟩]
  · show (upR (upI σ lc 0 x) ea n v).2.2.1 ea i = _
    rw [upR_if, if_neg (by omega), he]
    rfl
theorem addP_F {σ : St} {lc v ea N : Nat} (h16 : 16 ≤ σ.2.2.2) (hl : Cel σ lc (13, 3)) (he : σ.2.2.1 lc 1 = ea) (ha : Cel σ ea (23, N)) (hN : N = 10 ∨ N = 15 ∨ N = 22 ∨ N = 33) (x : Int) : AddP lc v N σ (upI (upR (upR (cpR (nwC (upI σ lc 0 x) (23, N + N / 2)) ea σ.2.2.2 0 0 N) lc 1 σ.2.2.2) σ.2.2.2 N v) lc 2 ((N : Int) + 1)) := by
  have h1 := hl.2.1
  have h2 := ha.2.1
  refine ⟨Nat.le_succ _, fun r hr => ?_, fun r j hr hn => ?_, up_at _ _ _ _, fun r j hr h3 h4 => ?_, σ.2.2.2, N + N / 2, ?_, ⟨h16, Nat.lt_succ_self _, ?_⟩, Or.inr (Nat.le_refl _), by omega, by unfold capN; omega, ?_, fun i hi => ?_⟩
  · show (if r = σ.2.2.2 then _ else σ.1 r) = _
    rw [if_neg (by omega)]
  · rw [up_r _ _ _ _ hn]
    show (nwC (upI σ lc 0 x) (23, N + N / 2)).2.1 r j = _
    rw [nw_i, if_neg (show ¬ r = (upI σ lc 0 x).2.2.2 from (by have : (upI σ lc 0 x).2.2.2 = σ.2.2.2 := rfl; omega)), up_r _ _ _ _ hn]
  · show (upR (upR (cpR (nwC (upI σ lc 0 x) (23, N + N / 2)) ea σ.2.2.2 0 0 N) lc 1 σ.2.2.2) σ.2.2.2 N v).2.2.1 r j = _
    rw [upR_o _ _ _ _ (by omega), upR_o _ _ _ _ h3, cpR_if, if_neg (by omega), nw_r, if_neg (show ¬ r = (upI σ lc 0 x).2.2.2 from (by have : (upI σ lc 0 x).2.2.2 = σ.2.2.2 := rfl; omega))]
    rfl
  · show (upR (upR (cpR (nwC (upI σ lc 0 x) (23, N + N / 2)) ea σ.2.2.2 0 0 N) lc 1 σ.2.2.2) σ.2.2.2 N v).2.2.1 lc 1 = _
    rw [upR_o _ _ _ _ (by omega), upR_if, if_pos ⟨rfl, rfl⟩]
  · show (if σ.2.2.2 = σ.2.2.2 then _ else _) = _
    rw [if_pos rfl]
  · show (upR (upR (cpR (nwC (upI σ lc 0 x) (23, N + N / 2)) ea σ.2.2.2 0 0 N) lc 1 σ.2.2.2) σ.2.2.2 N v).2.2.1 σ.2.2.2 N = _
    rw [upR_if, if_pos ⟨rfl, rfl⟩]
  · show (upR (upR (cpR (nwC (upI σ lc 0 x) (23, N + N / 2)) ea σ.2.2.2 0 0 N) lc 1 σ.2.2.2) σ.2.2.2 N v).2.2.1 σ.2.2.2 i = _
    rw [upR_if, if_neg (by omega), upR_o _ _ _ _ (by omega), cpR_if, if_pos (by omega), nw_r, if_neg (show ¬ ea = (upI σ lc 0 x).2.2.2 from (by have : (upI σ lc 0 x).2.2.2 = σ.2.2.2 := rfl; omega)), he, show 0 + (i - 0) = i by omega]
    rfl
theorem addP_E {σ : St} {lc v : Nat} (h16 : 16 ≤ σ.2.2.2) (hl : Cel σ lc (13, 3)) (x : Int) : AddP lc v 0 σ (upI (upR (upR (nwC (upI σ lc 0 x) (23, 10)) lc 1 σ.2.2.2) σ.2.2.2 0 v) lc 2 1) := by
  have h1 := hl.2.1
  refine ⟨Nat.le_succ _, fun r hr => ?_, fun r j hr hn => ?_, up_at _ _ _ _, fun r j hr h3 h4 => ?_, σ.2.2.2, 10, ?_, ⟨h16, Nat.lt_succ_self _, ?_⟩, Or.inr (Nat.le_refl _), by omega, by unfold capN; omega, ?_, fun i hi => absurd hi (Nat.not_lt_zero i)⟩
  · show (if r = σ.2.2.2 then _ else σ.1 r) = _
    rw [if_neg (by omega)]
  · rw [up_r _ _ _ _ hn]
    show (nwC (upI σ lc 0 x) (23, 10)).2.1 r j = _
    rw [nw_i, if_neg (show ¬ r = (upI σ lc 0 x).2.2.2 from (by have : (upI σ lc 0 x).2.2.2 = σ.2.2.2 := rfl; omega)), up_r _ _ _ _ hn]
  · show (upR (upR (nwC (upI σ lc 0 x) (23, 10)) lc 1 σ.2.2.2) σ.2.2.2 0 v).2.2.1 r j = _
    rw [upR_o _ _ _ _ (by omega), upR_o _ _ _ _ h3, nw_r, if_neg (show ¬ r = (upI σ lc 0 x).2.2.2 from (by have : (upI σ lc 0 x).2.2.2 = σ.2.2.2 := rfl; omega))]
    rfl
  · show (upR (upR (nwC (upI σ lc 0 x) (23, 10)) lc 1 σ.2.2.2) σ.2.2.2 0 v).2.2.1 lc 1 = _
    rw [upR_o _ _ _ _ (by omega), upR_if, if_pos ⟨rfl, rfl⟩]
  · show (if σ.2.2.2 = σ.2.2.2 then _ else _) = _
    rw [if_pos rfl]
  · show (upR (upR (nwC (upI σ lc 0 x) (23, 10)) lc 1 σ.2.2.2) σ.2.2.2 0 v).2.2.1 σ.2.2.2 0 = _
    rw [upR_if, if_pos ⟨rfl, rfl⟩]
theorem k_add3N {G : Gt} {d : Nat} {σ : St} {lc ea N n : Nat} (hl : Cel σ lc (13, 3)) (ha : Cel σ ea (23, N)) (hlt : n < N) (hN : N ≤ 49) {v ci Nv : Nat} (hv : Cel σ v (ci, Nv)) (hco : CO ci) : AM mJx4a65c_add_72be8 G d 0 0 [vR lc, vR v, vR ea, vI (n : Int)] σ (fun ro ρ => ro = none ∧ ρ = upI (upR σ ea n v) lc 2 ((n : Int) + 1)) := by
  refine AM.intro (by decide +kernel) (by simp [nLg]) (Nat.le_of_ble_eq_true rfl) (fun hO => ?_)
  show AW _ _ _ _ _ _ 0 [some (vR lc), some (vR v), some (vR ea), some (vI (n : Int))] [] σ
  refine AW_iload_n dJx4a65c_add_72be8_0 rfl ?_
  refine AW_aload_n dJx4a65c_add_72be8_1 rfl ?_
  refine AW_alen dJx4a65c_add_72be8_2 ha (by decide) (by omega) ?_
  refine AW_icmp_ne (tgt := 11) dJx4a65c_add_72be8_3 (by decide) (fun c_3 => ?_) (fun c_3 => ?_)
  · skip
    refine AW_aload_n dJx4a65c_add_72be8_11 rfl ?_
    refine AW_iload_n dJx4a65c_add_72be8_12 rfl ?_
    refine AW_aload_n dJx4a65c_add_72be8_13 rfl ?_
    refine AW_aast dJx4a65c_add_72be8_14 ha (by omega) (by omega) hv hco ?_
    rw [Int.toNat_natCast]
    refine AW_aload_n dJx4a65c_add_72be8_15 rfl ?_
    refine AW_iload_n dJx4a65c_add_72be8_16 rfl ?_
    refine AW_iconst dJx4a65c_add_72be8_17 ?_
    refine AW_iaddE dJx4a65c_add_72be8_18 (by omega) (by omega) ?_
    refine AW_putI dJx4a65c_add_72be8_19 (Or.inl pfJx4a65c_48) hl ?_
    refine AW_vret dJx4a65c_add_72be8_22 rfl ?_
    exact ⟨rfl, rfl⟩
  · skip
    exact absurd c_3 (by omega)
theorem k_add3F {G : Gt} {d : Nat} {σ : St} (hd : 5 ≤ d) {lc ea N : Nat} (h16 : 16 ≤ σ.2.2.2) (hl : Cel σ lc (13, 3)) (he : σ.2.2.1 lc 1 = ea) (hn : σ.2.1 lc 2 = N) (ha : Cel σ ea (23, N)) (hN : N = 10 ∨ N = 15 ∨ N = 22 ∨ N = 33) (hel : ∀ i, i < N → σ.2.2.1 ea i = 0 ∨ ∃ ci N2, Cel σ (σ.2.2.1 ea i) (ci, N2) ∧ CO ci) {v ci Nv : Nat} (hv : Cel σ v (ci, Nv)) (hco : CO ci) : AM mJx4a65c_add_72be8 G d 1 49 [vR lc, vR v, vR ea, vI (N : Int)] σ (fun ro ρ => ro = none ∧ ρ = upI (upR (upR (cpR (nwC σ (23, N + N / 2)) ea σ.2.2.2 0 0 N) lc 1 σ.2.2.2) σ.2.2.2 N v) lc 2 ((N : Int) + 1)) := by
  refine AM.intro (by decide +kernel) (by simp [nLg]) (Nat.le_of_ble_eq_true rfl) (fun hO => ?_)
  show AW _ _ _ _ _ _ 0 [some (vR lc), some (vR v), some (vR ea), some (vI (N : Int))] [] σ
  refine AW_up (bc := 0 + 1) (bs := 0 + (N + N / 2)) (by omega) (by omega) ?_
  refine AW_iload_n dJx4a65c_add_72be8_0 rfl ?_
  refine AW_aload_n dJx4a65c_add_72be8_1 rfl ?_
  refine AW_alen dJx4a65c_add_72be8_2 ha (by decide) (by omega) ?_
  refine AW_icmp_ne (tgt := 11) dJx4a65c_add_72be8_3 (by decide) (fun c_3 => ?_) (fun c_3 => ?_)
  · skip
    exact absurd rfl c_3
  · skip
    refine AW_aload_n dJx4a65c_add_72be8_6 rfl ?_
    refine AW_callVb0 (d' := d - 1) dJx4a65c_add_72be8_7 (Or.inl lkJx4a65c_129) mfJx4a65c_grow_d5877 hl ⟨_, rfl, rfl⟩ (k_growF0 (by omega) h16 hl he ha hN hel hn) (by omega) (Nat.le_of_ble_eq_true rfl) ?_
    rintro _ _ ⟨rfl, rfl⟩ -
    refine AW_astore2 dJx4a65c_add_72be8_10 ?_
    refine AW_aload_n dJx4a65c_add_72be8_11 rfl ?_
    refine AW_iload_n dJx4a65c_add_72be8_12 rfl ?_
    refine AW_aload_n dJx4a65c_add_72be8_13 rfl ?_
    refine AW_aast (N := N + N / 2) dJx4a65c_add_72be8_14 (show Cel (upR (cpR (nwC σ (23, N + N / 2)) ea σ.2.2.2 0 0 N) lc 1 σ.2.2.2) σ.2.2.2 (23, N + N / 2) from Cel.new h16 _) (by omega) (by omega) (show Cel (upR (cpR (nwC σ (23, N + N / 2)) ea σ.2.2.2 0 0 N) lc 1 σ.2.2.2) v (ci, Nv) from hv.nw _) hco ?_
    rw [Int.toNat_natCast]
    refine AW_aload_n dJx4a65c_add_72be8_15 rfl ?_
    refine AW_iload_n dJx4a65c_add_72be8_16 rfl ?_
    refine AW_iconst dJx4a65c_add_72be8_17 ?_
    refine AW_iaddE dJx4a65c_add_72be8_18 (by omega) (by omega) ?_
    refine AW_putI dJx4a65c_add_72be8_19 (Or.inl pfJx4a65c_48) (hl.nw (23, N + N / 2)) ?_
    refine AW_vret dJx4a65c_add_72be8_22 rfl ?_
    exact ⟨rfl, rfl⟩
theorem k_add3E {G : Gt} {d : Nat} {σ : St} (hd : 5 ≤ d) {lc : Nat} (h16 : 16 ≤ σ.2.2.2) (hl : Cel σ lc (13, 3)) (he : σ.2.2.1 lc 1 = 3) (hn : σ.2.1 lc 2 = 0) {v ci Nv : Nat} (hv : Cel σ v (ci, Nv)) (hco : CO ci) : AM mJx4a65c_add_72be8 G d 1 49 [vR lc, vR v, vR 3, vI 0] σ (fun ro ρ => ro = none ∧ ρ = upI (upR (upR (nwC σ (23, 10)) lc 1 σ.2.2.2) σ.2.2.2 0 v) lc 2 1) := by
  refine AM.intro (by decide +kernel) (by simp [nLg]) (Nat.le_of_ble_eq_true rfl) (fun hO => ?_)
  show AW _ _ _ _ _ _ 0 [some (vR lc), some (vR v), some (vR 3), some (vI 0)] [] σ
  refine AW_up (bc := 0 + 1) (bs := 0 + 10) (by omega) (by omega) ?_
  refine AW_iload_n dJx4a65c_add_72be8_0 rfl ?_
  refine AW_aload_n dJx4a65c_add_72be8_1 rfl ?_
  refine AW_xalen (N := 0) dJx4a65c_add_72be8_2 kn_AT (by decide) (by decide) (by decide) ?_
  refine AW_icmp_ne (tgt := 11) dJx4a65c_add_72be8_3 (by decide) (fun c_3 => ?_) (fun c_3 => ?_)
  · skip
    exact absurd rfl c_3
  · skip
    refine AW_aload_n dJx4a65c_add_72be8_6 rfl ?_
    refine AW_callVb0 (d' := d - 1) dJx4a65c_add_72be8_7 (Or.inl lkJx4a65c_129) mfJx4a65c_grow_d5877 hl ⟨_, rfl, rfl⟩ (k_growE0 (by omega) h16 hl he hn) (by omega) (Nat.le_of_ble_eq_true rfl) ?_
    rintro _ _ ⟨rfl, rfl⟩ -
    refine AW_astore2 dJx4a65c_add_72be8_10 ?_
    refine AW_aload_n dJx4a65c_add_72be8_11 rfl ?_
    refine AW_iload_n dJx4a65c_add_72be8_12 rfl ?_
    refine AW_aload_n dJx4a65c_add_72be8_13 rfl ?_
    refine AW_aast (N := 10) dJx4a65c_add_72be8_14 (Cel.new h16 _) (by decide) (by decide) (hv.nw _) hco ?_
    rw [show Int.toNat 0 = 0 from rfl]
    refine AW_aload_n dJx4a65c_add_72be8_15 rfl ?_
    refine AW_iload_n dJx4a65c_add_72be8_16 rfl ?_
    refine AW_iconst dJx4a65c_add_72be8_17 ?_
    refine AW_iaddE dJx4a65c_add_72be8_18 (by omega) (by omega) ?_
    refine AW_putI dJx4a65c_add_72be8_19 (Or.inl pfJx4a65c_48) (hl.nw _) ?_
    refine AW_vret dJx4a65c_add_72be8_22 rfl ?_
    exact ⟨rfl, rfl⟩
theorem k_ALadd {G : Gt} {d : Nat} {σ : St} (hd : 6 ≤ d) {lc n : Nat} (h16 : 16 ≤ σ.2.2.2) (hl : Cel σ lc (13, 3)) (hn : σ.2.1 lc 2 = n) (hn40 : n < 40) (hls : (n = 0 ∧ σ.2.2.1 lc 1 = 3) ∨ ∃ ea N, σ.2.2.1 lc 1 = ea ∧ Cel σ ea (23, N) ∧ n ≤ N ∧ capN N ∧ ∀ i, i < n → ∃ ci N2, Cel σ (σ.2.2.1 ea i) (ci, N2) ∧ CO ci) {v ci Nv : Nat} (hv : Cel σ v (ci, Nv)) (hco : CO ci) : AM mJx4a65c_add_9ea2d G d 1 49 [vR lc, vR v] σ (fun ro ρ => ro = some (vI 1) ∧ AddP lc v n σ ρ) := by
  refine AM.intro (by decide +kernel) (by simp [nLg]) (Nat.le_of_ble_eq_true rfl) (fun hO => ?_)
  show AW _ _ _ _ _ _ 0 [some (vR lc), some (vR v)] [] σ
  rcases hls with ⟨rfl, h3⟩ | ⟨ea, N, q1, q2, q3, q4, q5⟩
  · refine AW_up (bc := 0 + 1) (bs := 0 + 49) (by omega) (by omega) ?_
    refine AW_aload_n dJx4a65c_add_9ea2d_0 rfl ?_
    refine AW_dup dJx4a65c_add_9ea2d_1 ?_
    refine AW_getI dJx4a65c_add_9ea2d_2 gfJx4a65c_63 hl ?_
    refine AW_iconst dJx4a65c_add_9ea2d_5 ?_
    refine AW_iadd dJx4a65c_add_9ea2d_6 ?_
    refine AW_putI dJx4a65c_add_9ea2d_7 (Or.inl pfJx4a65c_63) hl ?_
    refine AW_aload_n dJx4a65c_add_9ea2d_10 rfl ?_
    refine AW_aload_n dJx4a65c_add_9ea2d_11 rfl ?_
    refine AW_aload_n dJx4a65c_add_9ea2d_12 rfl ?_
    refine AW_getR (a := 3) dJx4a65c_add_9ea2d_13 gfJx4a65c_9 hl h3 ?_
    refine AW_aload_n dJx4a65c_add_9ea2d_16 rfl ?_
    refine AW_getI dJx4a65c_add_9ea2d_17 gfJx4a65c_48 hl ?_
    rw [up_j _ _ _ (by decide), hn]
    rw [show ((0 : Nat) : Int) = 0 from rfl]
    refine AW_callVb3 (d' := d - 1) dJx4a65c_add_9ea2d_20 (Or.inl lkJx4a65c_131) mfJx4a65c_add_72be8 hl ⟨_, rfl, rfl⟩ (k_add3E (σ := upI σ lc 0 (wr (σ.2.1 lc 0 + 1))) (by omega) h16 hl h3 (by rw [up_j _ _ _ (by decide)]; exact hn) hv hco) (by omega) (Nat.le_of_ble_eq_true rfl) ?_
    rintro _ _ ⟨rfl, rfl⟩ -
    refine AW_iconst dJx4a65c_add_9ea2d_23 ?_
    refine AW_zret dJx4a65c_add_9ea2d_24 rfl (by decide) ?_
    exact ⟨rfl, addP_E h16 hl _⟩
  · by_cases hc : n = N
    · subst hc
      refine AW_up (bc := 0 + 1) (bs := 0 + 49) (by omega) (by omega) ?_
      refine AW_aload_n dJx4a65c_add_9ea2d_0 rfl ?_
      refine AW_dup dJx4a65c_add_9ea2d_1 ?_
      refine AW_getI dJx4a65c_add_9ea2d_2 gfJx4a65c_63 hl ?_
      refine AW_iconst dJx4a65c_add_9ea2d_5 ?_
      refine AW_iadd dJx4a65c_add_9ea2d_6 ?_
      refine AW_putI dJx4a65c_add_9ea2d_7 (Or.inl pfJx4a65c_63) hl ?_
      refine AW_aload_n dJx4a65c_add_9ea2d_10 rfl ?_
      refine AW_aload_n dJx4a65c_add_9ea2d_11 rfl ?_
      refine AW_aload_n dJx4a65c_add_9ea2d_12 rfl ?_
      refine AW_getR (a := ea) dJx4a65c_add_9ea2d_13 gfJx4a65c_9 hl q1 ?_
      refine AW_aload_n dJx4a65c_add_9ea2d_16 rfl ?_
      refine AW_getI dJx4a65c_add_9ea2d_17 gfJx4a65c_48 hl ?_
      rw [up_j _ _ _ (by decide), hn]
      refine AW_callVb3 (d' := d - 1) dJx4a65c_add_9ea2d_20 (Or.inl lkJx4a65c_131) mfJx4a65c_add_72be8 hl ⟨_, rfl, rfl⟩ (k_add3F (σ := upI σ lc 0 (wr (σ.2.1 lc 0 + 1))) (by omega) h16 hl q1 (by rw [up_j _ _ _ (by decide)]; exact hn) q2 (by unfold capN at q4; omega) (fun i hi => Or.inr (q5 i hi)) hv hco) (by omega) (Nat.le_of_ble_eq_true rfl) ?_
      rintro _ _ ⟨rfl, rfl⟩ -
      refine AW_iconst dJx4a65c_add_9ea2d_23 ?_
      refine AW_zret dJx4a65c_add_9ea2d_24 rfl (by decide) ?_
      exact ⟨rfl, addP_F h16 hl q1 q2 (by unfold capN at q4; omega) _⟩
    · refine AW_up (bc := 0) (bs := 0) (by omega) (by omega) ?_
      refine AW_aload_n dJx4a65c_add_9ea2d_0 rfl ?_
      refine AW_dup dJx4a65c_add_9ea2d_1 ?_
      refine AW_getI dJx4a65c_add_9ea2d_2 gfJx4a65c_63 hl ?_
      refine AW_iconst dJx4a65c_add_9ea2d_5 ?_
      refine AW_iadd dJx4a65c_add_9ea2d_6 ?_
      refine AW_putI dJx4a65c_add_9ea2d_7 (Or.inl pfJx4a65c_63) hl ?_
      refine AW_aload_n dJx4a65c_add_9ea2d_10 rfl ?_
      refine AW_aload_n dJx4a65c_add_9ea2d_11 rfl ?_
      refine AW_aload_n dJx4a65c_add_9ea2d_12 rfl ?_
      refine AW_getR (a := ea) dJx4a65c_add_9ea2d_13 gfJx4a65c_9 hl q1 ?_
      refine AW_aload_n dJx4a65c_add_9ea2d_16 rfl ?_
      refine AW_getI dJx4a65c_add_9ea2d_17 gfJx4a65c_48 hl ?_
      rw [up_j _ _ _ (by decide), hn]
      refine AW_callV3 (d' := d - 1) dJx4a65c_add_9ea2d_20 (Or.inl lkJx4a65c_131) mfJx4a65c_add_72be8 hl ⟨_, rfl, rfl⟩ (k_add3N (σ := upI σ lc 0 (wr (σ.2.1 lc 0 + 1))) hl q2 (by omega) (by unfold capN at q4; omega) hv hco) (by omega) (Nat.le_of_ble_eq_true rfl) ?_
      rintro _ _ ⟨rfl, rfl⟩ -
      refine AW_iconst dJx4a65c_add_9ea2d_23 ?_
      refine AW_zret dJx4a65c_add_9ea2d_24 rfl (by decide) ?_
      exact ⟨rfl, addP_N hl q1 q2 (by omega) q4 _⟩
