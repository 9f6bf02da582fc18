theorem i_ac {G : Gt} {d : Nat} {σ : St} (hd : 1 ≤ d) {r : Nat} (hr : 16 ≤ r) : AM mJxa1e45_init_da8c8 G d 0 0 [vR r] σ (fun ro ρ => ro = none ∧ ρ = σ) := by
  refine AM.intro (by decide +kernel) (by simp [nLg]) (Nat.le_of_ble_eq_true rfl) (fun hO => ?_)
  show AW _ _ _ _ _ _ 0 [some (vR r)] [] σ
  refine AW_aload_n dJxa1e45_init_da8c8_0 rfl ?_
  refine AW_objInit dJxa1e45_init_da8c8_1 oiJxa1e45 hr (by omega) (Nat.le_of_ble_eq_true rfl) ?_
  refine AW_vret dJxa1e45_init_da8c8_4 rfl ?_
  exact ⟨rfl, rfl⟩
theorem i_al {G : Gt} {d : Nat} {σ : St} (hd : 2 ≤ d) {r : Nat} (hk : Cel σ r (13, 3)) : AM mJxc12de_init_da8c8 G d 0 0 [vR r] σ (fun ro ρ => ro = none ∧ ρ = upI σ r 0 0) := by
  refine AM.intro (by decide +kernel) (by simp [nLg]) (Nat.le_of_ble_eq_true rfl) (fun hO => ?_)
  show AW _ _ _ _ _ _ 0 [some (vR r)] [] σ
  refine AW_aload_n dJxc12de_init_da8c8_0 rfl ?_
  refine AW_callI0 (d' := d - 1) dJxc12de_init_da8c8_1 (Or.inl lkJxc12de_1) mfJxa1e45_init_da8c8 hk.1 (i_ac (by omega) hk.1) (by omega) (Nat.le_of_ble_eq_true rfl) ?_
  rintro _ _ ⟨rfl, rfl⟩ -
  refine AW_aload_n dJxc12de_init_da8c8_4 rfl ?_
  refine AW_iconst dJxc12de_init_da8c8_5 ?_
  refine AW_putI dJxc12de_init_da8c8_6 (Or.inl pfJxc12de_7) hk ?_
  refine AW_vret dJxc12de_init_da8c8_9 rfl ?_
  exact ⟨rfl, rfl⟩
theorem i_alist {G : Gt} {d : Nat} {σ : St} (hd : 3 ≤ d) {r : Nat} (hk : Cel σ r (13, 3)) : AM mJx4a65c_init_da8c8 G d 0 0 [vR r] σ (fun ro ρ => ro = none ∧ ρ = upR (upI σ r 0 0) r 1 3) := by
  refine AM.intro (by decide +kernel) (by simp [nLg]) (Nat.le_of_ble_eq_true rfl) (fun hO => ?_)
  show AW _ _ _ _ _ _ 0 [some (vR r)] [] σ
  refine AW_aload_n dJx4a65c_init_da8c8_0 rfl ?_
  refine AW_callI0 (d' := d - 1) dJx4a65c_init_da8c8_1 (Or.inl lkJx4a65c_1) mfJxc12de_init_da8c8 hk.1 (i_al (by omega) hk) (by omega) (Nat.le_of_ble_eq_true rfl) ?_
  rintro _ _ ⟨rfl, rfl⟩ -
  refine AW_aload_n dJx4a65c_init_da8c8_4 rfl ?_
  refine AW_gst (e := 3) dJx4a65c_init_da8c8_5 gs_AL kn_AL (by decide) (by decide) ?_
  refine AW_putR dJx4a65c_init_da8c8_8 (Or.inl pfJx4a65c_9) hk ?_
  refine AW_vret dJx4a65c_init_da8c8_11 rfl ?_
  exact ⟨rfl, rfl⟩
def adE (σ : St) (lc v n : Nat) (x : Int) : St := upI (upR (upR (nwC (upI σ lc 0 x) (23, 10)) lc 1 n) n 0 v) lc 2 1
def adN (σ : St) (lc ea v n : Nat) (x : Int) : St := upI (upR (upI σ lc 0 x) ea n v) lc 2 ((n : Int) + 1)
theorem k_addE {G : Gt} {d : Nat} {σ : St} (hd : 6 ≤ d) {lc n : Nat} {x : Int} (hx : wr (σ.2.1 lc 0 + 1) = x) (hn0 : σ.2.2.2 = n) (h16 : 16 ≤ σ.2.2.2) (hl : Cel σ lc (13, 3)) (hn : σ.2.1 lc 2 = 0) (h3 : σ.2.2.1 lc 1 = 3) {v ci Nv : Nat} (hv : Cel σ v (ci, Nv)) (hco : CO ci) : AM mJx4a65c_add_9ea2d G d 1 49 [vR lc, vR v] σ (fun ro ρ => ro = some (vI 1) ∧ ρ = adE σ lc v n x) := by
  subst hn0
  subst hx
  refine AM.intro (by decide +kernel) (by simp [nLg]) (Nat.le_of_ble_eq_true rfl) (fun hO => ?_)
  show AW _ _ _ _ _ _ 0 [some (vR lc), some (vR v)] [] σ
  refine AW_up (bc := 0 + 1) (bs := 0 + 49) (by omega) (by omega) ?_
  refine AW_aload_n dJx4a65c_add_9ea2d_0 rfl ?_
  refine AW_dup dJx4a65c_add_9ea2d_1 ?_
  refine AW_getI dJx4a65c_add_9ea2d_2 gfJx4a65c_63 hl ?_
  refine AW_iconst dJx4a65c_add_9ea2d_5 ?_
  refine AW_iadd dJx4a65c_add_9ea2d_6 ?_
  refine AW_putI dJx4a65c_add_9ea2d_7 (Or.inl pfJx4a65c_63) hl ?_
  refine AW_aload_n dJx4a65c_add_9ea2d_10 rfl ?_
  refine AW_aload_n dJx4a65c_add_9ea2d_11 rfl ?_
  refine AW_aload_n dJx4a65c_add_9ea2d_12 rfl ?_
  refine AW_getR (a := 3) dJx4a65c_add_9ea2d_13 gfJx4a65c_9 hl h3 ?_
  refine AW_aload_n dJx4a65c_add_9ea2d_16 rfl ?_
  refine AW_getI dJx4a65c_add_9ea2d_17 gfJx4a65c_48 hl ?_
  rw [up_j _ _ _ (by decide), hn]
  refine AW_callVb3 (d' := d - 1) dJx4a65c_add_9ea2d_20 (Or.inl lkJx4a65c_131) mfJx4a65c_add_72be8 hl ⟨_, rfl, rfl⟩ (k_add3E (σ := upI σ lc 0 (wr (σ.2.1 lc 0 + 1))) (by omega) h16 hl h3 (by rw [up_j _ _ _ (by decide)]; exact hn) hv hco) (by omega) (Nat.le_of_ble_eq_true rfl) ?_
  rintro _ _ ⟨rfl, rfl⟩ -
  refine AW_iconst dJx4a65c_add_9ea2d_23 ?_
  refine AW_zret dJx4a65c_add_9ea2d_24 rfl (by decide) ?_
  exact ⟨rfl, rfl⟩
theorem k_addN {G : Gt} {d : Nat} {σ : St} (hd : 6 ≤ d) {lc n ea N : Nat} {x : Int} (hx : wr (σ.2.1 lc 0 + 1) = x) (hl : Cel σ lc (13, 3)) (hn : σ.2.1 lc 2 = n) (q1 : σ.2.2.1 lc 1 = ea) (q2 : Cel σ ea (23, N)) (hlt : n < N) (hN : N ≤ 49) {v ci Nv : Nat} (hv : Cel σ v (ci, Nv)) (hco : CO ci) : AM mJx4a65c_add_9ea2d G d 0 0 [vR lc, vR v] σ (fun ro ρ => ro = some (vI 1) ∧ ρ = adN σ lc ea v n x) := by
  subst hx
  refine AM.intro (by decide +kernel) (by simp [nLg]) (Nat.le_of_ble_eq_true rfl) (fun hO => ?_)
  show AW _ _ _ _ _ _ 0 [some (vR lc), some (vR v)] [] σ
  refine AW_aload_n dJx4a65c_add_9ea2d_0 rfl ?_
  refine AW_dup dJx4a65c_add_9ea2d_1 ?_
  refine AW_getI dJx4a65c_add_9ea2d_2 gfJx4a65c_63 hl ?_
  refine AW_iconst dJx4a65c_add_9ea2d_5 ?_
  refine AW_iadd dJx4a65c_add_9ea2d_6 ?_
  refine AW_putI dJx4a65c_add_9ea2d_7 (Or.inl pfJx4a65c_63) hl ?_
  refine AW_aload_n dJx4a65c_add_9ea2d_10 rfl ?_
  refine AW_aload_n dJx4a65c_add_9ea2d_11 rfl ?_
  refine AW_aload_n dJx4a65c_add_9ea2d_12 rfl ?_
  refine AW_getR (a := ea) dJx4a65c_add_9ea2d_13 gfJx4a65c_9 hl q1 ?_
  refine AW_aload_n dJx4a65c_add_9ea2d_16 rfl ?_
  refine AW_getI dJx4a65c_add_9ea2d_17 gfJx4a65c_48 hl ?_
  rw [up_j _ _ _ (by decide), hn]
  refine AW_callV3 (d' := d - 1) dJx4a65c_add_9ea2d_20 (Or.inl lkJx4a65c_131) mfJx4a65c_add_72be8 hl ⟨_, rfl, rfl⟩ (k_add3N (σ := upI σ lc 0 (wr (σ.2.1 lc 0 + 1))) hl q2 hlt hN hv hco) (by omega) (Nat.le_of_ble_eq_true rfl) ?_
  rintro _ _ ⟨rfl, rfl⟩ -
  refine AW_iconst dJx4a65c_add_9ea2d_23 ?_
  refine AW_zret dJx4a65c_add_9ea2d_24 rfl (by decide) ?_
  exact ⟨rfl, rfl⟩
