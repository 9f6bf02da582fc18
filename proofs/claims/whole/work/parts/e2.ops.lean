theorem x_pairing0 {G : Gt} {d : Nat} {σ : St} (hd : 2 ≤ d) {hc N n : Nat} {K : Nat → Int} (hS : Sta σ) (hE : FeC hc N n K σ) (which k : Int) (hg : ¬ (0 ≤ which ∧ (k = -1 ∨ 0 ≤ k ∧ k < n))) : AM mX11_pairing G d 0 0 [vR 16, vI which, vI k] σ (fun ro ρ => ro = some (vI (-1)) ∧ ρ = σ) := by
  refine AM.intro (by decide +kernel) (by simp [nLg]) (Nat.le_of_ble_eq_true rfl) (fun hO => ?_)
  have i_which : -2147483648 ≤ which ∧ which < 2147483648 := hO (vI which) (by simp)
  have i_k : -2147483648 ≤ k ∧ k < 2147483648 := hO (vI k) (by simp)
  show AW _ _ _ _ _ _ 0 [some (vR 16), some (vI which), some (vI k), none] [] σ
  refine AW_iload_n dX11_pairing_0 rfl ?_
  refine AW_if_lt (tgt := 20) dX11_pairing_1 (by decide) (fun c_1 => ?_) (fun c_1 => ?_)
  · skip
    refine AW_iconst dX11_pairing_20 ?_
    refine AW_iret dX11_pairing_21 rfl ?_
    exact ⟨rfl, rfl⟩
  · skip
    refine AW_iload_n dX11_pairing_4 rfl ?_
    refine AW_iconst dX11_pairing_5 ?_
    refine AW_icmp_eq (tgt := 22) dX11_pairing_6 (by decide) (fun c_6 => ?_) (fun c_6 => ?_)
    · skip
      exfalso
      omega
    · skip
      refine AW_aload_n dX11_pairing_9 rfl ?_
      refine AW_getR (a := 85) dX11_pairing_10 gfX11_60 (hS.cel rfl) (hS.rf rfl) ?_
      refine AW_iload_n dX11_pairing_13 rfl ?_
      refine AW_callV1 (d' := d - 1) dX11_pairing_14 (Or.inl lkX11_194) mfX0_isGuest (hS.cel rfl) ⟨_, rfl, rfl⟩ (k_isGuest hS hE.1 k) (by omega) (Nat.le_of_ble_eq_true rfl) ?_
      rintro _ _ ⟨e_, rfl⟩ -
      rw [e_]
      clear e_
      refine AW_if_ne (tgt := 22) dX11_pairing_17 (by decide) (fun c_17 => ?_) (fun c_17 => ?_)
      · skip
        replace c_17 := bz1 c_17
        exfalso
        omega
      · skip
        replace c_17 := bz0 c_17
        refine AW_iconst dX11_pairing_20 ?_
        refine AW_iret dX11_pairing_21 rfl ?_
        exact ⟨rfl, rfl⟩
theorem x_sums0 {G : Gt} {d : Nat} {σ : St} (hd : 2 ≤ d) {hc N n : Nat} {K : Nat → Int} (hS : Sta σ) (hE : FeC hc N n K σ) (k what : Int) (hg : ¬ ((0 ≤ what ∧ what ≤ 2) ∧ (what ≤ 0 ∨ 0 ≤ k ∧ k < n))) : AM mX11_sums G d 0 0 [vR 16, vI k, vI what] σ (fun ro ρ => ro = some (vI (-1)) ∧ ρ = σ) := by
  refine AM.intro (by decide +kernel) (by simp [nLg]) (Nat.le_of_ble_eq_true rfl) (fun hO => ?_)
  have i_k : -2147483648 ≤ k ∧ k < 2147483648 := hO (vI k) (by simp)
  have i_what : -2147483648 ≤ what ∧ what < 2147483648 := hO (vI what) (by simp)
  show AW _ _ _ _ _ _ 0 [some (vR 16), some (vI k), some (vI what)] [] σ
  refine AW_iload_n dX11_sums_0 rfl ?_
  refine AW_if_lt (tgt := 24) dX11_sums_1 (by decide) (fun c_1 => ?_) (fun c_1 => ?_)
  · skip
    refine AW_iconst dX11_sums_24 ?_
    refine AW_iret dX11_sums_25 rfl ?_
    exact ⟨rfl, rfl⟩
  · skip
    refine AW_iload_n dX11_sums_4 rfl ?_
    refine AW_iconst dX11_sums_5 ?_
    refine AW_icmp_gt (tgt := 24) dX11_sums_6 (by decide) (fun c_6 => ?_) (fun c_6 => ?_)
    · skip
      refine AW_iconst dX11_sums_24 ?_
      refine AW_iret dX11_sums_25 rfl ?_
      exact ⟨rfl, rfl⟩
    · skip
      refine AW_iload_n dX11_sums_9 rfl ?_
      refine AW_if_le (tgt := 26) dX11_sums_10 (by decide) (fun c_10 => ?_) (fun c_10 => ?_)
      · skip
        exfalso
        omega
      · skip
        refine AW_aload_n dX11_sums_13 rfl ?_
        refine AW_getR (a := 85) dX11_sums_14 gfX11_60 (hS.cel rfl) (hS.rf rfl) ?_
        refine AW_iload_n dX11_sums_17 rfl ?_
        refine AW_callV1 (d' := d - 1) dX11_sums_18 (Or.inl lkX11_194) mfX0_isGuest (hS.cel rfl) ⟨_, rfl, rfl⟩ (k_isGuest hS hE.1 k) (by omega) (Nat.le_of_ble_eq_true rfl) ?_
        rintro _ _ ⟨e_, rfl⟩ -
        rw [e_]
        clear e_
        refine AW_if_ne (tgt := 26) dX11_sums_21 (by decide) (fun c_21 => ?_) (fun c_21 => ?_)
        · skip
          replace c_21 := bz1 c_21
          exfalso
          omega
        · skip
          replace c_21 := bz0 c_21
          refine AW_iconst dX11_sums_24 ?_
          refine AW_iret dX11_sums_25 rfl ?_
          exact ⟨rfl, rfl⟩
section OPS
variable {D : Mk} {nt : Nat} {B : Nat → Int} {Ws : Nat → Wy} {np : Nat} {pc : Nat → Nat} {w : Tw} {hc N nf : Nat} {K Q : Nat → Int} {σ ρ τ : St} {v : Nat}
theorem inv0 (h : Ivl v N σ) (hF : Fm [0] [] σ τ) : Ivl (v + 1) N τ := by
  obtain ⟨hG, D, nt, B, Ws, np, pc, w, hc, nf, K, Q, hP, hC, hM⟩ := h
  exact ⟨hG.up.fm hF, D, nt, B, Ws, np, pc, w, hc, nf, K, Q, hP, hC.fm hF, hM.m0 hF⟩
theorem rk_bump {D' : Mk} (h : rkC D σ) (e : ρ.2.1 23 3 = σ.2.1 23 3) (hv : ρ.2.1 17 5 = σ.2.1 17 5 + 1) : rkC D' ρ := by
  have := h.1
  exact ⟨by omega, fun q => by omega⟩
theorem wt_bump {D' : Mk} (h : wtC D σ) (e : ρ.2.1 26 3 = σ.2.1 26 3) (hv : ρ.2.1 17 5 = σ.2.1 17 5 + 1) : wtC D' ρ := by
  have := h.1
  exact ⟨by omega, fun q => by omega⟩
/-- the market is told anew: the class's side -/
theorem mk_c {D' : Mk} {L : List Nat} (hG : Ig v σ) (hC : IC D nt B Ws np pc w hc N nf K Q σ) (hM : IM D nt B Ws np w nf K Q σ) (hF : Fr L σ ρ) (hR : RepC D' ρ) (hver : ρ.2.1 17 5 = σ.2.1 17 5 + 1) (hL : ∀ r, r ∈ L → 17 ≤ r ∧ r ≤ 22 := by decide) : Ig (v + 1) ρ ∧ IC D' nt B Ws np pc w hc N nf K Q ρ ∧ IM D nt B Ws np w nf K Q ρ := by
  have hu := hF.u
  have hn : ∀ r, 22 < r → r ∉ L := fun r hr q => by have := hL _ q; omega
  obtain ⟨g1, g2, g3, g4⟩ := hG
  obtain ⟨c1, c2, c3, c4, c5, c6, c7, c8, c9⟩ := hC
  refine ⟨⟨hF.sta g1, by omega, ?_, ?_⟩, ⟨hR, rk_bump c2 (hu.v 23 3 (hn _ (by decide))) hver, wt_bump c3 (hu.v 26 3 (hn _ (by decide))) hver, c4.u hu (hn _ (by decide)) (hn _ (by decide)), (hu.v 45 2 (hn _ (by decide))).trans c5, fun k hk => (c6 k hk).u hu hk (fun r q => by have := hL _ q; omega), c7.fr hF (fun r q => by have := hL _ q; omega), c8.k hF (fun r q => by have := hL _ q; omega), c9.u hu (hn _ (by decide))⟩, hM.u hu (fun r q => by have := hL _ q; omega)⟩
  · rw [hu.v 34 4 (hn _ (by decide)), hu.v 94 40 (hn _ (by decide))]
    exact g3
  · rw [hu.v 34 5 (hn _ (by decide)), hu.v 94 41 (hn _ (by decide))]
    exact g4
/-- the market is told anew: the model's side -/
theorem mk_m {D' : Mk} {fs L : List Nat} (hG : Ig v ρ) (hP : IP D' Ws np w) (hC : IC D' nt B Ws np pc w hc N nf K Q ρ) (hM : IM D nt B Ws np w nf K Q ρ) (hF : Fm fs L ρ τ) (hR : RepM D' τ) (h18 : τ.2.1 94 18 = 0) (hf : ∀ j, j ∈ fs → j < 19 := by decide) (hL : ∀ r, r ∈ L → 95 ≤ r ∧ r ≤ 98 := by decide) : Ivl v N τ := by
  have hL2 : ∀ r, r ∈ 94 :: L → r ≤ 98 := fun r q => by
    rcases List.mem_cons.mp q with q | q
    · omega
    · have := hL _ q
      omega
  have hn : ∀ r, 98 < r → r ∉ 94 :: L := fun r hr q => by have := hL2 _ q; omega
  have hj : ∀ j, 18 < j → j ∉ fs := fun j hr q => by have := hf _ q; omega
  obtain ⟨m1, m2, m3, m4, m5, m6, m7, m8⟩ := hM
  refine inv_of (hG.fm hF (hj _ (by decide)) (hj _ (by decide)) (fun r q => (hL r q).1)) hP hC hF ⟨hR, Or.inl h18, m3.fm hF (hj _ (by decide)) (hn _ (by decide)), m4.fm hF (hn _ (by decide)), fun k hk => (m5 k hk).fm hF (fun r q => by have := hL2 _ q; omega), m6.fm hF (fun j q => by have := hf _ q; omega) (fun r q => by have := hL2 _ q; omega), m7.fm hF (hj _ (by decide)) (hj _ (by decide)) (hj _ (by decide)) (hj _ (by decide)) (hj _ (by decide)) (hn _ (by decide)) (hn _ (by decide)) (hn _ (by decide)) (hn _ (by decide)), m8.fm hF (hn _ (by decide))⟩ (fun r q => by have := hL _ q; omega)
end OPS
theorem o_sorts {G : Gt} {d : Nat} {σ : St} {v N : Nat} (hd : 60 ≤ d) (hv : v < 600) (hI : Ivl v N σ) (a b : Int) : Op mX11_sorts mX12_sorts G d [vI a, vI b] v N σ := by
  have hI0 := hI
  have hN := hI.cap
  obtain ⟨hG, D, nt, B, Ws, np, pc, w, hc, nf, K, Q, hP, hC, hM⟩ := hI
  have hP0 := hP
  obtain ⟨p1, p3, p4, p5⟩ := hP
  have hC0 := hC
  have hM0 := hM
  obtain ⟨c1, c2, c3, c4, c5, c6, c7, c8, c9⟩ := hC
  obtain ⟨m1, m2, m3, m4, m5, m6, m7, m8⟩ := hM
  have hS := hG.1
  have hV := hG.2.1
  refine ⟨0, 0, N, by omega, by omega, hN.2, AM_mono ?_ (x_sorts (by omega) hS c1 p1 ⟨hV.1, by omega⟩ a b)⟩
  have e46 := c7.1.1.1
  have e42 := m6.2.1
  rw [e46]
  rintro ro ρ (⟨hn, rfl, rfl⟩ | ⟨hy, rfl, hR, hver, hF⟩)
  · refine ⟨hS, 0, rfl, AM_mono ?_ (m_sorts (by omega) hS m1 p1 a b)⟩
    rw [e42]
    rintro ro ρ' (⟨-, rfl, hF2⟩ | ⟨hy, -⟩)
    · exact ⟨rfl, inv0 hI0 hF2⟩
    · exact absurd hy hn
  · obtain ⟨hG1, hC1, hM1⟩ := mk_c hG hC0 hM0 hF hR hver
    refine ⟨hG1.1, 1, rfl, AM_mono ?_ (m_sorts (by omega) hG1.1 hM1.1 p1 a b)⟩
    rw [hM1.2.2.2.2.2.1.2.1]
    rintro ro ρ' (⟨hn, -⟩ | ⟨-, rfl, hR2, h18, hF2⟩)
    · exact absurd hy hn
    · exact ⟨rfl, mk_m hG1 ⟨WFm_sorts p1 (by omega) ⟨hy.2.1, hy.2.2.1⟩, p3, p4.d0 (by omega), p5⟩ hC1 hM1 hF2 hR2 h18⟩
theorem o_look {G : Gt} {d : Nat} {σ : St} {v N : Nat} (hd : 60 ≤ d) (hv : v < 600) (hI : Ivl v N σ) (a b c e : Int) : Op mX11_look mX12_look G d [vI a, vI b, vI c, vI e] v N σ := by
  have hI0 := hI
  have hN := hI.cap
  obtain ⟨hG, D, nt, B, Ws, np, pc, w, hc, nf, K, Q, hP, hC, hM⟩ := hI
  have hP0 := hP
  obtain ⟨p1, p3, p4, p5⟩ := hP
  have hC0 := hC
  have hM0 := hM
  obtain ⟨c1, c2, c3, c4, c5, c6, c7, c8, c9⟩ := hC
  obtain ⟨m1, m2, m3, m4, m5, m6, m7, m8⟩ := hM
  have hS := hG.1
  have hV := hG.2.1
  refine ⟨0, 0, N, by omega, by omega, hN.2, AM_mono ?_ (x_look (by omega) hS c1 p1 ⟨hV.1, by omega⟩ a b c e)⟩
  rintro ro ρ (⟨hn, rfl, rfl⟩ | ⟨hy, rfl, hR, hver, hF⟩)
  · refine ⟨hS, 0, rfl, AM_mono ?_ (m_look (by omega) hS m1 p1 a b c e)⟩
    rintro ro ρ' (⟨-, rfl, hF2⟩ | ⟨hy, -⟩)
    · exact ⟨rfl, inv0 hI0 hF2⟩
    · exact absurd hy hn
  · obtain ⟨hG1, hC1, hM1⟩ := mk_c hG hC0 hM0 hF hR hver
    refine ⟨hG1.1, 1, rfl, AM_mono ?_ (m_look (by omega) hG1.1 hM1.1 p1 a b c e)⟩
    rintro ro ρ' (⟨hn, -⟩ | ⟨-, rfl, hR2, h18, hF2⟩)
    · exact absurd hy hn
    · exact ⟨rfl, mk_m hG1 ⟨WFm_look p1 (by omega) (by omega) ⟨hy.2.1, hy.2.2.1⟩ ⟨hy.2.2.2.1, hy.2.2.2.2.1⟩ hy.2.2.2.2.2, p3, p4.dm (fun _ => rfl), p5⟩ hC1 hM1 hF2 hR2 h18⟩
theorem o_worth {G : Gt} {d : Nat} {σ : St} {v N : Nat} (hd : 60 ≤ d) (hv : v < 600) (hI : Ivl v N σ) (a b c e : Int) : Op mX11_worth mX12_worth G d [vI a, vI b, vI c, vI e] v N σ := by
  have hI0 := hI
  have hN := hI.cap
  obtain ⟨hG, D, nt, B, Ws, np, pc, w, hc, nf, K, Q, hP, hC, hM⟩ := hI
  have hP0 := hP
  obtain ⟨p1, p3, p4, p5⟩ := hP
  have hC0 := hC
  have hM0 := hM
  obtain ⟨c1, c2, c3, c4, c5, c6, c7, c8, c9⟩ := hC
  obtain ⟨m1, m2, m3, m4, m5, m6, m7, m8⟩ := hM
  have hS := hG.1
  have hV := hG.2.1
  refine ⟨0, 0, N, by omega, by omega, hN.2, AM_mono ?_ (x_worth (by omega) hS c1 p1 ⟨hV.1, by omega⟩ a b c e)⟩
  rintro ro ρ (⟨hn, rfl, rfl⟩ | ⟨hy, rfl, hR, hver, hF⟩)
  · refine ⟨hS, 0, rfl, AM_mono ?_ (m_worth (by omega) hS m1 p1 a b c e)⟩
    rintro ro ρ' (⟨-, rfl, hF2⟩ | ⟨hy, -⟩)
    · exact ⟨rfl, inv0 hI0 hF2⟩
    · exact absurd hy hn
  · obtain ⟨hG1, hC1, hM1⟩ := mk_c hG hC0 hM0 hF hR hver
    refine ⟨hG1.1, 1, rfl, AM_mono ?_ (m_worth (by omega) hG1.1 hM1.1 p1 a b c e)⟩
    rintro ro ρ' (⟨hn, -⟩ | ⟨-, rfl, hR2, h18, hF2⟩)
    · exact absurd hy hn
    · exact ⟨rfl, mk_m hG1 ⟨WFm_put3 p1 hy.2, p3, p4.dm (fun _ => dPut_ne (by decide)), p5⟩ hC1 hM1 hF2 hR2 h18⟩
theorem o_set {G : Gt} {d : Nat} {σ : St} {v N : Nat} (hd : 60 ≤ d) (hv : v < 600) (hI : Ivl v N σ) (a b : Int) : Op mX11_set mX12_set G d [vI a, vI b] v N σ := by
  have hI0 := hI
  have hN := hI.cap
  obtain ⟨hG, D, nt, B, Ws, np, pc, w, hc, nf, K, Q, hP, hC, hM⟩ := hI
  have hP0 := hP
  obtain ⟨p1, p3, p4, p5⟩ := hP
  have hC0 := hC
  have hM0 := hM
  obtain ⟨c1, c2, c3, c4, c5, c6, c7, c8, c9⟩ := hC
  obtain ⟨m1, m2, m3, m4, m5, m6, m7, m8⟩ := hM
  have hS := hG.1
  have hV := hG.2.1
  refine ⟨0, 0, N, by omega, by omega, hN.2, AM_mono ?_ (x_set (by omega) hS c1 p1 ⟨hV.1, by omega⟩ a b)⟩
  rintro ro ρ (⟨hn, rfl, rfl⟩ | ⟨hy, rfl, hR, hver, hF⟩)
  · refine ⟨hS, 0, rfl, AM_mono ?_ (m_set (by omega) hS m1 p1 a b)⟩
    rintro ro ρ' (⟨-, rfl, hF2⟩ | ⟨hy, -⟩)
    · exact ⟨rfl, inv0 hI0 hF2⟩
    · exact absurd hy hn
  · obtain ⟨hG1, hC1, hM1⟩ := mk_c hG hC0 hM0 hF hR hver
    refine ⟨hG1.1, 1, rfl, AM_mono ?_ (m_set (by omega) hG1.1 hM1.1 p1 a b)⟩
    rintro ro ρ' (⟨hn, -⟩ | ⟨-, rfl, hR2, h18, hF2⟩)
    · exact absurd hy hn
    · exact ⟨rfl, mk_m hG1 ⟨WFm_put4 p1 (by omega) hy.2.2, p3, p4.dm (fun _ => dPut_ne (by decide)), p5⟩ hC1 hM1 hF2 hR2 h18⟩
theorem o_classes {G : Gt} {d : Nat} {σ : St} {v N : Nat} (hd : 60 ≤ d) (hv : v < 600) (hI : Ivl v N σ) (a b : Int) : Op mX11_classes mX12_classes G d [vI a, vI b] v N σ := by
  have hI0 := hI
  have hN := hI.cap
  obtain ⟨hG, D, nt, B, Ws, np, pc, w, hc, nf, K, Q, hP, hC, hM⟩ := hI
  have hP0 := hP
  obtain ⟨p1, p3, p4, p5⟩ := hP
  have hC0 := hC
  have hM0 := hM
  obtain ⟨c1, c2, c3, c4, c5, c6, c7, c8, c9⟩ := hC
  obtain ⟨m1, m2, m3, m4, m5, m6, m7, m8⟩ := hM
  have hS := hG.1
  have hV := hG.2.1
  refine ⟨0, 0, N, by omega, by omega, hN.2, AM_mono ?_ (x_classes (by omega) hS c1 p1 c2 a b)⟩
  rintro ro ρ ⟨z, rfl, hz, hK, hFo⟩
  have hF := hFo.1
  have hu := hF.u
  have hG1 := hG.up.u (hF.sta hS) hu
  have hM1 := hM0.u hu
  obtain ⟨m1, m2, m3, m4, m5, m6, m7, m8⟩ := hM1
  refine ⟨hG1.1, z, rfl, AM_mono ?_ (m_classes (by omega) hG1.1 m1 p1 a b)⟩
  rintro ro ρ' ⟨z2, rfl, hz2, hF2⟩
  exact ⟨by rw [clAns_one hz hz2], inv_of (hG1.fm hF2) hP0 ⟨c1.u hu, hK, c3.u hu, c4.u hu, (hu.v 45 2).trans c5, fun k hk => (c6 k hk).u hu hk, c7.fr hF, c8.k hF, c9.u hu⟩ hF2 ⟨m1.fm hF2, m2.fm hF2, m3.fm hF2, m4.fm hF2, fun k hk => (m5 k hk).fm hF2, m6.fm hF2, m7.fm hF2, m8.fm hF2⟩⟩
theorem o_patience {G : Gt} {d : Nat} {σ : St} {v N : Nat} (hd : 60 ≤ d) (hv : v < 600) (hI : Ivl v N σ) (a b c : Int) : Op mX11_patience mX12_patience G d [vI a, vI b, vI c] v N σ := by
  have hI0 := hI
  have hN := hI.cap
  obtain ⟨hG, D, nt, B, Ws, np, pc, w, hc, nf, K, Q, hP, hC, hM⟩ := hI
  have hP0 := hP
  obtain ⟨p1, p3, p4, p5⟩ := hP
  have hC0 := hC
  have hM0 := hM
  obtain ⟨c1, c2, c3, c4, c5, c6, c7, c8, c9⟩ := hC
  obtain ⟨m1, m2, m3, m4, m5, m6, m7, m8⟩ := hM
  have hS := hG.1
  have hV := hG.2.1
  refine ⟨0, 0, N, by omega, by omega, hN.2, AM_mono ?_ (x_patience (by omega) hS c1 p1 c3 a b c)⟩
  rintro ro ρ ⟨rfl, hK, hFo⟩
  have hF := hFo.1
  have hu := hF.u
  have hG1 := hG.up.u (hF.sta hS) hu
  have hM1 := hM0.u hu
  obtain ⟨m1, m2, m3, m4, m5, m6, m7, m8⟩ := hM1
  refine ⟨hG1.1, _, rfl, AM_mono ?_ (m_patience (by omega) hG1.1 m1 p1 m2 a b c)⟩
  rintro ro ρ' ⟨rfl, hK2, hF2⟩
  exact ⟨rfl, inv_of (hG1.fm hF2) hP0 ⟨c1.u hu, c2.u hu, hK, c4.u hu, (hu.v 45 2).trans c5, fun k hk => (c6 k hk).u hu hk, c7.fr hF, c8.k hF, c9.u hu⟩ hF2 ⟨m1.fm hF2, hK2, m3.fm hF2, m4.fm hF2, fun k hk => (m5 k hk).fm hF2, m6.fm hF2, m7.fm hF2, m8.fm hF2⟩⟩
theorem o_pairs {G : Gt} {d : Nat} {σ : St} {v N : Nat} (hd : 60 ≤ d) (hv : v < 600) (hI : Ivl v N σ) (a b c e : Int) : Op mX11_pairs mX12_pairs G d [vI a, vI b, vI c, vI e] v N σ := by
  have hI0 := hI
  have hN := hI.cap
  obtain ⟨hG, D, nt, B, Ws, np, pc, w, hc, nf, K, Q, hP, hC, hM⟩ := hI
  have hP0 := hP
  obtain ⟨p1, p3, p4, p5⟩ := hP
  have hC0 := hC
  have hM0 := hM
  obtain ⟨c1, c2, c3, c4, c5, c6, c7, c8, c9⟩ := hC
  obtain ⟨m1, m2, m3, m4, m5, m6, m7, m8⟩ := hM
  have hS := hG.1
  have hV := hG.2.1
  refine ⟨0, 0, N, by omega, by omega, hN.2, AM_mono ?_ (x_pairs (by omega) hS c1 p1 c3 a b c e)⟩
  rintro ro ρ ⟨z, rfl, hz, hK, hFo⟩
  have hF := hFo.1
  have hu := hF.u
  have hG1 := hG.up.u (hF.sta hS) hu
  have hM1 := hM0.u hu
  obtain ⟨m1, m2, m3, m4, m5, m6, m7, m8⟩ := hM1
  refine ⟨hG1.1, z, rfl, AM_mono ?_ (m_pairs (by omega) hG1.1 m1 p1 m2 a b c e)⟩
  rintro ro ρ' ⟨z2, rfl, hz2, hK2, hF2⟩
  exact ⟨by rw [prAns_one hz hz2], inv_of (hG1.fm hF2) hP0 ⟨c1.u hu, c2.u hu, hK, c4.u hu, (hu.v 45 2).trans c5, fun k hk => (c6 k hk).u hu hk, c7.fr hF, c8.k hF, c9.u hu⟩ hF2 ⟨m1.fm hF2, hK2, m3.fm hF2, m4.fm hF2, fun k hk => (m5 k hk).fm hF2, m6.fm hF2, m7.fm hF2, m8.fm hF2⟩⟩
theorem o_feed {G : Gt} {d : Nat} {σ : St} {v N : Nat} (hd : 60 ≤ d) (hv : v < 600) (hI : Ivl v N σ) (a b c e f : Int) : Op mX11_feed mX12_feed G d [vI a, vI b, vI c, vI e, vI f] v N σ := by
  have hI0 := hI
  have hN := hI.cap
  obtain ⟨hG, D, nt, B, Ws, np, pc, w, hc, nf, K, Q, hP, hC, hM⟩ := hI
  have hP0 := hP
  obtain ⟨p1, p3, p4, p5⟩ := hP
  have hC0 := hC
  have hM0 := hM
  obtain ⟨c1, c2, c3, c4, c5, c6, c7, c8, c9⟩ := hC
  obtain ⟨m1, m2, m3, m4, m5, m6, m7, m8⟩ := hM
  have hS := hG.1
  have hV := hG.2.1
  refine ⟨0, 0, N, by omega, by omega, hN.2, AM_mono ?_ (x_feed (by omega) hS c4 a b c e f)⟩
  rintro ro ρ (⟨hn, rfl, rfl⟩ | ⟨hy, rfl, hK, hFo⟩)
  · refine ⟨hS, _, rfl, AM_mono ?_ (m_feed (by omega) hS m3 a b c e f)⟩
    rintro ro ρ' (⟨-, rfl, hF2⟩ | ⟨hy, -⟩)
    · exact ⟨rfl, inv0 hI0 hF2⟩
    · exfalso
      omega
  · skip
    have hF := hFo.1
    have hu := hF.u
    have hG1 := hG.up.u (hF.sta hS) hu
    have hM1 := hM0.u hu
    obtain ⟨m1, m2, m3, m4, m5, m6, m7, m8⟩ := hM1
    refine ⟨hG1.1, _, rfl, AM_mono ?_ (m_feed (by omega) hG1.1 m3 a b c e f)⟩
    rintro ro ρ' (⟨hn, -⟩ | ⟨-, rfl, hK2, hF2⟩)
    · exfalso
      omega
    · exact ⟨rfl, inv_of (hG1.fm hF2) hP0 ⟨c1.u hu, c2.u hu, c3.u hu, hK, (hu.v 45 2).trans c5, fun k hk => (c6 k hk).u hu hk, c7.fr hF, c8.k hF, c9.u hu⟩ hF2 ⟨m1.fm hF2, m2.fm hF2, hK2, m4.fm hF2, fun k hk => (m5 k hk).fm hF2, m6.fm hF2, m7.fm hF2, m8.fm hF2⟩⟩
theorem o_end {G : Gt} {d : Nat} {σ : St} {v N : Nat} (hd : 60 ≤ d) (hv : v < 600) (hI : Ivl v N σ) (a : Int) : Op mX11_end mX12_end G d [vI a] v N σ := by
  have hI0 := hI
  have hN := hI.cap
  obtain ⟨hG, D, nt, B, Ws, np, pc, w, hc, nf, K, Q, hP, hC, hM⟩ := hI
  have hP0 := hP
  obtain ⟨p1, p3, p4, p5⟩ := hP
  have hC0 := hC
  have hM0 := hM
  obtain ⟨c1, c2, c3, c4, c5, c6, c7, c8, c9⟩ := hC
  obtain ⟨m1, m2, m3, m4, m5, m6, m7, m8⟩ := hM
  have hS := hG.1
  have hV := hG.2.1
  refine ⟨0, 0, N, by omega, by omega, hN.2, AM_mono ?_ (x_end (by omega) hS c4 a)⟩
  rintro ro ρ ⟨z, rfl, ⟨hn, rfl, rfl⟩ | ⟨hy, rfl, hK, hFo⟩⟩
  · refine ⟨hS, _, rfl, AM_mono ?_ (m_end (by omega) hS m3 a)⟩
    rintro ro ρ' ⟨z, rfl, ⟨-, rfl, hF2⟩ | ⟨hy, -⟩⟩
    · exact ⟨rfl, inv0 hI0 hF2⟩
    · exact absurd hy hn
  · skip
    have hF := hFo.1
    have hu := hF.u
    have hG1 := hG.up.u (hF.sta hS) hu
    have hM1 := hM0.u hu
    obtain ⟨m1, m2, m3, m4, m5, m6, m7, m8⟩ := hM1
    refine ⟨hG1.1, _, rfl, AM_mono ?_ (m_end (by omega) hG1.1 m3 a)⟩
    rintro ro ρ' ⟨z, rfl, ⟨hn, -⟩ | ⟨-, rfl, hK2, hF2⟩⟩
    · exact absurd hy hn
    · exact ⟨rfl, inv_of (hG1.fm hF2) hP0 ⟨c1.u hu, c2.u hu, c3.u hu, hK, (hu.v 45 2).trans c5, fun k hk => (c6 k hk).u hu hk, c7.fr hF, c8.k hF, c9.u hu⟩ hF2 ⟨m1.fm hF2, m2.fm hF2, hK2, m4.fm hF2, fun k hk => (m5 k hk).fm hF2, m6.fm hF2, m7.fm hF2, m8.fm hF2⟩⟩
theorem o_fault {G : Gt} {d : Nat} {σ : St} {v N : Nat} (hd : 60 ≤ d) (hv : v < 600) (hI : Ivl v N σ) (a : Int) : Op mX11_fault mX12_fault G d [vI a] v N σ := by
  have hI0 := hI
  have hN := hI.cap
  obtain ⟨hG, D, nt, B, Ws, np, pc, w, hc, nf, K, Q, hP, hC, hM⟩ := hI
  have hP0 := hP
  obtain ⟨p1, p3, p4, p5⟩ := hP
  have hC0 := hC
  have hM0 := hM
  obtain ⟨c1, c2, c3, c4, c5, c6, c7, c8, c9⟩ := hC
  obtain ⟨m1, m2, m3, m4, m5, m6, m7, m8⟩ := hM
  have hS := hG.1
  have hV := hG.2.1
  refine ⟨0, 0, N, by omega, by omega, hN.2, AM_mono ?_ (x_fault (by omega) hS a)⟩
  rintro ro ρ ⟨rfl, rfl⟩
  refine ⟨hS, _, rfl, AM_mono ?_ (m_fault hS a)⟩
  rintro ro ρ' ⟨hF2, rfl⟩
  exact ⟨by rw [hG.2.2.1, hG.2.2.2], inv0 hI0 hF2⟩
theorem o_all {G : Gt} {d : Nat} {σ : St} {v N : Nat} (hd : 60 ≤ d) (hv : v < 600) (hI : Ivl v N σ) (a b c : Int) : Op mX11_all mX12_all G d [vI a, vI b, vI c] v N σ := by
  have hI0 := hI
  have hN := hI.cap
  obtain ⟨hG, D, nt, B, Ws, np, pc, w, hc, nf, K, Q, hP, hC, hM⟩ := hI
  have hP0 := hP
  obtain ⟨p1, p3, p4, p5⟩ := hP
  have hC0 := hC
  have hM0 := hM
  obtain ⟨c1, c2, c3, c4, c5, c6, c7, c8, c9⟩ := hC
  obtain ⟨m1, m2, m3, m4, m5, m6, m7, m8⟩ := hM
  have hS := hG.1
  have hV := hG.2.1
  refine ⟨0, 0, N, by omega, by omega, hN.2, AM_mono ?_ (x_all (by omega) hS c7 c1 p4 a b c)⟩
  rintro ro ρ ⟨rfl, rfl⟩
  refine ⟨hS, _, rfl, AM_mono ?_ (m_all (by omega) hS m1 p1 m6 p4 a b c)⟩
  rintro ro ρ' ⟨hF2, rfl⟩
  exact ⟨rfl, inv0 hI0 hF2⟩
theorem o_town {G : Gt} {d : Nat} {σ : St} {v N : Nat} (hd : 60 ≤ d) (hv : v < 600) (hI : Ivl v N σ) (a : Int) : Op mX11_town mX12_town G d [vI a] v N σ := by
  have hI0 := hI
  have hN := hI.cap
  obtain ⟨hG, D, nt, B, Ws, np, pc, w, hc, nf, K, Q, hP, hC, hM⟩ := hI
  have hP0 := hP
  obtain ⟨p1, p3, p4, p5⟩ := hP
  have hC0 := hC
  have hM0 := hM
  obtain ⟨c1, c2, c3, c4, c5, c6, c7, c8, c9⟩ := hC
  obtain ⟨m1, m2, m3, m4, m5, m6, m7, m8⟩ := hM
  have hS := hG.1
  have hV := hG.2.1
  refine ⟨0, 0, N, by omega, by omega, hN.2, AM_mono ?_ (x_town (by omega) hS c7 p4 a)⟩
  rintro ro ρ ⟨rfl, rfl⟩
  refine ⟨hS, _, rfl, AM_mono ?_ (m_town (by omega) hS m6 p4 a)⟩
  rintro ro ρ' ⟨hF2, rfl⟩
  exact ⟨rfl, inv0 hI0 hF2⟩
theorem o_state {G : Gt} {d : Nat} {σ : St} {v N : Nat} (hd : 60 ≤ d) (hv : v < 600) (hI : Ivl v N σ) (a : Int) : Op mX11_state mX12_state G d [vI a] v N σ := by
  have hI0 := hI
  have hN := hI.cap
  obtain ⟨hG, D, nt, B, Ws, np, pc, w, hc, nf, K, Q, hP, hC, hM⟩ := hI
  have hP0 := hP
  obtain ⟨p1, p3, p4, p5⟩ := hP
  have hC0 := hC
  have hM0 := hM
  obtain ⟨c1, c2, c3, c4, c5, c6, c7, c8, c9⟩ := hC
  obtain ⟨m1, m2, m3, m4, m5, m6, m7, m8⟩ := hM
  have hS := hG.1
  have hV := hG.2.1
  refine ⟨0, 0, N, by omega, by omega, hN.2, AM_mono ?_ (x_state (by omega) hS c7 a)⟩
  rintro ro ρ ⟨rfl, hK, hF⟩
  have hu := hF.u
  have hG1 := hG.up.u (hF.sta hS) hu
  have hM1 := hM0.u hu
  obtain ⟨m1, m2, m3, m4, m5, m6, m7, m8⟩ := hM1
  refine ⟨hG1.1, _, rfl, AM_mono ?_ (m_state hG1.1 m6 a)⟩
  rintro ro ρ' ⟨rfl, hK2, hF2⟩
  exact ⟨rfl, inv_of (w := (w.1, w.2.1, a)) (hG1.fm hF2) ⟨p1, p3, p4, p5⟩ ⟨c1.u hu, c2.u hu, c3.u hu, c4.u hu, (hu.v 45 2).trans c5, fun k hk => (c6 k hk).u hu hk, hK, c8.k hF, c9.u hu⟩ hF2 ⟨m1.fm hF2, m2.fm hF2, m3.fm hF2, m4.fm hF2, fun k hk => (m5 k hk).fm hF2, hK2, m7.fm hF2, m8.fm hF2⟩⟩
theorem o_weeks {G : Gt} {d : Nat} {σ : St} {v N : Nat} (hd : 60 ≤ d) (hv : v < 600) (hI : Ivl v N σ) (a : Int) : Op mX11_weeks mX12_weeks G d [vI a] v N σ := by
  have hI0 := hI
  have hN := hI.cap
  obtain ⟨hG, D, nt, B, Ws, np, pc, w, hc, nf, K, Q, hP, hC, hM⟩ := hI
  have hP0 := hP
  obtain ⟨p1, p3, p4, p5⟩ := hP
  have hC0 := hC
  have hM0 := hM
  obtain ⟨c1, c2, c3, c4, c5, c6, c7, c8, c9⟩ := hC
  obtain ⟨m1, m2, m3, m4, m5, m6, m7, m8⟩ := hM
  have hS := hG.1
  have hV := hG.2.1
  refine ⟨0, 0, N, by omega, by omega, hN.2, AM_mono ?_ (x_weeks (by omega) hS c1 p1 c3 (fun k hk => ⟨c6 k hk, p3 k hk⟩) c7 p4 p5 a)⟩
  rintro ro ρ ⟨z, rfl, ⟨hn, rfl, rfl⟩ | ⟨hy, rfl, hK, hW, hw, hF⟩⟩
  · refine ⟨hS, _, rfl, AM_mono ?_ (m_weeks (by omega) hS ⟨m1, p1, m2, fun k hk => ⟨m5 k hk, p3 k hk⟩⟩ m6 p4 p5 a)⟩
    rintro ro ρ' ⟨z, rfl, ⟨-, rfl, hF2⟩ | ⟨hy, -⟩⟩
    · exact ⟨rfl, inv0 hI0 hF2⟩
    · exact absurd hy hn
  · have hu := hF.u hS
    have hG1 := hG.up.u (hF.sta hS) hu
    have hM1 := hM0.u hu
    obtain ⟨m1, m2, m3, m4, m5, m6, m7, m8⟩ := hM1
    refine ⟨hG1.1, _, rfl, AM_mono ?_ (m_weeks (by omega) hG1.1 ⟨m1, p1, m2, fun k hk => ⟨m5 k hk, p3 k hk⟩⟩ m6 p4 p5 a)⟩
    rintro ro ρ' ⟨z, rfl, ⟨hn, -⟩ | ⟨-, rfl, hK2, hX2, hF2⟩⟩
    · exact absurd hy hn
    · have ht := weeks_t0 D Ws np a.toNat w p5.1 (by omega)
      exact ⟨rfl, inv_of (hG1.fm hF2) ⟨p1, p3, hW, by omega⟩ ⟨c1.u hu, c2.u hu, hw, c4.u hu, (hu.v 45 2).trans c5, fun k hk => (c6 k hk).u hu hk, hK, c8.l hS hF, c9.u hu⟩ hF2 ⟨hX2.1, hX2.2.2.1, m3.fm hF2, m4.fm hF2, fun k hk => (hX2.2.2.2 k hk).1, hK2, m7.fm hF2, m8.fm hF2⟩⟩
theorem o_one {G : Gt} {d : Nat} {σ : St} {v N : Nat} (hd : 60 ≤ d) (hv : v < 600) (hI : Ivl v N σ) (a b : Int) : Op mX11_one mX12_one G d [vI a, vI b] v N σ := by
  have hI0 := hI
  have hN := hI.cap
  obtain ⟨hG, D, nt, B, Ws, np, pc, w, hc, nf, K, Q, hP, hC, hM⟩ := hI
  have hP0 := hP
  obtain ⟨p1, p3, p4, p5⟩ := hP
  have hC0 := hC
  have hM0 := hM
  obtain ⟨c1, c2, c3, c4, c5, c6, c7, c8, c9⟩ := hC
  obtain ⟨m1, m2, m3, m4, m5, m6, m7, m8⟩ := hM
  have hS := hG.1
  have hV := hG.2.1
  refine ⟨0, 0, N, by omega, by omega, hN.2, AM_mono ?_ (x_one (by omega) hS c1 p1 c3 (fun k hk => ⟨c6 k hk, p3 k hk⟩) c7 p4 p5 a b)⟩
  rintro ro ρ ⟨z, rfl, ⟨hn, rfl, rfl⟩ | ⟨hy, rfl, hK, hw, hF⟩⟩
  · refine ⟨hS, _, rfl, AM_mono ?_ (m_one (by omega) hS ⟨m1, p1, m2, fun k hk => ⟨m5 k hk, p3 k hk⟩⟩ m6 p4 p5 a b)⟩
    rintro ro ρ' ⟨z, rfl, ⟨-, rfl, hF2⟩ | ⟨hy, -⟩⟩
    · exact ⟨rfl, inv0 hI0 hF2⟩
    · exact absurd hy hn
  · have hu := hF.u
    have hG1 := hG.up.u (hF.sta hS) hu
    have hM1 := hM0.u hu
    obtain ⟨m1, m2, m3, m4, m5, m6, m7, m8⟩ := hM1
    refine ⟨hG1.1, _, rfl, AM_mono ?_ (m_one (by omega) hG1.1 ⟨m1, p1, m2, fun k hk => ⟨m5 k hk, p3 k hk⟩⟩ m6 p4 p5 a b)⟩
    rintro ro ρ' ⟨z, rfl, ⟨hn, -⟩ | ⟨-, rfl, hK2, hX2, hF2⟩⟩
    · exact absurd hy hn
    · exact ⟨rfl, inv_of (hG1.fm hF2) hP0 ⟨c1.u hu, c2.u hu, hw, c4.u hu, (hu.v 45 2).trans c5, fun k hk => (c6 k hk).u hu hk, hK, c8.k hF, c9.u hu⟩ hF2 ⟨hX2.1, hX2.2.2.1, m3.fm hF2, m4.fm hF2, fun k hk => (hX2.2.2.2 k hk).1, hK2, m7.fm hF2, m8.fm hF2⟩⟩
theorem o_come {G : Gt} {d : Nat} {σ : St} {v N : Nat} (hd : 60 ≤ d) (hv : v < 600) (hI : Ivl v N σ) (a b c : Int) : Op mX11_come mX12_come G d [vI a, vI b, vI c] v N σ := by
  have hI0 := hI
  have hN := hI.cap
  obtain ⟨hG, D, nt, B, Ws, np, pc, w, hc, nf, K, Q, hP, hC, hM⟩ := hI
  have hP0 := hP
  obtain ⟨p1, p3, p4, p5⟩ := hP
  have hC0 := hC
  have hM0 := hM
  obtain ⟨c1, c2, c3, c4, c5, c6, c7, c8, c9⟩ := hC
  obtain ⟨m1, m2, m3, m4, m5, m6, m7, m8⟩ := hM
  have hS := hG.1
  have hV := hG.2.1
  refine ⟨2, 60, N, by omega, by omega, hN.2, AM_mono ?_ (x_come (by omega) hS c5 c7 p4 c1 a b c)⟩
  rintro ro ρ ⟨z, rfl, ⟨hn, rfl, rfl⟩ | ⟨hy, rfl, hK, hF⟩⟩
  · refine ⟨hS, _, rfl, AM_mono ?_ (m_come (by omega) hS m1 p1 m6 p4 a b c)⟩
    rintro ro ρ' ⟨z, rfl, ⟨-, rfl, hF2⟩ | ⟨hy, -⟩⟩
    · exact ⟨rfl, inv0 hI0 hF2⟩
    · exact absurd hy hn
  · have hu := hF.u hS
    have hG1 := hG.up.u (hF.sta hS) hu
    have hM1 := hM0.u hu
    obtain ⟨m1, m2, m3, m4, m5, m6, m7, m8⟩ := hM1
    refine ⟨hG1.1, _, rfl, AM_mono ?_ (m_come (by omega) hG1.1 m1 p1 m6 p4 a b c)⟩
    rintro ro ρ' ⟨z, rfl, ⟨hn, -⟩ | ⟨-, rfl, hK2, hF2⟩⟩
    · exact absurd hy hn
    · exact ⟨rfl, inv_of (np := np + 1) (w := (comeP w.1 np a b c, w.2)) (hG1.fm hF2) ⟨p1, p3, p4.come hy.2.2 hy.1 hy.2.1, p5⟩ ⟨c1.u hu, c2.u hu, c3.u hu, c4.u hu, (hu.v 45 2).trans c5, fun k hk => (c6 k hk).u hu hk, hK, c8.km hS hF, c9.u hu⟩ hF2 ⟨m1.fm hF2, m2.fm hF2, m3.fm hF2, m4.fm hF2, fun k hk => (m5 k hk).fm hF2, hK2, m7.fm hF2, m8.fm hF2⟩⟩
theorem o_feast {G : Gt} {d : Nat} {σ : St} {v N : Nat} (hd : 60 ≤ d) (hv : v < 600) (hI : Ivl v N σ) (a : Int) : Op mX11_feast mX12_feast G d [vI a] v N σ := by
  have hI0 := hI
  have hN := hI.cap
  obtain ⟨hG, D, nt, B, Ws, np, pc, w, hc, nf, K, Q, hP, hC, hM⟩ := hI
  have hP0 := hP
  obtain ⟨p1, p3, p4, p5⟩ := hP
  have hC0 := hC
  have hM0 := hM
  obtain ⟨c1, c2, c3, c4, c5, c6, c7, c8, c9⟩ := hC
  obtain ⟨m1, m2, m3, m4, m5, m6, m7, m8⟩ := hM
  have hS := hG.1
  have hV := hG.2.1
  refine ⟨0, 0, N, by omega, by omega, hN.2, AM_mono ?_ (x_feast (Q := Q) (by omega) hS c8 a)⟩
  rintro ro ρ ⟨z, rfl, ⟨hn, rfl, rfl⟩ | ⟨hy, rfl, hK, hQ, hF⟩⟩
  · refine ⟨hS, _, rfl, AM_mono ?_ (m_feast (by omega) hS a)⟩
    rintro ro ρ' ⟨z, rfl, ⟨-, rfl, hF2⟩ | ⟨hy, -⟩⟩
    · exact ⟨rfl, inv0 hI0 hF2⟩
    · exact absurd hy hn
  · have hu := hF.u
    have hG1 := hG.up.u (hF.sta hS) hu
    have hM1 := hM0.u hu
    obtain ⟨m1, m2, m3, m4, m5, m6, m7, m8⟩ := hM1
    refine ⟨hG1.1, _, rfl, AM_mono ?_ (m_feast (by omega) hG1.1 a)⟩
    rintro ro ρ' ⟨z, rfl, ⟨hn, -⟩ | ⟨-, rfl, hK2, hQ2, hF2⟩⟩
    · exact absurd hy hn
    · exact ⟨rfl, inv_of (hG1.fm hF2) hP0 ⟨c1.u hu, c2.u hu, c3.u hu, c4.u hu, (hu.v 45 2).trans c5, fun k hk => (c6 k hk).u hu hk, c7.fr hF, hK, hQ⟩ hF2 ⟨m1.fm hF2, m2.fm hF2, m3.fm hF2, m4.fm hF2, fun k hk => (m5 k hk).fm hF2, m6.fm hF2, hK2, hQ2⟩⟩
theorem o_likes {G : Gt} {d : Nat} {σ : St} {v N : Nat} (hd : 60 ≤ d) (hv : v < 600) (hI : Ivl v N σ) (a b c e : Int) : Op mX11_likes mX12_likes G d [vI a, vI b, vI c, vI e] v N σ := by
  have hI0 := hI
  have hN := hI.cap
  obtain ⟨hG, D, nt, B, Ws, np, pc, w, hc, nf, K, Q, hP, hC, hM⟩ := hI
  have hP0 := hP
  obtain ⟨p1, p3, p4, p5⟩ := hP
  have hC0 := hC
  have hM0 := hM
  obtain ⟨c1, c2, c3, c4, c5, c6, c7, c8, c9⟩ := hC
  obtain ⟨m1, m2, m3, m4, m5, m6, m7, m8⟩ := hM
  have hS := hG.1
  have hV := hG.2.1
  refine ⟨0, 0, N, by omega, by omega, hN.2, AM_mono ?_ (x_likes (by omega) hS c8 a b c e)⟩
  rintro ro ρ ⟨z, rfl, ⟨hn, rfl, rfl⟩ | ⟨hy, rfl, hK, hF⟩⟩
  · refine ⟨hS, _, rfl, AM_mono ?_ (m_likes (by omega) hS m7.1 a b c e)⟩
    rintro ro ρ' ⟨z, rfl, ⟨-, rfl, hF2⟩ | ⟨hy, -⟩⟩
    · exact ⟨rfl, inv0 hI0 hF2⟩
    · exact absurd hy hn
  · have hu := hF.u
    have hG1 := hG.up.u (hF.sta hS) hu
    have hM1 := hM0.u hu
    obtain ⟨m1, m2, m3, m4, m5, m6, m7, m8⟩ := hM1
    refine ⟨hG1.1, _, rfl, AM_mono ?_ (m_likes (by omega) hG1.1 m7.1 a b c e)⟩
    rintro ro ρ' ⟨z, rfl, ⟨hn, -⟩ | ⟨-, rfl, hK2, hF2⟩⟩
    · exact absurd hy hn
    · exact ⟨rfl, inv_of (hG1.fm hF2) hP0 ⟨c1.u hu, c2.u hu, c3.u hu, c4.u hu, (hu.v 45 2).trans c5, fun k hk => (c6 k hk).u hu hk, c7.fr hF, hK, c9.u hu⟩ hF2 ⟨m1.fm hF2, m2.fm hF2, m3.fm hF2, m4.fm hF2, fun k hk => (m5 k hk).fm hF2, m6.fm hF2, hK2, m8.fm hF2⟩⟩
theorem o_price {G : Gt} {d : Nat} {σ : St} {v N : Nat} (hd : 60 ≤ d) (hv : v < 600) (hI : Ivl v N σ) (a b : Int) : Op mX11_price mX12_price G d [vI a, vI b] v N σ := by
  have hI0 := hI
  have hN := hI.cap
  obtain ⟨hG, D, nt, B, Ws, np, pc, w, hc, nf, K, Q, hP, hC, hM⟩ := hI
  have hP0 := hP
  obtain ⟨p1, p3, p4, p5⟩ := hP
  have hC0 := hC
  have hM0 := hM
  obtain ⟨c1, c2, c3, c4, c5, c6, c7, c8, c9⟩ := hC
  obtain ⟨m1, m2, m3, m4, m5, m6, m7, m8⟩ := hM
  have hS := hG.1
  have hV := hG.2.1
  refine ⟨0, 0, N, by omega, by omega, hN.2, AM_mono ?_ (x_price (by omega) hS c8 c9 a b)⟩
  rintro ro ρ ⟨z, rfl, ⟨hn, rfl, rfl⟩ | ⟨hy, rfl, hQ, hF⟩⟩
  · refine ⟨hS, _, rfl, AM_mono ?_ (m_price (by omega) hS m7.1 m8 a b)⟩
    rintro ro ρ' ⟨z, rfl, ⟨-, rfl, hF2⟩ | ⟨hy, -⟩⟩
    · exact ⟨rfl, inv0 hI0 hF2⟩
    · exact absurd hy hn
  · have hu := hF.u
    have hG1 := hG.up.u (hF.sta hS) hu
    have hM1 := hM0.u hu
    obtain ⟨m1, m2, m3, m4, m5, m6, m7, m8⟩ := hM1
    refine ⟨hG1.1, _, rfl, AM_mono ?_ (m_price (by omega) hG1.1 m7.1 m8 a b)⟩
    rintro ro ρ' ⟨z, rfl, ⟨hn, -⟩ | ⟨-, rfl, hQ2, hF2⟩⟩
    · exact absurd hy hn
    · exact ⟨rfl, inv_of (hG1.fm hF2) hP0 ⟨c1.u hu, c2.u hu, c3.u hu, c4.u hu, (hu.v 45 2).trans c5, fun k hk => (c6 k hk).u hu hk, c7.fr hF, c8.k hF, hQ⟩ hF2 ⟨m1.fm hF2, m2.fm hF2, m3.fm hF2, m4.fm hF2, fun k hk => (m5 k hk).fm hF2, m6.fm hF2, m7.fm hF2, hQ2⟩⟩
theorem o_holds {G : Gt} {d : Nat} {σ : St} {v N : Nat} (hd : 60 ≤ d) (hv : v < 600) (hI : Ivl v N σ) : Op mX11_holds mX12_holds G d [] v N σ := by
  have hI0 := hI
  have hN := hI.cap
  obtain ⟨hG, D, nt, B, Ws, np, pc, w, hc, nf, K, Q, hP, hC, hM⟩ := hI
  have hP0 := hP
  obtain ⟨p1, p3, p4, p5⟩ := hP
  have hC0 := hC
  have hM0 := hM
  obtain ⟨c1, c2, c3, c4, c5, c6, c7, c8, c9⟩ := hC
  obtain ⟨m1, m2, m3, m4, m5, m6, m7, m8⟩ := hM
  have hS := hG.1
  have hV := hG.2.1
  have hr := rf_room (n := nf) (K := K) (z := σ.2.1 85 10) hN.1 hN.2 (held_50 K c8.1.2.1.1 c8.1.2.1.2)
  refine ⟨_, _, _, hr.1, hr.2.1, hr.2.2, AM_mono ?_ (x_holds (by omega) hS c8)⟩
  rintro ro ρ ⟨rfl, hc2, hK, hF⟩
  have hu := hF.u hS c8.2.1
  have hG1 := hG.up.u (hF.sta hS) hu
  have hM1 := hM0.u hu
  have hT1 := c7.ff hS c8.2.1 hF
  obtain ⟨m1, m2, m3, m4, m5, m6, m7, m8⟩ := hM1
  refine ⟨hG1.1, _, rfl, AM_mono ?_ (m_holds (by omega) hG1.1 m7)⟩
  rintro ro ρ' ⟨rfl, hK2, hF2⟩
  exact ⟨rfl, inv_of (hG1.fm hF2) hP0 ⟨c1.u hu, c2.u hu, c3.u hu, c4.u hu, (hu.v 45 2).trans c5, fun k hk => (c6 k hk).u hu hk, hT1, hK, c9.u hu⟩ hF2 ⟨m1.fm hF2, m2.fm hF2, m3.fm hF2, m4.fm hF2, fun k hk => (m5 k hk).fm hF2, m6.fm hF2, hK2, m8.fm hF2⟩⟩
theorem o_mended {G : Gt} {d : Nat} {σ : St} {v N : Nat} (hd : 60 ≤ d) (hv : v < 600) (hI : Ivl v N σ) : Op mX11_mended mX12_mended G d [] v N σ := by
  have hI0 := hI
  have hN := hI.cap
  obtain ⟨hG, D, nt, B, Ws, np, pc, w, hc, nf, K, Q, hP, hC, hM⟩ := hI
  have hP0 := hP
  obtain ⟨p1, p3, p4, p5⟩ := hP
  have hC0 := hC
  have hM0 := hM
  obtain ⟨c1, c2, c3, c4, c5, c6, c7, c8, c9⟩ := hC
  obtain ⟨m1, m2, m3, m4, m5, m6, m7, m8⟩ := hM
  have hS := hG.1
  have hV := hG.2.1
  have hr := rf_room (n := nf) (K := K) (z := σ.2.1 85 10) hN.1 hN.2 (held_50 K c8.1.2.1.1 c8.1.2.1.2)
  refine ⟨_, _, _, hr.1, hr.2.1, hr.2.2, AM_mono ?_ (x_mended (by omega) hS c8)⟩
  rintro ro ρ ⟨rfl, hc2, hK, hF⟩
  have hu := hF.u hS c8.2.1
  have hG1 := hG.up.u (hF.sta hS) hu
  have hM1 := hM0.u hu
  have hT1 := c7.ff hS c8.2.1 hF
  obtain ⟨m1, m2, m3, m4, m5, m6, m7, m8⟩ := hM1
  refine ⟨hG1.1, _, rfl, AM_mono ?_ (m_mended (by omega) hG1.1 m7)⟩
  rintro ro ρ' ⟨rfl, hK2, hF2⟩
  exact ⟨rfl, inv_of (hG1.fm hF2) hP0 ⟨c1.u hu, c2.u hu, c3.u hu, c4.u hu, (hu.v 45 2).trans c5, fun k hk => (c6 k hk).u hu hk, hT1, hK, c9.u hu⟩ hF2 ⟨m1.fm hF2, m2.fm hF2, m3.fm hF2, m4.fm hF2, fun k hk => (m5 k hk).fm hF2, m6.fm hF2, hK2, m8.fm hF2⟩⟩
theorem o_pairing {G : Gt} {d : Nat} {σ : St} {v N : Nat} (hd : 60 ≤ d) (hv : v < 600) (hI : Ivl v N σ) (a b : Int) : Op mX11_pairing mX12_pairing G d [vI a, vI b] v N σ := by
  have hI0 := hI
  have hN := hI.cap
  obtain ⟨hG, D, nt, B, Ws, np, pc, w, hc, nf, K, Q, hP, hC, hM⟩ := hI
  have hP0 := hP
  obtain ⟨p1, p3, p4, p5⟩ := hP
  have hC0 := hC
  have hM0 := hM
  obtain ⟨c1, c2, c3, c4, c5, c6, c7, c8, c9⟩ := hC
  obtain ⟨m1, m2, m3, m4, m5, m6, m7, m8⟩ := hM
  have hS := hG.1
  have hV := hG.2.1
  have hr := rf_room (n := nf) (K := K) (z := σ.2.1 85 10) hN.1 hN.2 (held_50 K c8.1.2.1.1 c8.1.2.1.2)
  by_cases hy : 0 ≤ a ∧ (b = -1 ∨ 0 ≤ b ∧ b < nf)
  · refine ⟨_, _, _, hr.1, hr.2.1, hr.2.2, AM_mono ?_ (x_pairing (by omega) hS c8 a b)⟩
    rintro ro ρ ⟨z, rfl, hz, ⟨hn, -⟩ | ⟨-, hc2, hK, hF⟩⟩
    · exact absurd hy hn
    have hu := hF.u hS c8.2.1
    have hG1 := hG.up.u (hF.sta hS) hu
    have hM1 := hM0.u hu
    have hT1 := c7.ff hS c8.2.1 hF
    obtain ⟨m1, m2, m3, m4, m5, m6, m7, m8⟩ := hM1
    refine ⟨hG1.1, z, rfl, AM_mono ?_ (m_pairing (by omega) hG1.1 m7 a b)⟩
    rintro ro ρ' ⟨z2, rfl, hz2, ⟨hn, -⟩ | ⟨-, hK2, hF2⟩⟩
    · exact absurd hy hn
    · exact ⟨by rw [prA_one hz hz2], inv_of (hG1.fm hF2) hP0 ⟨c1.u hu, c2.u hu, c3.u hu, c4.u hu, (hu.v 45 2).trans c5, fun k hk => (c6 k hk).u hu hk, hT1, hK, c9.u hu⟩ hF2 ⟨m1.fm hF2, m2.fm hF2, m3.fm hF2, m4.fm hF2, fun k hk => (m5 k hk).fm hF2, m6.fm hF2, hK2, m8.fm hF2⟩⟩
  · refine ⟨0, 0, N, by omega, by omega, hN.2, AM_mono ?_ (x_pairing0 (by omega) hS c8 a b hy)⟩
    rintro ro ρ ⟨rfl, rfl⟩
    refine ⟨hS, -1, rfl, AM_mono ?_ (m_pairing (by omega) hS m7 a b)⟩
    rintro ro ρ' ⟨z2, rfl, hz2, ⟨-, hF2⟩ | ⟨hn, -⟩⟩
    · exact ⟨by rw [prA_one hz2 (Or.inl ⟨hy, rfl⟩)], inv0 hI0 hF2⟩
    · exact absurd hn hy
theorem o_sums {G : Gt} {d : Nat} {σ : St} {v N : Nat} (hd : 60 ≤ d) (hv : v < 600) (hI : Ivl v N σ) (a b : Int) : Op mX11_sums mX12_sums G d [vI a, vI b] v N σ := by
  have hI0 := hI
  have hN := hI.cap
  obtain ⟨hG, D, nt, B, Ws, np, pc, w, hc, nf, K, Q, hP, hC, hM⟩ := hI
  have hP0 := hP
  obtain ⟨p1, p3, p4, p5⟩ := hP
  have hC0 := hC
  have hM0 := hM
  obtain ⟨c1, c2, c3, c4, c5, c6, c7, c8, c9⟩ := hC
  obtain ⟨m1, m2, m3, m4, m5, m6, m7, m8⟩ := hM
  have hS := hG.1
  have hV := hG.2.1
  have hr := rf_room (n := nf) (K := K) (z := σ.2.1 85 10) hN.1 hN.2 (held_50 K c8.1.2.1.1 c8.1.2.1.2)
  by_cases hy : (0 ≤ b ∧ b ≤ 2) ∧ (b ≤ 0 ∨ 0 ≤ a ∧ a < nf)
  · refine ⟨_, _, _, hr.1, hr.2.1, hr.2.2, AM_mono ?_ (x_sums (by omega) hS c8 c9 a b)⟩
    rintro ro ρ ⟨z, rfl, hz, ⟨hn, -⟩ | ⟨-, hc2, τ, hK, hF, hF9⟩⟩
    · exact absurd hy hn
    have hu := ((hF.u hS c8.2.1).mo (L' := [85, 87, 88, 89, 90, 93])).tr (hF9.u.mo)
    have hG1 := hG.up.u (hF9.sta (hF.sta hS)) hu
    have hM1 := hM0.u hu
    have hT1 := (c7.ff hS c8.2.1 hF).fr hF9
    obtain ⟨m1, m2, m3, m4, m5, m6, m7, m8⟩ := hM1
    refine ⟨hG1.1, z, rfl, AM_mono ?_ (m_sums (by omega) hG1.1 m7 m8 a b)⟩
    rintro ro ρ' ⟨z2, rfl, hz2, ⟨hn, -⟩ | ⟨-, hK2, hF2⟩⟩
    · exact absurd hy hn
    · exact ⟨by rw [suA_one hz hz2], inv_of (hG1.fm hF2) hP0 ⟨c1.u hu, c2.u hu, c3.u hu, c4.u hu, (hu.v 45 2).trans c5, fun k hk => (c6 k hk).u hu hk, hT1, hK, c9.u hu⟩ hF2 ⟨m1.fm hF2, m2.fm hF2, m3.fm hF2, m4.fm hF2, fun k hk => (m5 k hk).fm hF2, m6.fm hF2, hK2, m8.fm hF2⟩⟩
  · refine ⟨0, 0, N, by omega, by omega, hN.2, AM_mono ?_ (x_sums0 (by omega) hS c8 a b hy)⟩
    rintro ro ρ ⟨rfl, rfl⟩
    refine ⟨hS, -1, rfl, AM_mono ?_ (m_sums (by omega) hS m7 m8 a b)⟩
    rintro ro ρ' ⟨z2, rfl, hz2, ⟨-, hF2⟩ | ⟨hn, -⟩⟩
    · exact ⟨by rw [suA_one hz2 (Or.inl ⟨hy, rfl⟩)], inv0 hI0 hF2⟩
    · exact absurd hn hy
