theorem wcl_lt : ∀ a, a < 6 → ∀ b, b < 6 → a < b → wcl a + 6 ≤ wcl b := by decide
theorem wyF_in {k r : Nat} (h : r ∈ wyF k) : wcl k ≤ r ∧ r ≤ wcl k + 5 := by
  simp [wyF] at h
  omega
theorem wyF_dj {k k2 r : Nat} (hk : k < 6) (hk2 : k2 < 6) (hne : k2 ≠ k) (h1 : wcl k2 ≤ r) (h2 : r ≤ wcl k2 + 5) : r ∉ wyF k := by
  intro h
  have := wyF_in h
  rcases Nat.lt_or_gt_of_ne hne with q | q
  · have := wcl_lt k2 hk2 k hk q
    omega
  · have := wcl_lt k hk k2 hk2 q
    omega
def setW (Ws : Nat → Wy) (k : Nat) (W : Wy) : Nat → Wy := fun j => if j = k then W else Ws j
section WAYS
variable {D : Mk} {nt : Nat} {B : Nat → Int} {Ws : Nat → Wy} {np : Nat} {pc : Nat → Nat} {w : Tw} {hc N nf : Nat} {K Q : Nat → Int} {σ ρ τ : St} {v : Nat}
theorem wy_c0 (hC : IC D nt B Ws np pc w hc N nf K Q σ) (hF : Fr [29, 31, 32, 33, 34, 35, 36, 37, 38, 39, 40] σ ρ) (hT : tpC 0 B ρ) : IC D 0 B Ws np pc w hc N nf K Q ρ := by
  have hu := hF.u
  obtain ⟨c1, c2, c3, c4, c5, c6, c7, c8, c9⟩ := hC
  exact ⟨c1.u hu, c2.u hu, c3.u hu, hT, (hu.v 45 2).trans c5, fun k hk => (c6 k hk).u hu hk, c7.fr hF, c8.k hF, c9.u hu⟩
theorem wy_c1 {k : Nat} {W : Wy} (hk : k < 6) (hC : IC D nt B Ws np pc w hc N nf K Q σ) (hF : Fr ([29, 31, 32, 33, 34, 35, 36, 37, 38, 39, 40] ++ wyF k) σ ρ) (hT : tpC 0 B ρ) (hW : WyC ρ k W) : IC D 0 B (setW Ws k W) np pc w hc N nf K Q ρ := by
  have hu := hF.u
  have hb := wcl_bd hk
  have hL : ∀ r, r ∈ [29, 31, 32, 33, 34, 35, 36, 37, 38, 39, 40] ++ wyF k → (29 ≤ r ∧ r ≤ 40 ∧ r ≠ 30) ∨ (48 ≤ r ∧ r ≤ 84) := fun r q => by
    rcases List.mem_append.mp q with q | q
    · simp at q
      omega
    · have := wyF_in q
      omega
  have hn : ∀ r, r < 29 ∨ r = 30 ∨ (40 < r ∧ r < 48) ∨ 84 < r → r ∉ [29, 31, 32, 33, 34, 35, 36, 37, 38, 39, 40] ++ wyF k := fun r hr q => by have := hL _ q; omega
  obtain ⟨c1, c2, c3, c4, c5, c6, c7, c8, c9⟩ := hC
  refine ⟨c1.u hu (hn _ (by decide)) (hn _ (by decide)) (hn _ (by decide)) (hn _ (by decide)) (hn _ (by decide)), c2.u hu (hn _ (by decide)) (hn _ (by decide)) (hn _ (by decide)) (hn _ (by decide)), c3.u hu (hn _ (by decide)) (hn _ (by decide)) (hn _ (by decide)), hT, (hu.v 45 2 (hn _ (by decide))).trans c5, fun j hj => ?_, c7.fr hF (fun r q => by have := hL _ q; omega), c8.k hF (fun r q => by have := hL _ q; omega), c9.u hu (hn _ (by decide))⟩
  unfold setW
  by_cases e : j = k
  · rw [if_pos e, e]
    exact hW
  · rw [if_neg e]
    have hbj := wcl_bd hj
    refine (c6 j hj).fr hF (fun r r1 r2 q => ?_)
    rcases List.mem_append.mp q with q | q
    · simp at q
      omega
    · exact wyF_dj hk hj e r1 r2 q
/-- behind a text: what the model's side keeps -/
theorem wy_m {WS : Nat → Wy} (hG : Ig v σ) (hP : IP D Ws np w) (hS : Sta ρ) (hFu : Fu [29, 31, 32, 33, 34, 35, 36, 37, 38, 39, 40, 48, 49, 50, 51, 52, 53, 55, 56, 57, 58, 59, 60, 61, 62, 63, 64, 65, 66, 67, 68, 69, 70, 71, 72, 73, 74, 75, 76, 77, 78, 79, 80, 81, 82, 83, 84] σ ρ) (hC : IC D 0 B WS np pc w hc N nf K Q ρ) (hM : IM D nt B Ws np w nf K Q ρ) (hF : Fm [0, 21, 22, 23, 24, 25, 34, 35, 37, 38, 39, 40, 41] [105, 106, 107, 108, 109, 110, 111, 112] ρ τ) (hT : tpM 0 B τ) (e4 : ρ.2.1 34 4 = τ.2.1 94 40) (e5 : ρ.2.1 34 5 = τ.2.1 94 41) (hW : ∀ k, k < 6 → WyM τ k (WS k)) (hK : ∀ k, k < 6 → wyOK (WS k)) : Ivl (v + 1) N τ := by
  obtain ⟨m1, m2, m3, m4, m5, m6, m7, m8⟩ := hM
  obtain ⟨p1, p3, p4, p5⟩ := hP
  have hv := hG.2.1
  refine inv_of (D := D) (nt := 0) (B := B) (Ws := WS) (np := np) (w := w) ⟨hF.sta hS, ?_, ?_, ?_⟩ ⟨p1, hK, p4, p5⟩ hC hF ⟨m1.fm hF, m2.fm hF, hT, m4.fm hF, hW, m6.fm hF, m7.fm hF, m8.fm hF⟩
  · rw [hF.a 17 5, hFu.v 17 5]
    omega
  · rw [hF.a 34 4]
    exact e4
  · rw [hF.a 34 5]
    exact e5
end WAYS
theorem wyF_all {k : Nat} (hk : k < 6) : ∀ r, r ∈ [29, 31, 32, 33, 34, 35, 36, 37, 38, 39, 40] ++ wyF k → r ∈ [29, 31, 32, 33, 34, 35, 36, 37, 38, 39, 40, 48, 49, 50, 51, 52, 53, 55, 56, 57, 58, 59, 60, 61, 62, 63, 64, 65, 66, 67, 68, 69, 70, 71, 72, 73, 74, 75, 76, 77, 78, 79, 80, 81, 82, 83, 84] := by
  rcases (show k = 0 ∨ k = 1 ∨ k = 2 ∨ k = 3 ∨ k = 4 ∨ k = 5 by omega) with rfl | rfl | rfl | rfl | rfl | rfl <;> decide
theorem o_way {G : Gt} {d : Nat} {σ : St} {v N : Nat} (hd : 60 ≤ d) (hv : v < 600) (hI : Ivl v N σ) (a : Int) : Op mX11_way mX12_way G d [vI a] v N σ := by
  have hI0 := hI
  have hN := hI.cap
  obtain ⟨hG, D, nt, B, Ws, np, pc, w, hc, nf, K, Q, hP, hC, hM⟩ := hI
  have hP0 := hP
  obtain ⟨p1, p3, p4, p5⟩ := hP
  have hC0 := hC
  have hM0 := hM
  obtain ⟨c1, c2, c3, c4, c5, c6, c7, c8, c9⟩ := hC
  obtain ⟨m1, m2, m3, m4, m5, m6, m7, m8⟩ := hM
  have hS := hG.1
  have hV := hG.2.1
  have hby : byB B nt := fun k hk => c4.byt hk
  refine ⟨0, 0, N, by omega, by omega, hN.2, AM_mono ?_ (x_way (F := 400) (by omega) hS c4 rfl c5 a)⟩
  rintro ro ρ ⟨z, rfl, hT, ⟨hn, rfl, e4, e5, hF⟩ | ⟨hy, e4, ⟨hne, rfl, e5, hF⟩ | ⟨he, rfl, e5, hW, hF⟩⟩⟩
  · have hu := hF.u
    have hM1 := hM0.u hu
    have hC1 := wy_c0 hC0 hF hT
    have hM2 := hM1
    obtain ⟨m1, m2, m3, m4, m5, m6, m7, m8⟩ := hM1
    refine ⟨hF.sta hS, -1, rfl, AM_mono ?_ (m_way (F := 400) (by omega) (hF.sta hS) hby rfl m3 m4 a)⟩
    rintro ro ρ' ⟨z, rfl, hT2, hF2, ⟨-, rfl, f4, f5, hk⟩ | ⟨hy, -⟩⟩
    · exact ⟨rfl, wy_m hG hP0 (hF.sta hS) (hu.mo (L' := [29, 31, 32, 33, 34, 35, 36, 37, 38, 39, 40, 48, 49, 50, 51, 52, 53, 55, 56, 57, 58, 59, 60, 61, 62, 63, 64, 65, 66, 67, 68, 69, 70, 71, 72, 73, 74, 75, 76, 77, 78, 79, 80, 81, 82, 83, 84])) hC1 hM2 hF2 hT2 (e4.trans f4.symm) (e5.trans f5.symm) (fun k hk2 => hk k _ hk2 (m5 k hk2)) p3⟩
    · exact absurd hy hn
  · have hu := hF.u
    have hM1 := hM0.u hu
    have hC1 := wy_c0 hC0 hF hT
    have hM2 := hM1
    obtain ⟨m1, m2, m3, m4, m5, m6, m7, m8⟩ := hM1
    refine ⟨hF.sta hS, -1, rfl, AM_mono ?_ (m_way (F := 400) (by omega) (hF.sta hS) hby rfl m3 m4 a)⟩
    rintro ro ρ' ⟨z, rfl, hT2, hF2, ⟨hn, -⟩ | ⟨-, f4, ⟨-, rfl, f5, hk⟩ | ⟨he, -⟩⟩⟩
    · exact absurd hy hn
    · exact ⟨rfl, wy_m hG hP0 (hF.sta hS) (hu.mo (L' := [29, 31, 32, 33, 34, 35, 36, 37, 38, 39, 40, 48, 49, 50, 51, 52, 53, 55, 56, 57, 58, 59, 60, 61, 62, 63, 64, 65, 66, 67, 68, 69, 70, 71, 72, 73, 74, 75, 76, 77, 78, 79, 80, 81, 82, 83, 84])) hC1 hM2 hF2 hT2 (e4.trans f4.symm) (e5.trans f5.symm) (fun k hk2 => hk k _ hk2 (m5 k hk2)) p3⟩
    · exact absurd he hne
  · have hk6 : a.toNat < 6 := by omega
    have hu := hF.u.mo (wyF_all hk6)
    have hM1 := hM0.u hu
    have hC1 := wy_c1 hk6 hC0 hF hT hW
    have hM2 := hM1
    obtain ⟨m1, m2, m3, m4, m5, m6, m7, m8⟩ := hM1
    refine ⟨hF.sta hS, _, rfl, AM_mono ?_ (m_way (F := 400) (by omega) (hF.sta hS) hby rfl m3 m4 a)⟩
    rintro ro ρ' ⟨z, rfl, hT2, hF2, ⟨hn, -⟩ | ⟨-, f4, ⟨hne, -⟩ | ⟨-, rfl, f5, hW2, hk⟩⟩⟩
    · exact absurd hy hn
    · exact absurd he hne
    · refine ⟨rfl, wy_m hG hP0 (hF.sta hS) hu hC1 hM2 hF2 hT2 (e4.trans f4.symm) (e5.trans f5.symm) (fun k hk2 => ?_) (fun k hk2 => ?_)⟩
      · unfold setW
        by_cases e : k = a.toNat
        · rw [if_pos e, e]
          exact hW2
        · rw [if_neg e]
          exact hk k _ hk2 e (m5 k hk2)
      · unfold setW
        by_cases e : k = a.toNat
        · rw [if_pos e]
          exact wayOf_ok c4.2.1 rfl he
        · rw [if_neg e]
          exact p3 k hk2
