def rowV (K : Nat → Int) (l : List Nat) (k : Int) : Int := if k = -1 then sR K l else (l.getD k.toNat 0 : Int)
def prA (K : Nat → Int) (n : Nat) (which k z : Int) : Prop := (¬ (0 ≤ which ∧ (k = -1 ∨ 0 ≤ k ∧ k < n)) ∧ z = -1) ∨ ((0 ≤ which ∧ (k = -1 ∨ 0 ≤ k ∧ k < n)) ∧ ((which = 2 ∧ z = (if k = -1 then mostV K n else ((mostL K n).getD k.toNat 0 : Int))) ∨ (which = 0 ∧ ∃ l, Opt0 K n l ∧ z = rowV K l k) ∨ (which = 1 ∧ ∃ l, Opt1 K n l ∧ z = rowV K l k) ∨ (3 ≤ which ∧ ((∃ l, 10 ≤ which ∧ (heldL K n)[(which - 10).toNat]? = some l ∧ z = rowV K l k) ∨ (¬ (10 ≤ which ∧ (which - 10).toNat < (heldL K n).length) ∧ z = -1)))))
theorem prA_one {K : Nat → Int} {n : Nat} {which k z z' : Int} (h : prA K n which k z) (h' : prA K n which k z') : z = z' := by
  rcases h with ⟨a, b⟩ | ⟨a, h⟩
  · rcases h' with ⟨a', b'⟩ | ⟨a', _⟩
    · rw [b, b']
    · exact absurd a' a
  · rcases h' with ⟨a', b'⟩ | ⟨_, h'⟩
    · exact absurd a a'
    · rcases h with ⟨w, e⟩ | ⟨w, l, q, e⟩ | ⟨w, l, q, e⟩ | ⟨w, h⟩
      · rcases h' with ⟨w', e'⟩ | ⟨w', _⟩ | ⟨w', _⟩ | ⟨w', _⟩
        · rw [e, e']
        · omega
        · omega
        · omega
      · rcases h' with ⟨w', _⟩ | ⟨w', l', q', e'⟩ | ⟨w', _⟩ | ⟨w', _⟩
        · omega
        · rw [e, e', opt0_one q q']
        · omega
        · omega
      · rcases h' with ⟨w', _⟩ | ⟨w', _⟩ | ⟨w', l', q', e'⟩ | ⟨w', _⟩
        · omega
        · omega
        · rw [e, e', opt1_one q q']
        · omega
      · rcases h' with ⟨w', _⟩ | ⟨w', _⟩ | ⟨w', _⟩ | ⟨w', h'⟩
        · omega
        · omega
        · omega
        · rcases h with ⟨l, t1, t2, t3⟩ | ⟨t1, t2⟩
          · rcases h' with ⟨l', s1, s2, s3⟩ | ⟨s1, s2⟩
            · rw [t2] at s2
              cases s2
              rw [t3, s3]
            · exact absurd ⟨t1, (List.getElem?_eq_some_iff.mp t2).1⟩ s1
          · rcases h' with ⟨l', s1, s2, s3⟩ | ⟨s1, s2⟩
            · exact absurd ⟨s1, (List.getElem?_eq_some_iff.mp s2).1⟩ t1
            · rw [t2, s2]
theorem x_holds {G : Gt} {d : Nat} {σ : St} (hd : 15 ≤ d) {hc N n : Nat} {K : Nat → Int} (hS : Sta σ) (hE : FeC hc N n K σ)  : AM mX11_holds G d (rfC n N K (σ.2.1 85 10) (heldL K n).length) (rfS n N K (σ.2.1 85 10) (heldL K n).length) [vR 16] σ (fun ro ρ => ro = some (vI ((heldL K n).length : Int)) ∧ ∃ hc2, FeC hc2 (rfN N (σ.2.1 85 10) (heldL K n).length) n K ρ ∧ Ff σ ρ) := by
  refine AM.intro (by decide +kernel) (by simp [nLg]) (Nat.le_of_ble_eq_true rfl) (fun hO => ?_)
  show AW _ _ _ _ _ _ 0 [some (vR 16)] [] σ
  refine AW_up (bc := 0 + rfC n N K (σ.2.1 85 10) (heldL K n).length) (bs := 0 + rfS n N K (σ.2.1 85 10) (heldL K n).length) (by omega) (by omega) ?_
  refine AW_aload_n dX11_holds_0 rfl ?_
  refine AW_getR (a := 85) dX11_holds_1 gfX11_60 (hS.cel rfl) (hS.rf rfl) ?_
  refine AW_callVb0 (d' := d - 1) dX11_holds_4 (Or.inl lkX11_198) mfX0_refresh (hS.cel rfl) ⟨_, rfl, rfl⟩ (k_fref (by omega) hS hE) (by omega) (Nat.le_of_ble_eq_true rfl) ?_
  rintro _ ρ1 ⟨rfl, hL1, h10, hg7, hF1, hc2, hC1⟩ -
  have hS1 := hF1.sta hS
  have hE1 : FeC hc2 (rfN N (σ.2.1 85 10) (heldL K n).length) n K ρ1 := ⟨hL1, hC1.1.1, hg7, Or.inr ⟨h10, hC1⟩⟩
  have h5 := hC1.1.2.1
  refine AW_aload_n dX11_holds_7 rfl ?_
  refine AW_getR (a := 85) dX11_holds_8 gfX11_60 (hS1.cel rfl) (hS1.rf rfl) ?_
  refine AW_callV0 (d' := d - 1) dX11_holds_11 (Or.inl lkX11_199) mfX0_count (hS1.cel rfl) ⟨_, rfl, rfl⟩ (k_fcount hS1) (by omega) (Nat.le_of_ble_eq_true rfl) ?_
  rintro _ _ ⟨e_, rfl⟩ -
  rw [e_]
  clear e_
  rw [h5]
  refine AW_iret dX11_holds_14 rfl ?_
  exact ⟨rfl, hc2, hE1, hF1⟩
theorem mxR_bd {f : List Nat → Int} : ∀ {H : List (List Nat)}, (∀ l, l ∈ H → 0 ≤ f l ∧ f l ≤ 100000) → ∀ a : Int, 0 ≤ a ∧ a ≤ 100000 → 0 ≤ mxR f H a ∧ mxR f H a ≤ 100000 := by
  intro H
  induction H with
  | nil => intro _ a h; exact h
  | cons l t ih =>
    intro hp a h
    rw [mxR_s]
    have := hp l List.mem_cons_self
    exact ih (fun l hl => hp l (List.mem_cons_of_mem _ hl)) _ (by split <;> omega)
theorem x_mended {G : Gt} {d : Nat} {σ : St} (hd : 15 ≤ d) {hc N n : Nat} {K : Nat → Int} (hS : Sta σ) (hE : FeC hc N n K σ)  : AM mX11_mended G d (rfC n N K (σ.2.1 85 10) (heldL K n).length) (rfS n N K (σ.2.1 85 10) (heldL K n).length) [vR 16] σ (fun ro ρ => ro = some (vI (mostV K n - mxR (sR K) (heldL K n) 0)) ∧ ∃ hc2, FeC hc2 (rfN N (σ.2.1 85 10) (heldL K n).length) n K ρ ∧ Ff σ ρ) := by
  refine AM.intro (by decide +kernel) (by simp [nLg]) (Nat.le_of_ble_eq_true rfl) (fun hO => ?_)
  show AW _ _ _ _ _ _ 0 [some (vR 16)] [] σ
  refine AW_up (bc := 0 + rfC n N K (σ.2.1 85 10) (heldL K n).length) (bs := 0 + rfS n N K (σ.2.1 85 10) (heldL K n).length) (by omega) (by omega) ?_
  refine AW_aload_n dX11_mended_0 rfl ?_
  refine AW_getR (a := 85) dX11_mended_1 gfX11_60 (hS.cel rfl) (hS.rf rfl) ?_
  refine AW_callVb0 (d' := d - 1) dX11_mended_4 (Or.inl lkX11_198) mfX0_refresh (hS.cel rfl) ⟨_, rfl, rfl⟩ (k_fref (by omega) hS hE) (by omega) (Nat.le_of_ble_eq_true rfl) ?_
  rintro _ ρ1 ⟨rfl, hL1, h10, hg7, hF1, hc2, hC1⟩ -
  have hS1 := hF1.sta hS
  have hE1 : FeC hc2 (rfN N (σ.2.1 85 10) (heldL K n).length) n K ρ1 := ⟨hL1, hC1.1.1, hg7, Or.inr ⟨h10, hC1⟩⟩
  have h5 := hC1.1.2.1
  refine AW_aload_n dX11_mended_7 rfl ?_
  refine AW_getR (a := 85) dX11_mended_8 gfX11_60 (hS1.cel rfl) (hS1.rf rfl) ?_
  refine AW_callV0 (d' := d - 1) dX11_mended_11 (Or.inl lkX11_200) mfX0_greatest (hS1.cel rfl) ⟨_, rfl, rfl⟩ (k_great hS1) (by omega) (Nat.le_of_ble_eq_true rfl) ?_
  rintro _ _ ⟨e_, rfl⟩ -
  rw [e_]
  clear e_
  rw [hC1.2.2.2.2.1]
  refine AW_aload_n dX11_mended_14 rfl ?_
  refine AW_getR (a := 85) dX11_mended_15 gfX11_60 (hS1.cel rfl) (hS1.rf rfl) ?_
  refine AW_callV0 (d' := d - 1) dX11_mended_18 (Or.inl lkX11_215) mfX0_greatestThatHolds (hS1.cel rfl) ⟨_, rfl, rfl⟩ (k_greatH hS1) (by omega) (Nat.le_of_ble_eq_true rfl) ?_
  rintro _ _ ⟨e_, rfl⟩ -
  rw [e_]
  clear e_
  rw [hC1.2.2.2.1]
  have hb1 := bvM_ge K n n 0
  have hb2 := bvM_le hL1.2.2.2 n n 0
  have hm7 := hL1.2.1
  have hb3 : 0 ≤ mxR (sR K) (heldL K n) 0 ∧ mxR (sR K) (heldL K n) 0 ≤ 100000 := mxR_bd (fun l hl => by
    have h1 := sR_in hL1.2.2.2 l
    have h2 := held_len hl
    omega) 0 (by omega)
  have e1 : mostV K n = bvM K n n 0 := rfl
  refine AW_isubE dX11_mended_21 (by omega) (by omega) ?_
  refine AW_iret dX11_mended_22 rfl ?_
  exact ⟨rfl, hc2, hE1, hF1⟩
theorem x_pairing {G : Gt} {d : Nat} {σ : St} (hd : 15 ≤ d) {hc N n : Nat} {K : Nat → Int} (hS : Sta σ) (hE : FeC hc N n K σ) (which k : Int)  : AM mX11_pairing G d (rfC n N K (σ.2.1 85 10) (heldL K n).length) (rfS n N K (σ.2.1 85 10) (heldL K n).length) [vR 16, vI which, vI k] σ (fun ro ρ => ∃ z : Int, ro = some (vI z) ∧ prA K n which k z ∧ ((¬ (0 ≤ which ∧ (k = -1 ∨ 0 ≤ k ∧ k < n)) ∧ ρ = σ) ∨ ((0 ≤ which ∧ (k = -1 ∨ 0 ≤ k ∧ k < n)) ∧ ∃ hc2, FeC hc2 (rfN N (σ.2.1 85 10) (heldL K n).length) n K ρ ∧ Ff σ ρ))) := by
  refine AM.intro (by decide +kernel) (by simp [nLg]) (Nat.le_of_ble_eq_true rfl) (fun hO => ?_)
  have i_which : -2147483648 ≤ which ∧ which < 2147483648 := hO (vI which) (by simp)
  have i_k : -2147483648 ≤ k ∧ k < 2147483648 := hO (vI k) (by simp)
  show AW _ _ _ _ _ _ 0 [some (vR 16), some (vI which), some (vI k), none] [] σ
  refine AW_iload_n dX11_pairing_0 rfl ?_
  refine AW_if_lt (tgt := 20) dX11_pairing_1 (by decide) (fun c_1 => ?_) (fun c_1 => ?_)
  · skip
    refine AW_iconst dX11_pairing_20 ?_
    refine AW_iret dX11_pairing_21 rfl ?_
    exact ⟨-1, rfl, Or.inl ⟨by omega, rfl⟩, Or.inl ⟨by omega, rfl⟩⟩
  · skip
    refine AW_iload_n dX11_pairing_4 rfl ?_
    refine AW_iconst dX11_pairing_5 ?_
    refine AW_icmp_eq (tgt := 22) dX11_pairing_6 (by decide) (fun c_6 => ?_) (fun c_6 => ?_)
    · skip
      have hgd : 0 ≤ which ∧ (k = -1 ∨ 0 ≤ k ∧ k < n) := by omega
      refine AW_up (bc := 0 + rfC n N K (σ.2.1 85 10) (heldL K n).length) (bs := 0 + rfS n N K (σ.2.1 85 10) (heldL K n).length) (by omega) (by omega) ?_
      refine AW_aload_n dX11_pairing_22 rfl ?_
      refine AW_getR (a := 85) dX11_pairing_23 gfX11_60 (hS.cel rfl) (hS.rf rfl) ?_
      refine AW_callVb0 (d' := d - 1) dX11_pairing_26 (Or.inl lkX11_198) mfX0_refresh (hS.cel rfl) ⟨_, rfl, rfl⟩ (k_fref (by omega) hS hE) (by omega) (Nat.le_of_ble_eq_true rfl) ?_
      rintro _ ρ1 ⟨rfl, hL1, h10, hg7, hF1, hc2, hC1⟩ -
      have hS1 := hF1.sta hS
      have hE1 : FeC hc2 (rfN N (σ.2.1 85 10) (heldL K n).length) n K ρ1 := ⟨hL1, hC1.1.1, hg7, Or.inr ⟨h10, hC1⟩⟩
      have h5 := hC1.1.2.1
      refine AW_iload_n dX11_pairing_29 rfl ?_
      refine AW_iconst dX11_pairing_30 ?_
      refine AW_icmp_ne (tgt := 58) dX11_pairing_31 (by decide) (fun c_31 => ?_) (fun c_31 => ?_)
      · skip
        refine AW_iload_n dX11_pairing_58 rfl ?_
        refine AW_iconst dX11_pairing_59 ?_
        refine AW_icmp_ge (tgt := 74) dX11_pairing_60 (by decide) (fun c_60 => ?_) (fun c_60 => ?_)
        · skip
          refine AW_iload_n dX11_pairing_74 rfl ?_
          refine AW_bipush dX11_pairing_75 ?_
          refine AW_isubE dX11_pairing_77 (by omega) (by omega) ?_
          refine AW_istore3 dX11_pairing_78 ?_
          refine AW_iload_n dX11_pairing_79 rfl ?_
          refine AW_if_lt (tgt := 94) dX11_pairing_80 (by decide) (fun c_80 => ?_) (fun c_80 => ?_)
          · skip
            first
            | (exfalso; have hX := hop; have hY := (List.getElem?_eq_some_iff.mp hl).1; omega; done)
            | ( skip
                refine AW_iconst dX11_pairing_94 ?_
                refine AW_iret dX11_pairing_95 rfl ?_
                exact ⟨_, rfl, Or.inr ⟨hgd, Or.inr (Or.inr (Or.inr ⟨by omega, Or.inr ⟨by omega, rfl⟩⟩))⟩, Or.inr ⟨hgd, hc2, hE1, hF1⟩⟩)
          · skip
            refine AW_iload_n dX11_pairing_83 rfl ?_
            refine AW_aload_n dX11_pairing_84 rfl ?_
            refine AW_getR (a := 85) dX11_pairing_85 gfX11_60 (hS1.cel rfl) (hS1.rf rfl) ?_
            refine AW_callV0 (d' := d - 1) dX11_pairing_88 (Or.inl lkX11_199) mfX0_count (hS1.cel rfl) ⟨_, rfl, rfl⟩ (k_fcount hS1) (by omega) (Nat.le_of_ble_eq_true rfl) ?_
            rintro _ _ ⟨e_, rfl⟩ -
            rw [e_]
            clear e_
            rw [h5]
            refine AW_icmp_lt (tgt := 96) dX11_pairing_91 (by decide) (fun c_91 => ?_) (fun c_91 => ?_)
            · skip
              first
              | (have hX := hop
                 skip)
              | (obtain ⟨h, eh⟩ : ∃ h : Nat, which - 10 = (h : Int) := ⟨(which - 10).toNat, by omega⟩
                 obtain ⟨l, hl⟩ : ∃ l, (heldL K n)[h]? = some l := ⟨_, List.getElem?_eq_getElem (by omega)⟩
                 have hop : (which = 0 ∧ Opt0 K n l) ∨ (which = 1 ∧ Opt1 K n l) ∨ (10 ≤ which ∧ (heldL K n)[(which - 10).toNat]? = some l) := Or.inr (Or.inr ⟨by omega, by rw [eh, Int.toNat_natCast]; exact hl⟩)
                 rw [eh])
              refine AW_iload_n dX11_pairing_96 rfl ?_
              refine AW_iconst dX11_pairing_97 ?_
              refine AW_icmp_ne (tgt := 112) dX11_pairing_98 (by decide) (fun c_98 => ?_) (fun c_98 => ?_)
              · skip
                refine AW_aload_n dX11_pairing_112 rfl ?_
                refine AW_getR (a := 85) dX11_pairing_113 gfX11_60 (hS1.cel rfl) (hS1.rf rfl) ?_
                refine AW_iload_n dX11_pairing_116 rfl ?_
                refine AW_iload_n dX11_pairing_117 rfl ?_
                refine AW_callV2 (d' := d - 1) dX11_pairing_118 (Or.inl lkX11_212) mfX0_womanOf (hS1.cel rfl) ⟨_, rfl, rfl⟩ (k_womanOf (by omega) hS1 hL1 hC1.1 hl (held_iff.mp (List.mem_of_getElem? hl)).1 _ _ k.toNat rfl (by omega) (by omega)) (by omega) (Nat.le_of_ble_eq_true rfl) ?_
                rintro _ _ ⟨e_, rfl⟩ -
                rw [e_]
                clear e_
                refine AW_iret dX11_pairing_121 rfl ?_
                have hv : ∃ z : Int, z = rowV K l k ∧ True := ⟨_, rfl, trivial⟩
                first
                | (refine ⟨_, rfl, Or.inr ⟨hgd, ?_⟩, Or.inr ⟨hgd, hc2, hE1, hF1⟩⟩
                   have ev : sR K l = rowV K l k := by unfold rowV; rw [if_pos (by omega)]
                   rcases hop with q | q | q
                   · exact Or.inr (Or.inl ⟨q.1, l, q.2, ev⟩)
                   · exact Or.inr (Or.inr (Or.inl ⟨q.1, l, q.2, ev⟩))
                   · exact Or.inr (Or.inr (Or.inr ⟨by omega, Or.inl ⟨l, q.1, q.2, ev⟩⟩)))
                | (refine ⟨_, rfl, Or.inr ⟨hgd, ?_⟩, Or.inr ⟨hgd, hc2, hE1, hF1⟩⟩
                   have ev : (l.getD k.toNat 0 : Int) = rowV K l k := by unfold rowV; rw [if_neg (by omega)]
                   rcases hop with q | q | q
                   · exact Or.inr (Or.inl ⟨q.1, l, q.2, ev⟩)
                   · exact Or.inr (Or.inr (Or.inl ⟨q.1, l, q.2, ev⟩))
                   · exact Or.inr (Or.inr (Or.inr ⟨by omega, Or.inl ⟨l, q.1, q.2, ev⟩⟩)))
              · skip
                refine AW_aload_n dX11_pairing_101 rfl ?_
                refine AW_getR (a := 85) dX11_pairing_102 gfX11_60 (hS1.cel rfl) (hS1.rf rfl) ?_
                refine AW_iload_n dX11_pairing_105 rfl ?_
                refine AW_callV1 (d' := d - 1) dX11_pairing_106 (Or.inl lkX11_209) mfX0_total (hS1.cel rfl) ⟨_, rfl, rfl⟩ (k_total (by omega) hS1 hL1 hC1.1 hl (held_iff.mp (List.mem_of_getElem? hl)).1 _ rfl) (by omega) (Nat.le_of_ble_eq_true rfl) ?_
                rintro _ _ ⟨e_, rfl⟩ -
                rw [e_]
                clear e_
                refine AW_goto (tgt := 121) dX11_pairing_109 (by decide) ?_
                refine AW_iret dX11_pairing_121 rfl ?_
                have hv : ∃ z : Int, z = rowV K l k ∧ True := ⟨_, rfl, trivial⟩
                first
                | (refine ⟨_, rfl, Or.inr ⟨hgd, ?_⟩, Or.inr ⟨hgd, hc2, hE1, hF1⟩⟩
                   have ev : sR K l = rowV K l k := by unfold rowV; rw [if_pos (by omega)]
                   rcases hop with q | q | q
                   · exact Or.inr (Or.inl ⟨q.1, l, q.2, ev⟩)
                   · exact Or.inr (Or.inr (Or.inl ⟨q.1, l, q.2, ev⟩))
                   · exact Or.inr (Or.inr (Or.inr ⟨by omega, Or.inl ⟨l, q.1, q.2, ev⟩⟩)))
                | (refine ⟨_, rfl, Or.inr ⟨hgd, ?_⟩, Or.inr ⟨hgd, hc2, hE1, hF1⟩⟩
                   have ev : (l.getD k.toNat 0 : Int) = rowV K l k := by unfold rowV; rw [if_neg (by omega)]
                   rcases hop with q | q | q
                   · exact Or.inr (Or.inl ⟨q.1, l, q.2, ev⟩)
                   · exact Or.inr (Or.inr (Or.inl ⟨q.1, l, q.2, ev⟩))
                   · exact Or.inr (Or.inr (Or.inr ⟨by omega, Or.inl ⟨l, q.1, q.2, ev⟩⟩)))
            · skip
              first
              | (exfalso; have hX := hop; have hY := (List.getElem?_eq_some_iff.mp hl).1; omega; done)
              | ( skip
                  refine AW_iconst dX11_pairing_94 ?_
                  refine AW_iret dX11_pairing_95 rfl ?_
                  exact ⟨_, rfl, Or.inr ⟨hgd, Or.inr (Or.inr (Or.inr ⟨by omega, Or.inr ⟨by omega, rfl⟩⟩))⟩, Or.inr ⟨hgd, hc2, hE1, hF1⟩⟩)
        · skip
          obtain ⟨h, l, eh, hl, hop⟩ : ∃ (h : Nat) (l : List Nat), (if which = 0 then ρ1.2.1 85 7 else ρ1.2.1 85 8) = (h : Int) ∧ (heldL K n)[h]? = some l ∧ ((which = 0 ∧ Opt0 K n l) ∨ (which = 1 ∧ Opt1 K n l) ∨ (10 ≤ which ∧ (heldL K n)[(which - 10).toNat]? = some l)) := by
            by_cases q : which = 0
            · obtain ⟨l, p1, p2⟩ := hC1.2.1
              exact ⟨_, l, by rw [if_pos q]; omega, p1, Or.inl ⟨q, p2⟩⟩
            · obtain ⟨l, p1, p2⟩ := hC1.2.2.1
              exact ⟨_, l, by rw [if_neg q]; omega, p1, Or.inr (Or.inl ⟨by omega, p2⟩)⟩
          refine AW_aload_n dX11_pairing_63 rfl ?_
          refine AW_getR (a := 85) dX11_pairing_64 gfX11_60 (hS1.cel rfl) (hS1.rf rfl) ?_
          refine AW_iload_n dX11_pairing_67 rfl ?_
          refine AW_callV1 (d' := d - 1) dX11_pairing_68 (Or.inl lkX11_206) mfX0_bestFor (hS1.cel rfl) ⟨_, rfl, rfl⟩ (k_bestFor hS1 which) (by omega) (Nat.le_of_ble_eq_true rfl) ?_
          rintro _ _ ⟨e_, rfl⟩ -
          rw [e_]
          clear e_
          rw [eh]
          refine AW_goto (tgt := 78) dX11_pairing_71 (by decide) ?_
          refine AW_istore3 dX11_pairing_78 ?_
          refine AW_iload_n dX11_pairing_79 rfl ?_
          refine AW_if_lt (tgt := 94) dX11_pairing_80 (by decide) (fun c_80 => ?_) (fun c_80 => ?_)
          · skip
            first
            | (exfalso; have hX := hop; have hY := (List.getElem?_eq_some_iff.mp hl).1; omega; done)
            | ( skip
                refine AW_iconst dX11_pairing_94 ?_
                refine AW_iret dX11_pairing_95 rfl ?_
                exact ⟨_, rfl, Or.inr ⟨hgd, Or.inr (Or.inr (Or.inr ⟨by omega, Or.inr ⟨by omega, rfl⟩⟩))⟩, Or.inr ⟨hgd, hc2, hE1, hF1⟩⟩)
          · skip
            refine AW_iload_n dX11_pairing_83 rfl ?_
            refine AW_aload_n dX11_pairing_84 rfl ?_
            refine AW_getR (a := 85) dX11_pairing_85 gfX11_60 (hS1.cel rfl) (hS1.rf rfl) ?_
            refine AW_callV0 (d' := d - 1) dX11_pairing_88 (Or.inl lkX11_199) mfX0_count (hS1.cel rfl) ⟨_, rfl, rfl⟩ (k_fcount hS1) (by omega) (Nat.le_of_ble_eq_true rfl) ?_
            rintro _ _ ⟨e_, rfl⟩ -
            rw [e_]
            clear e_
            rw [h5]
            refine AW_icmp_lt (tgt := 96) dX11_pairing_91 (by decide) (fun c_91 => ?_) (fun c_91 => ?_)
            · skip
              first
              | (have hX := hop
                 skip)
              | (obtain ⟨h, eh⟩ : ∃ h : Nat, which - 10 = (h : Int) := ⟨(which - 10).toNat, by omega⟩
                 obtain ⟨l, hl⟩ : ∃ l, (heldL K n)[h]? = some l := ⟨_, List.getElem?_eq_getElem (by omega)⟩
                 have hop : (which = 0 ∧ Opt0 K n l) ∨ (which = 1 ∧ Opt1 K n l) ∨ (10 ≤ which ∧ (heldL K n)[(which - 10).toNat]? = some l) := Or.inr (Or.inr ⟨by omega, by rw [eh, Int.toNat_natCast]; exact hl⟩)
                 rw [eh])
              refine AW_iload_n dX11_pairing_96 rfl ?_
              refine AW_iconst dX11_pairing_97 ?_
              refine AW_icmp_ne (tgt := 112) dX11_pairing_98 (by decide) (fun c_98 => ?_) (fun c_98 => ?_)
              · skip
                refine AW_aload_n dX11_pairing_112 rfl ?_
                refine AW_getR (a := 85) dX11_pairing_113 gfX11_60 (hS1.cel rfl) (hS1.rf rfl) ?_
                refine AW_iload_n dX11_pairing_116 rfl ?_
                refine AW_iload_n dX11_pairing_117 rfl ?_
                refine AW_callV2 (d' := d - 1) dX11_pairing_118 (Or.inl lkX11_212) mfX0_womanOf (hS1.cel rfl) ⟨_, rfl, rfl⟩ (k_womanOf (by omega) hS1 hL1 hC1.1 hl (held_iff.mp (List.mem_of_getElem? hl)).1 _ _ k.toNat rfl (by omega) (by omega)) (by omega) (Nat.le_of_ble_eq_true rfl) ?_
                rintro _ _ ⟨e_, rfl⟩ -
                rw [e_]
                clear e_
                refine AW_iret dX11_pairing_121 rfl ?_
                have hv : ∃ z : Int, z = rowV K l k ∧ True := ⟨_, rfl, trivial⟩
                first
                | (refine ⟨_, rfl, Or.inr ⟨hgd, ?_⟩, Or.inr ⟨hgd, hc2, hE1, hF1⟩⟩
                   have ev : sR K l = rowV K l k := by unfold rowV; rw [if_pos (by omega)]
                   rcases hop with q | q | q
                   · exact Or.inr (Or.inl ⟨q.1, l, q.2, ev⟩)
                   · exact Or.inr (Or.inr (Or.inl ⟨q.1, l, q.2, ev⟩))
                   · exact Or.inr (Or.inr (Or.inr ⟨by omega, Or.inl ⟨l, q.1, q.2, ev⟩⟩)))
                | (refine ⟨_, rfl, Or.inr ⟨hgd, ?_⟩, Or.inr ⟨hgd, hc2, hE1, hF1⟩⟩
                   have ev : (l.getD k.toNat 0 : Int) = rowV K l k := by unfold rowV; rw [if_neg (by omega)]
                   rcases hop with q | q | q
                   · exact Or.inr (Or.inl ⟨q.1, l, q.2, ev⟩)
                   · exact Or.inr (Or.inr (Or.inl ⟨q.1, l, q.2, ev⟩))
                   · exact Or.inr (Or.inr (Or.inr ⟨by omega, Or.inl ⟨l, q.1, q.2, ev⟩⟩)))
              · skip
                refine AW_aload_n dX11_pairing_101 rfl ?_
                refine AW_getR (a := 85) dX11_pairing_102 gfX11_60 (hS1.cel rfl) (hS1.rf rfl) ?_
                refine AW_iload_n dX11_pairing_105 rfl ?_
                refine AW_callV1 (d' := d - 1) dX11_pairing_106 (Or.inl lkX11_209) mfX0_total (hS1.cel rfl) ⟨_, rfl, rfl⟩ (k_total (by omega) hS1 hL1 hC1.1 hl (held_iff.mp (List.mem_of_getElem? hl)).1 _ rfl) (by omega) (Nat.le_of_ble_eq_true rfl) ?_
                rintro _ _ ⟨e_, rfl⟩ -
                rw [e_]
                clear e_
                refine AW_goto (tgt := 121) dX11_pairing_109 (by decide) ?_
                refine AW_iret dX11_pairing_121 rfl ?_
                have hv : ∃ z : Int, z = rowV K l k ∧ True := ⟨_, rfl, trivial⟩
                first
                | (refine ⟨_, rfl, Or.inr ⟨hgd, ?_⟩, Or.inr ⟨hgd, hc2, hE1, hF1⟩⟩
                   have ev : sR K l = rowV K l k := by unfold rowV; rw [if_pos (by omega)]
                   rcases hop with q | q | q
                   · exact Or.inr (Or.inl ⟨q.1, l, q.2, ev⟩)
                   · exact Or.inr (Or.inr (Or.inl ⟨q.1, l, q.2, ev⟩))
                   · exact Or.inr (Or.inr (Or.inr ⟨by omega, Or.inl ⟨l, q.1, q.2, ev⟩⟩)))
                | (refine ⟨_, rfl, Or.inr ⟨hgd, ?_⟩, Or.inr ⟨hgd, hc2, hE1, hF1⟩⟩
                   have ev : (l.getD k.toNat 0 : Int) = rowV K l k := by unfold rowV; rw [if_neg (by omega)]
                   rcases hop with q | q | q
                   · exact Or.inr (Or.inl ⟨q.1, l, q.2, ev⟩)
                   · exact Or.inr (Or.inr (Or.inl ⟨q.1, l, q.2, ev⟩))
                   · exact Or.inr (Or.inr (Or.inr ⟨by omega, Or.inl ⟨l, q.1, q.2, ev⟩⟩)))
            · skip
              first
              | (exfalso; have hX := hop; have hY := (List.getElem?_eq_some_iff.mp hl).1; omega; done)
              | ( skip
                  refine AW_iconst dX11_pairing_94 ?_
                  refine AW_iret dX11_pairing_95 rfl ?_
                  exact ⟨_, rfl, Or.inr ⟨hgd, Or.inr (Or.inr (Or.inr ⟨by omega, Or.inr ⟨by omega, rfl⟩⟩))⟩, Or.inr ⟨hgd, hc2, hE1, hF1⟩⟩)
      · skip
        refine AW_iload_n dX11_pairing_34 rfl ?_
        refine AW_iconst dX11_pairing_35 ?_
        refine AW_icmp_ne (tgt := 49) dX11_pairing_36 (by decide) (fun c_36 => ?_) (fun c_36 => ?_)
        · skip
          refine AW_aload_n dX11_pairing_49 rfl ?_
          refine AW_getR (a := 85) dX11_pairing_50 gfX11_60 (hS1.cel rfl) (hS1.rf rfl) ?_
          refine AW_iload_n dX11_pairing_53 rfl ?_
          refine AW_callV1 (d' := d - 1) dX11_pairing_54 (Or.inl lkX11_203) mfX0_mostOf (hS1.cel rfl) ⟨_, rfl, rfl⟩ (k_mostOf (by omega) hS1 hL1 k (by omega)) (by omega) (Nat.le_of_ble_eq_true rfl) ?_
          rintro _ _ ⟨e_, rfl⟩ -
          rw [e_]
          clear e_
          rw [hC1.2.2.2.2.2 _ (by omega)]
          refine AW_iret dX11_pairing_57 rfl ?_
          refine ⟨_, rfl, Or.inr ⟨hgd, Or.inl ⟨by omega, ?_⟩⟩, Or.inr ⟨hgd, hc2, hE1, hF1⟩⟩
          first | (rw [if_pos (by omega)]; done) | (rw [if_neg (by omega)]; done)
        · skip
          refine AW_aload_n dX11_pairing_39 rfl ?_
          refine AW_getR (a := 85) dX11_pairing_40 gfX11_60 (hS1.cel rfl) (hS1.rf rfl) ?_
          refine AW_callV0 (d' := d - 1) dX11_pairing_43 (Or.inl lkX11_200) mfX0_greatest (hS1.cel rfl) ⟨_, rfl, rfl⟩ (k_great hS1) (by omega) (Nat.le_of_ble_eq_true rfl) ?_
          rintro _ _ ⟨e_, rfl⟩ -
          rw [e_]
          clear e_
          rw [hC1.2.2.2.2.1]
          refine AW_goto (tgt := 57) dX11_pairing_46 (by decide) ?_
          refine AW_iret dX11_pairing_57 rfl ?_
          refine ⟨_, rfl, Or.inr ⟨hgd, Or.inl ⟨by omega, ?_⟩⟩, Or.inr ⟨hgd, hc2, hE1, hF1⟩⟩
          first | (rw [if_pos (by omega)]; done) | (rw [if_neg (by omega)]; done)
    · skip
      refine AW_aload_n dX11_pairing_9 rfl ?_
      refine AW_getR (a := 85) dX11_pairing_10 gfX11_60 (hS.cel rfl) (hS.rf rfl) ?_
      refine AW_iload_n dX11_pairing_13 rfl ?_
      refine AW_callV1 (d' := d - 1) dX11_pairing_14 (Or.inl lkX11_194) mfX0_isGuest (hS.cel rfl) ⟨_, rfl, rfl⟩ (k_isGuest hS hE.1 k) (by omega) (Nat.le_of_ble_eq_true rfl) ?_
      rintro _ _ ⟨e_, rfl⟩ -
      rw [e_]
      clear e_
      refine AW_if_ne (tgt := 22) dX11_pairing_17 (by decide) (fun c_17 => ?_) (fun c_17 => ?_)
      · skip
        replace c_17 := bz1 c_17
        have hgd : 0 ≤ which ∧ (k = -1 ∨ 0 ≤ k ∧ k < n) := by omega
        refine AW_up (bc := 0 + rfC n N K (σ.2.1 85 10) (heldL K n).length) (bs := 0 + rfS n N K (σ.2.1 85 10) (heldL K n).length) (by omega) (by omega) ?_
        refine AW_aload_n dX11_pairing_22 rfl ?_
        refine AW_getR (a := 85) dX11_pairing_23 gfX11_60 (hS.cel rfl) (hS.rf rfl) ?_
        refine AW_callVb0 (d' := d - 1) dX11_pairing_26 (Or.inl lkX11_198) mfX0_refresh (hS.cel rfl) ⟨_, rfl, rfl⟩ (k_fref (by omega) hS hE) (by omega) (Nat.le_of_ble_eq_true rfl) ?_
        rintro _ ρ1 ⟨rfl, hL1, h10, hg7, hF1, hc2, hC1⟩ -
        have hS1 := hF1.sta hS
        have hE1 : FeC hc2 (rfN N (σ.2.1 85 10) (heldL K n).length) n K ρ1 := ⟨hL1, hC1.1.1, hg7, Or.inr ⟨h10, hC1⟩⟩
        have h5 := hC1.1.2.1
        refine AW_iload_n dX11_pairing_29 rfl ?_
        refine AW_iconst dX11_pairing_30 ?_
        refine AW_icmp_ne (tgt := 58) dX11_pairing_31 (by decide) (fun c_31 => ?_) (fun c_31 => ?_)
        · skip
          refine AW_iload_n dX11_pairing_58 rfl ?_
          refine AW_iconst dX11_pairing_59 ?_
          refine AW_icmp_ge (tgt := 74) dX11_pairing_60 (by decide) (fun c_60 => ?_) (fun c_60 => ?_)
          · skip
            refine AW_iload_n dX11_pairing_74 rfl ?_
            refine AW_bipush dX11_pairing_75 ?_
            refine AW_isubE dX11_pairing_77 (by omega) (by omega) ?_
            refine AW_istore3 dX11_pairing_78 ?_
            refine AW_iload_n dX11_pairing_79 rfl ?_
            refine AW_if_lt (tgt := 94) dX11_pairing_80 (by decide) (fun c_80 => ?_) (fun c_80 => ?_)
            · skip
              first
              | (exfalso; have hX := hop; have hY := (List.getElem?_eq_some_iff.mp hl).1; omega; done)
              | ( skip
                  refine AW_iconst dX11_pairing_94 ?_
                  refine AW_iret dX11_pairing_95 rfl ?_
                  exact ⟨_, rfl, Or.inr ⟨hgd, Or.inr (Or.inr (Or.inr ⟨by omega, Or.inr ⟨by omega, rfl⟩⟩))⟩, Or.inr ⟨hgd, hc2, hE1, hF1⟩⟩)
            · skip
              refine AW_iload_n dX11_pairing_83 rfl ?_
              refine AW_aload_n dX11_pairing_84 rfl ?_
              refine AW_getR (a := 85) dX11_pairing_85 gfX11_60 (hS1.cel rfl) (hS1.rf rfl) ?_
              refine AW_callV0 (d' := d - 1) dX11_pairing_88 (Or.inl lkX11_199) mfX0_count (hS1.cel rfl) ⟨_, rfl, rfl⟩ (k_fcount hS1) (by omega) (Nat.le_of_ble_eq_true rfl) ?_
              rintro _ _ ⟨e_, rfl⟩ -
              rw [e_]
              clear e_
              rw [h5]
              refine AW_icmp_lt (tgt := 96) dX11_pairing_91 (by decide) (fun c_91 => ?_) (fun c_91 => ?_)
              · skip
                first
                | (have hX := hop
                   skip)
                | (obtain ⟨h, eh⟩ : ∃ h : Nat, which - 10 = (h : Int) := ⟨(which - 10).toNat, by omega⟩
                   obtain ⟨l, hl⟩ : ∃ l, (heldL K n)[h]? = some l := ⟨_, List.getElem?_eq_getElem (by omega)⟩
                   have hop : (which = 0 ∧ Opt0 K n l) ∨ (which = 1 ∧ Opt1 K n l) ∨ (10 ≤ which ∧ (heldL K n)[(which - 10).toNat]? = some l) := Or.inr (Or.inr ⟨by omega, by rw [eh, Int.toNat_natCast]; exact hl⟩)
                   rw [eh])
                refine AW_iload_n dX11_pairing_96 rfl ?_
                refine AW_iconst dX11_pairing_97 ?_
                refine AW_icmp_ne (tgt := 112) dX11_pairing_98 (by decide) (fun c_98 => ?_) (fun c_98 => ?_)
                · skip
                  refine AW_aload_n dX11_pairing_112 rfl ?_
                  refine AW_getR (a := 85) dX11_pairing_113 gfX11_60 (hS1.cel rfl) (hS1.rf rfl) ?_
                  refine AW_iload_n dX11_pairing_116 rfl ?_
                  refine AW_iload_n dX11_pairing_117 rfl ?_
                  refine AW_callV2 (d' := d - 1) dX11_pairing_118 (Or.inl lkX11_212) mfX0_womanOf (hS1.cel rfl) ⟨_, rfl, rfl⟩ (k_womanOf (by omega) hS1 hL1 hC1.1 hl (held_iff.mp (List.mem_of_getElem? hl)).1 _ _ k.toNat rfl (by omega) (by omega)) (by omega) (Nat.le_of_ble_eq_true rfl) ?_
                  rintro _ _ ⟨e_, rfl⟩ -
                  rw [e_]
                  clear e_
                  refine AW_iret dX11_pairing_121 rfl ?_
                  have hv : ∃ z : Int, z = rowV K l k ∧ True := ⟨_, rfl, trivial⟩
                  first
                  | (refine ⟨_, rfl, Or.inr ⟨hgd, ?_⟩, Or.inr ⟨hgd, hc2, hE1, hF1⟩⟩
                     have ev : sR K l = rowV K l k := by unfold rowV; rw [if_pos (by omega)]
                     rcases hop with q | q | q
                     · exact Or.inr (Or.inl ⟨q.1, l, q.2, ev⟩)
                     · exact Or.inr (Or.inr (Or.inl ⟨q.1, l, q.2, ev⟩))
                     · exact Or.inr (Or.inr (Or.inr ⟨by omega, Or.inl ⟨l, q.1, q.2, ev⟩⟩)))
                  | (refine ⟨_, rfl, Or.inr ⟨hgd, ?_⟩, Or.inr ⟨hgd, hc2, hE1, hF1⟩⟩
                     have ev : (l.getD k.toNat 0 : Int) = rowV K l k := by unfold rowV; rw [if_neg (by omega)]
                     rcases hop with q | q | q
                     · exact Or.inr (Or.inl ⟨q.1, l, q.2, ev⟩)
                     · exact Or.inr (Or.inr (Or.inl ⟨q.1, l, q.2, ev⟩))
                     · exact Or.inr (Or.inr (Or.inr ⟨by omega, Or.inl ⟨l, q.1, q.2, ev⟩⟩)))
                · skip
                  refine AW_aload_n dX11_pairing_101 rfl ?_
                  refine AW_getR (a := 85) dX11_pairing_102 gfX11_60 (hS1.cel rfl) (hS1.rf rfl) ?_
                  refine AW_iload_n dX11_pairing_105 rfl ?_
                  refine AW_callV1 (d' := d - 1) dX11_pairing_106 (Or.inl lkX11_209) mfX0_total (hS1.cel rfl) ⟨_, rfl, rfl⟩ (k_total (by omega) hS1 hL1 hC1.1 hl (held_iff.mp (List.mem_of_getElem? hl)).1 _ rfl) (by omega) (Nat.le_of_ble_eq_true rfl) ?_
                  rintro _ _ ⟨e_, rfl⟩ -
                  rw [e_]
                  clear e_
                  refine AW_goto (tgt := 121) dX11_pairing_109 (by decide) ?_
                  refine AW_iret dX11_pairing_121 rfl ?_
                  have hv : ∃ z : Int, z = rowV K l k ∧ True := ⟨_, rfl, trivial⟩
                  first
                  | (refine ⟨_, rfl, Or.inr ⟨hgd, ?_⟩, Or.inr ⟨hgd, hc2, hE1, hF1⟩⟩
                     have ev : sR K l = rowV K l k := by unfold rowV; rw [if_pos (by omega)]
                     rcases hop with q | q | q
                     · exact Or.inr (Or.inl ⟨q.1, l, q.2, ev⟩)
                     · exact Or.inr (Or.inr (Or.inl ⟨q.1, l, q.2, ev⟩))
                     · exact Or.inr (Or.inr (Or.inr ⟨by omega, Or.inl ⟨l, q.1, q.2, ev⟩⟩)))
                  | (refine ⟨_, rfl, Or.inr ⟨hgd, ?_⟩, Or.inr ⟨hgd, hc2, hE1, hF1⟩⟩
                     have ev : (l.getD k.toNat 0 : Int) = rowV K l k := by unfold rowV; rw [if_neg (by omega)]
                     rcases hop with q | q | q
                     · exact Or.inr (Or.inl ⟨q.1, l, q.2, ev⟩)
                     · exact Or.inr (Or.inr (Or.inl ⟨q.1, l, q.2, ev⟩))
                     · exact Or.inr (Or.inr (Or.inr ⟨by omega, Or.inl ⟨l, q.1, q.2, ev⟩⟩)))
              · skip
                first
                | (exfalso; have hX := hop; have hY := (List.getElem?_eq_some_iff.mp hl).1; omega; done)
                | ( skip
                    refine AW_iconst dX11_pairing_94 ?_
                    refine AW_iret dX11_pairing_95 rfl ?_
                    exact ⟨_, rfl, Or.inr ⟨hgd, Or.inr (Or.inr (Or.inr ⟨by omega, Or.inr ⟨by omega, rfl⟩⟩))⟩, Or.inr ⟨hgd, hc2, hE1, hF1⟩⟩)
          · skip
            obtain ⟨h, l, eh, hl, hop⟩ : ∃ (h : Nat) (l : List Nat), (if which = 0 then ρ1.2.1 85 7 else ρ1.2.1 85 8) = (h : Int) ∧ (heldL K n)[h]? = some l ∧ ((which = 0 ∧ Opt0 K n l) ∨ (which = 1 ∧ Opt1 K n l) ∨ (10 ≤ which ∧ (heldL K n)[(which - 10).toNat]? = some l)) := by
              by_cases q : which = 0
              · obtain ⟨l, p1, p2⟩ := hC1.2.1
                exact ⟨_, l, by rw [if_pos q]; omega, p1, Or.inl ⟨q, p2⟩⟩
              · obtain ⟨l, p1, p2⟩ := hC1.2.2.1
                exact ⟨_, l, by rw [if_neg q]; omega, p1, Or.inr (Or.inl ⟨by omega, p2⟩)⟩
            refine AW_aload_n dX11_pairing_63 rfl ?_
            refine AW_getR (a := 85) dX11_pairing_64 gfX11_60 (hS1.cel rfl) (hS1.rf rfl) ?_
            refine AW_iload_n dX11_pairing_67 rfl ?_
            refine AW_callV1 (d' := d - 1) dX11_pairing_68 (Or.inl lkX11_206) mfX0_bestFor (hS1.cel rfl) ⟨_, rfl, rfl⟩ (k_bestFor hS1 which) (by omega) (Nat.le_of_ble_eq_true rfl) ?_
            rintro _ _ ⟨e_, rfl⟩ -
            rw [e_]
            clear e_
            rw [eh]
            refine AW_goto (tgt := 78) dX11_pairing_71 (by decide) ?_
            refine AW_istore3 dX11_pairing_78 ?_
            refine AW_iload_n dX11_pairing_79 rfl ?_
            refine AW_if_lt (tgt := 94) dX11_pairing_80 (by decide) (fun c_80 => ?_) (fun c_80 => ?_)
            · skip
              first
              | (exfalso; have hX := hop; have hY := (List.getElem?_eq_some_iff.mp hl).1; omega; done)
              | ( skip
                  refine AW_iconst dX11_pairing_94 ?_
                  refine AW_iret dX11_pairing_95 rfl ?_
                  exact ⟨_, rfl, Or.inr ⟨hgd, Or.inr (Or.inr (Or.inr ⟨by omega, Or.inr ⟨by omega, rfl⟩⟩))⟩, Or.inr ⟨hgd, hc2, hE1, hF1⟩⟩)
            · skip
              refine AW_iload_n dX11_pairing_83 rfl ?_
              refine AW_aload_n dX11_pairing_84 rfl ?_
              refine AW_getR (a := 85) dX11_pairing_85 gfX11_60 (hS1.cel rfl) (hS1.rf rfl) ?_
              refine AW_callV0 (d' := d - 1) dX11_pairing_88 (Or.inl lkX11_199) mfX0_count (hS1.cel rfl) ⟨_, rfl, rfl⟩ (k_fcount hS1) (by omega) (Nat.le_of_ble_eq_true rfl) ?_
              rintro _ _ ⟨e_, rfl⟩ -
              rw [e_]
              clear e_
              rw [h5]
              refine AW_icmp_lt (tgt := 96) dX11_pairing_91 (by decide) (fun c_91 => ?_) (fun c_91 => ?_)
              · skip
                first
                | (have hX := hop
                   skip)
                | (obtain ⟨h, eh⟩ : ∃ h : Nat, which - 10 = (h : Int) := ⟨(which - 10).toNat, by omega⟩
                   obtain ⟨l, hl⟩ : ∃ l, (heldL K n)[h]? = some l := ⟨_, List.getElem?_eq_getElem (by omega)⟩
                   have hop : (which = 0 ∧ Opt0 K n l) ∨ (which = 1 ∧ Opt1 K n l) ∨ (10 ≤ which ∧ (heldL K n)[(which - 10).toNat]? = some l) := Or.inr (Or.inr ⟨by omega, by rw [eh, Int.toNat_natCast]; exact hl⟩)
                   rw [eh])
                refine AW_iload_n dX11_pairing_96 rfl ?_
                refine AW_iconst dX11_pairing_97 ?_
                refine AW_icmp_ne (tgt := 112) dX11_pairing_98 (by decide) (fun c_98 => ?_) (fun c_98 => ?_)
                · skip
                  refine AW_aload_n dX11_pairing_112 rfl ?_
                  refine AW_getR (a := 85) dX11_pairing_113 gfX11_60 (hS1.cel rfl) (hS1.rf rfl) ?_
                  refine AW_iload_n dX11_pairing_116 rfl ?_
                  refine AW_iload_n dX11_pairing_117 rfl ?_
                  refine AW_callV2 (d' := d - 1) dX11_pairing_118 (Or.inl lkX11_212) mfX0_womanOf (hS1.cel rfl) ⟨_, rfl, rfl⟩ (k_womanOf (by omega) hS1 hL1 hC1.1 hl (held_iff.mp (List.mem_of_getElem? hl)).1 _ _ k.toNat rfl (by omega) (by omega)) (by omega) (Nat.le_of_ble_eq_true rfl) ?_
                  rintro _ _ ⟨e_, rfl⟩ -
                  rw [e_]
                  clear e_
                  refine AW_iret dX11_pairing_121 rfl ?_
                  have hv : ∃ z : Int, z = rowV K l k ∧ True := ⟨_, rfl, trivial⟩
                  first
                  | (refine ⟨_, rfl, Or.inr ⟨hgd, ?_⟩, Or.inr ⟨hgd, hc2, hE1, hF1⟩⟩
                     have ev : sR K l = rowV K l k := by unfold rowV; rw [if_pos (by omega)]
                     rcases hop with q | q | q
                     · exact Or.inr (Or.inl ⟨q.1, l, q.2, ev⟩)
                     · exact Or.inr (Or.inr (Or.inl ⟨q.1, l, q.2, ev⟩))
                     · exact Or.inr (Or.inr (Or.inr ⟨by omega, Or.inl ⟨l, q.1, q.2, ev⟩⟩)))
                  | (refine ⟨_, rfl, Or.inr ⟨hgd, ?_⟩, Or.inr ⟨hgd, hc2, hE1, hF1⟩⟩
                     have ev : (l.getD k.toNat 0 : Int) = rowV K l k := by unfold rowV; rw [if_neg (by omega)]
                     rcases hop with q | q | q
                     · exact Or.inr (Or.inl ⟨q.1, l, q.2, ev⟩)
                     · exact Or.inr (Or.inr (Or.inl ⟨q.1, l, q.2, ev⟩))
                     · exact Or.inr (Or.inr (Or.inr ⟨by omega, Or.inl ⟨l, q.1, q.2, ev⟩⟩)))
                · skip
                  refine AW_aload_n dX11_pairing_101 rfl ?_
                  refine AW_getR (a := 85) dX11_pairing_102 gfX11_60 (hS1.cel rfl) (hS1.rf rfl) ?_
                  refine AW_iload_n dX11_pairing_105 rfl ?_
                  refine AW_callV1 (d' := d - 1) dX11_pairing_106 (Or.inl lkX11_209) mfX0_total (hS1.cel rfl) ⟨_, rfl, rfl⟩ (k_total (by omega) hS1 hL1 hC1.1 hl (held_iff.mp (List.mem_of_getElem? hl)).1 _ rfl) (by omega) (Nat.le_of_ble_eq_true rfl) ?_
                  rintro _ _ ⟨e_, rfl⟩ -
                  rw [e_]
                  clear e_
                  refine AW_goto (tgt := 121) dX11_pairing_109 (by decide) ?_
                  refine AW_iret dX11_pairing_121 rfl ?_
                  have hv : ∃ z : Int, z = rowV K l k ∧ True := ⟨_, rfl, trivial⟩
                  first
                  | (refine ⟨_, rfl, Or.inr ⟨hgd, ?_⟩, Or.inr ⟨hgd, hc2, hE1, hF1⟩⟩
                     have ev : sR K l = rowV K l k := by unfold rowV; rw [if_pos (by omega)]
                     rcases hop with q | q | q
                     · exact Or.inr (Or.inl ⟨q.1, l, q.2, ev⟩)
                     · exact Or.inr (Or.inr (Or.inl ⟨q.1, l, q.2, ev⟩))
                     · exact Or.inr (Or.inr (Or.inr ⟨by omega, Or.inl ⟨l, q.1, q.2, ev⟩⟩)))
                  | (refine ⟨_, rfl, Or.inr ⟨hgd, ?_⟩, Or.inr ⟨hgd, hc2, hE1, hF1⟩⟩
                     have ev : (l.getD k.toNat 0 : Int) = rowV K l k := by unfold rowV; rw [if_neg (by omega)]
                     rcases hop with q | q | q
                     · exact Or.inr (Or.inl ⟨q.1, l, q.2, ev⟩)
                     · exact Or.inr (Or.inr (Or.inl ⟨q.1, l, q.2, ev⟩))
                     · exact Or.inr (Or.inr (Or.inr ⟨by omega, Or.inl ⟨l, q.1, q.2, ev⟩⟩)))
              · skip
                first
                | (exfalso; have hX := hop; have hY := (List.getElem?_eq_some_iff.mp hl).1; omega; done)
                | ( skip
                    refine AW_iconst dX11_pairing_94 ?_
                    refine AW_iret dX11_pairing_95 rfl ?_
                    exact ⟨_, rfl, Or.inr ⟨hgd, Or.inr (Or.inr (Or.inr ⟨by omega, Or.inr ⟨by omega, rfl⟩⟩))⟩, Or.inr ⟨hgd, hc2, hE1, hF1⟩⟩)
        · skip
          refine AW_iload_n dX11_pairing_34 rfl ?_
          refine AW_iconst dX11_pairing_35 ?_
          refine AW_icmp_ne (tgt := 49) dX11_pairing_36 (by decide) (fun c_36 => ?_) (fun c_36 => ?_)
          · skip
            refine AW_aload_n dX11_pairing_49 rfl ?_
            refine AW_getR (a := 85) dX11_pairing_50 gfX11_60 (hS1.cel rfl) (hS1.rf rfl) ?_
            refine AW_iload_n dX11_pairing_53 rfl ?_
            refine AW_callV1 (d' := d - 1) dX11_pairing_54 (Or.inl lkX11_203) mfX0_mostOf (hS1.cel rfl) ⟨_, rfl, rfl⟩ (k_mostOf (by omega) hS1 hL1 k (by omega)) (by omega) (Nat.le_of_ble_eq_true rfl) ?_
            rintro _ _ ⟨e_, rfl⟩ -
            rw [e_]
            clear e_
            rw [hC1.2.2.2.2.2 _ (by omega)]
            refine AW_iret dX11_pairing_57 rfl ?_
            refine ⟨_, rfl, Or.inr ⟨hgd, Or.inl ⟨by omega, ?_⟩⟩, Or.inr ⟨hgd, hc2, hE1, hF1⟩⟩
            first | (rw [if_pos (by omega)]; done) | (rw [if_neg (by omega)]; done)
          · skip
            refine AW_aload_n dX11_pairing_39 rfl ?_
            refine AW_getR (a := 85) dX11_pairing_40 gfX11_60 (hS1.cel rfl) (hS1.rf rfl) ?_
            refine AW_callV0 (d' := d - 1) dX11_pairing_43 (Or.inl lkX11_200) mfX0_greatest (hS1.cel rfl) ⟨_, rfl, rfl⟩ (k_great hS1) (by omega) (Nat.le_of_ble_eq_true rfl) ?_
            rintro _ _ ⟨e_, rfl⟩ -
            rw [e_]
            clear e_
            rw [hC1.2.2.2.2.1]
            refine AW_goto (tgt := 57) dX11_pairing_46 (by decide) ?_
            refine AW_iret dX11_pairing_57 rfl ?_
            refine ⟨_, rfl, Or.inr ⟨hgd, Or.inl ⟨by omega, ?_⟩⟩, Or.inr ⟨hgd, hc2, hE1, hF1⟩⟩
            first | (rw [if_pos (by omega)]; done) | (rw [if_neg (by omega)]; done)
      · skip
        replace c_17 := bz0 c_17
        refine AW_iconst dX11_pairing_20 ?_
        refine AW_iret dX11_pairing_21 rfl ?_
        exact ⟨-1, rfl, Or.inl ⟨by omega, rfl⟩, Or.inl ⟨by omega, rfl⟩⟩
theorem k_ask {G : Gt} {d : Nat} {σ : St}  {Q : Nat → Int} (hS : Sta σ) (hP : PrC Q σ) (w v : Int) (hw : 0 ≤ w ∧ w < 7) (hv : 0 ≤ v ∧ v ≤ 999) : AM mX5_ask G d 0 0 [vR 91, vI w, vI v] σ (fun ro ρ => ro = none ∧ PrC (kPut Q w.toNat v) ρ ∧ Fr [92] σ ρ) := by
  refine AM.intro (by decide +kernel) (by simp [nLg]) (Nat.le_of_ble_eq_true rfl) (fun hO => ?_)
  have i_w : -2147483648 ≤ w ∧ w < 2147483648 := hO (vI w) (by simp)
  have i_v : -2147483648 ≤ v ∧ v < 2147483648 := hO (vI v) (by simp)
  show AW _ _ _ _ _ _ 0 [some (vR 91), some (vI w), some (vI v)] [] σ
  refine AW_iload_n dX5_ask_0 rfl ?_
  refine AW_if_lt (tgt := 20) dX5_ask_1 (by decide) (fun c_1 => ?_) (fun c_1 => ?_)
  · skip
    exact absurd c_1 (by omega)
  · skip
    refine AW_iload_n dX5_ask_4 rfl ?_
    refine AW_aload_n dX5_ask_5 rfl ?_
    refine AW_getR (a := 92) dX5_ask_6 gfX5_11 (hS.cel rfl) (hS.rf rfl) ?_
    refine AW_alen dX5_ask_9 (hS.cel rfl) (by decide) (by decide) ?_
    refine AW_icmp_ge (tgt := 20) dX5_ask_10 (by decide) (fun c_10 => ?_) (fun c_10 => ?_)
    · skip
      exact absurd c_10 (by omega)
    · skip
      refine AW_aload_n dX5_ask_13 rfl ?_
      refine AW_getR (a := 92) dX5_ask_14 gfX5_11 (hS.cel rfl) (hS.rf rfl) ?_
      refine AW_iload_n dX5_ask_17 rfl ?_
      refine AW_iload_n dX5_ask_18 rfl ?_
      refine AW_iast dX5_ask_19 (hS.cel rfl) (by omega) (by omega) ?_
      refine AW_vret dX5_ask_20 rfl ?_
      refine ⟨rfl, ⟨fun j hj => ?_, fun j => ?_⟩, Fr.rf.up (by decide) _ _⟩
      · rw [up_if]
        unfold kPut
        by_cases hc : j = w.toNat
        · rw [if_pos ⟨rfl, hc⟩, if_pos hc]
        · rw [if_neg (fun q => hc q.2), if_neg hc]; exact hP.1 j hj
      · unfold kPut
        split
        · exact hv
        · exact hP.2 j
theorem x_price {G : Gt} {d : Nat} {σ : St} (hd : 1 ≤ d) {hc N n : Nat} {K : Nat → Int} (hS : Sta σ) (hE : FeC hc N n K σ) {Q : Nat → Int} (hP : PrC Q σ) (w v : Int)  : AM mX11_price G d 0 0 [vR 16, vI w, vI v] σ (fun ro ρ => ∃ z : Int, ro = some (vI z) ∧ ((¬ ((0 ≤ w ∧ w < n) ∧ 0 ≤ v ∧ v ≤ 999) ∧ z = 0 ∧ ρ = σ) ∨ (((0 ≤ w ∧ w < n) ∧ 0 ≤ v ∧ v ≤ 999) ∧ z = 1 ∧ PrC (kPut Q w.toNat v) ρ ∧ Fr [92] σ ρ))) := by
  refine AM.intro (by decide +kernel) (by simp [nLg]) (Nat.le_of_ble_eq_true rfl) (fun hO => ?_)
  have i_w : -2147483648 ≤ w ∧ w < 2147483648 := hO (vI w) (by simp)
  have i_v : -2147483648 ≤ v ∧ v < 2147483648 := hO (vI v) (by simp)
  show AW _ _ _ _ _ _ 0 [some (vR 16), some (vI w), some (vI v)] [] σ
  have h7 := hE.1.2.1
  refine AW_aload_n dX11_price_0 rfl ?_
  refine AW_getR (a := 85) dX11_price_1 gfX11_60 (hS.cel rfl) (hS.rf rfl) ?_
  refine AW_iload_n dX11_price_4 rfl ?_
  refine AW_callV1 (d' := d - 1) dX11_price_5 (Or.inl lkX11_194) mfX0_isGuest (hS.cel rfl) ⟨_, rfl, rfl⟩ (k_isGuest hS hE.1 w) (by omega) (Nat.le_of_ble_eq_true rfl) ?_
  rintro _ _ ⟨e_, rfl⟩ -
  rw [e_]
  clear e_
  refine AW_if_eq (tgt := 22) dX11_price_8 (by decide) (fun c_8 => ?_) (fun c_8 => ?_)
  · skip
    replace c_8 := bz0 c_8
    refine AW_iconst dX11_price_22 ?_
    refine AW_zret dX11_price_23 rfl (by decide) ?_
    exact ⟨0, rfl, Or.inl ⟨by omega, rfl, rfl⟩⟩
  · skip
    replace c_8 := bz1 c_8
    refine AW_iload_n dX11_price_11 rfl ?_
    refine AW_if_lt (tgt := 22) dX11_price_12 (by decide) (fun c_12 => ?_) (fun c_12 => ?_)
    · skip
      refine AW_iconst dX11_price_22 ?_
      refine AW_zret dX11_price_23 rfl (by decide) ?_
      exact ⟨0, rfl, Or.inl ⟨by omega, rfl, rfl⟩⟩
    · skip
      refine AW_iload_n dX11_price_15 rfl ?_
      refine AW_sipush dX11_price_16 ?_
      refine AW_icmp_le (tgt := 24) dX11_price_19 (by decide) (fun c_19 => ?_) (fun c_19 => ?_)
      · skip
        refine AW_aload_n dX11_price_24 rfl ?_
        refine AW_getR (a := 91) dX11_price_25 gfX11_69 (hS.cel rfl) (hS.rf rfl) ?_
        refine AW_iload_n dX11_price_28 rfl ?_
        refine AW_iload_n dX11_price_29 rfl ?_
        refine AW_callV2 (d' := d - 1) dX11_price_30 (Or.inl lkX11_218) mfX5_ask (hS.cel rfl) ⟨_, rfl, rfl⟩ (k_ask hS hP w v (by omega) (by omega)) (by omega) (Nat.le_of_ble_eq_true rfl) ?_
        rintro _ ρ1 ⟨rfl, hP1, hG1⟩ -
        refine AW_iconst dX11_price_33 ?_
        refine AW_zret dX11_price_34 rfl (by decide) ?_
        exact ⟨1, rfl, Or.inr ⟨by omega, rfl, hP1, hG1⟩⟩
      · skip
        refine AW_iconst dX11_price_22 ?_
        refine AW_zret dX11_price_23 rfl (by decide) ?_
        exact ⟨0, rfl, Or.inl ⟨by omega, rfl, rfl⟩⟩
def lf (K Q : Nat → Int) (m w : Nat) : Int := both K m w - Q w
/-- whom a MAN wants of the first ones -/
def wnt (K Q : Nat → Int) (m : Nat) : Nat → Nat
  | 0 => 0
  | j + 1 => if lf K Q m (wnt K Q m j) < lf K Q m (j + 1) then j + 1 else wnt K Q m j
theorem wnt_s (K Q : Nat → Int) (m j : Nat) : wnt K Q m (j + 1) = if lf K Q m (wnt K Q m j) < lf K Q m (j + 1) then j + 1 else wnt K Q m j := rfl
theorem wnt_le (K Q : Nat → Int) (m : Nat) : ∀ j, wnt K Q m j ≤ j := by
  intro j
  induction j with
  | zero => exact Nat.le_refl _
  | succ j ih => rw [wnt_s]; split <;> omega
theorem wnt_ge (K Q : Nat → Int) (m : Nat) : ∀ j w, w ≤ j → lf K Q m w ≤ lf K Q m (wnt K Q m j) := by
  intro j
  induction j with
  | zero => intro w h; rw [show w = 0 by omega]; exact Int.le_refl _
  | succ j ih =>
    intro w h
    rw [wnt_s]
    by_cases hc : w = j + 1
    · subst hc; split <;> omega
    · have := ih w (by omega)
      split <;> omega
def fitP (K Q : Nat → Int) (n : Nat) : Prop := ∀ m, m < n → lf K Q m ((mostL K n).getD m 0) = lf K Q m (wnt K Q m (n - 1))
def lsP (K : Nat → Int) (n : Nat) : Nat → Int := itP K n (fun i => (mostL K n).getD i 0) n
def suA (K Q : Nat → Int) (n : Nat) (k what z : Int) : Prop := (¬ ((0 ≤ what ∧ what ≤ 2) ∧ (what ≤ 0 ∨ 0 ≤ k ∧ k < n)) ∧ z = -1) ∨ (((0 ≤ what ∧ what ≤ 2) ∧ (what ≤ 0 ∨ 0 ≤ k ∧ k < n)) ∧ ((what = 0 ∧ ((fitP K Q n ∧ z = 1) ∨ (¬ fitP K Q n ∧ z = 0))) ∨ (what = 1 ∧ z = (wnt K Q k.toNat (n - 1) : Int)) ∨ (what = 2 ∧ z = lsP K n k.toNat)))
theorem suA_one {K Q : Nat → Int} {n : Nat} {k what z z' : Int} (h : suA K Q n k what z) (h' : suA K Q n k what z') : z = z' := by
  rcases h with ⟨a, b⟩ | ⟨a, h⟩
  · rcases h' with ⟨a', b'⟩ | ⟨a', _⟩
    · rw [b, b']
    · exact absurd a' a
  · rcases h' with ⟨a', b'⟩ | ⟨_, h'⟩
    · exact absurd a a'
    · rcases h with ⟨w, h⟩ | ⟨w, e⟩ | ⟨w, e⟩
      · rcases h' with ⟨w', h'⟩ | ⟨w', _⟩ | ⟨w', _⟩
        · rcases h with ⟨p, e⟩ | ⟨p, e⟩
          · rcases h' with ⟨p', e'⟩ | ⟨p', e'⟩
            · rw [e, e']
            · exact absurd p p'
          · rcases h' with ⟨p', e'⟩ | ⟨p', e'⟩
            · exact absurd p' p
            · rw [e, e']
        · omega
        · omega
      · rcases h' with ⟨w', _⟩ | ⟨w', e'⟩ | ⟨w', _⟩
        · omega
        · rw [e, e']
        · omega
      · rcases h' with ⟨w', _⟩ | ⟨w', _⟩ | ⟨w', e'⟩
        · omega
        · omega
        · rw [e, e']
theorem k_left {G : Gt} {d : Nat} {σ : St} (hd : 3 ≤ d) {n : Nat} {K Q : Nat → Int} (hS : Sta σ) (hL : LkC n K σ) (hP : PrC Q σ) (m0 w0 : Int) (m w : Nat) (e1 : m0 = m) (e2 : w0 = w) (hm : m < n) (hw : w < n) : AM mX5_left G d 0 0 [vR 91, vI m0, vI w0] σ (fun r τ => τ = σ ∧ r = some (vI (lf K Q m w))) := by
  have h7 := hL.2.1
  have hb := both_in hL.2.2.2 m w
  have hq := hP.2 w
  have hq1 := hP.1 w (by omega)
  refine AM.intro (by decide +kernel) (by simp [nLg]) (Nat.le_of_ble_eq_true rfl) (fun hO => ?_)
  show AW _ _ _ _ _ _ 0 [some (vR 91), some (vI m0), some (vI w0)] [] σ
  refine AW_iload_n dX5_left_0 rfl ?_
  refine AW_if_lt (tgt := 32) dX5_left_1 (by decide) (fun c_1 => ?_) (fun c_1 => ?_)
  · skip
    exact absurd c_1 (by omega)
  · skip
    refine AW_iload_n dX5_left_4 rfl ?_
    refine AW_aload_n dX5_left_5 rfl ?_
    refine AW_getR (a := 92) dX5_left_6 gfX5_11 (hS.cel rfl) (hS.rf rfl) ?_
    refine AW_alen dX5_left_9 (hS.cel rfl) (by decide) (by decide) ?_
    refine AW_icmp_ge (tgt := 32) dX5_left_10 (by decide) (fun c_10 => ?_) (fun c_10 => ?_)
    · skip
      exact absurd c_10 (by omega)
    · skip
      refine AW_aload_n dX5_left_13 rfl ?_
      refine AW_getR (a := 85) dX5_left_14 gfX5_20 (hS.cel rfl) (hS.rf rfl) ?_
      refine AW_iload_n dX5_left_17 rfl ?_
      refine AW_iload_n dX5_left_18 rfl ?_
      refine AW_callV2 (d' := d - 1) dX5_left_19 (Or.inl lkX5_30) mfX0_sum (hS.cel rfl) ⟨_, rfl, rfl⟩ (k_fsum (by omega) hS hL _ _ m w e1 e2 hm hw) (by omega) (Nat.le_of_ble_eq_true rfl) ?_
      rintro _ _ ⟨e_, rfl⟩ -
      rw [e_]
      clear e_
      refine AW_aload_n dX5_left_22 rfl ?_
      refine AW_getR (a := 92) dX5_left_23 gfX5_11 (hS.cel rfl) (hS.rf rfl) ?_
      refine AW_iload_n dX5_left_26 rfl ?_
      refine AW_iald dX5_left_27 (hS.cel rfl) (by omega) (by omega) ?_
      rw [show w0.toNat = w by omega, hq1]
      refine AW_isubE dX5_left_28 (by omega) (by omega) ?_
      refine AW_goto (tgt := 33) dX5_left_29 (by decide) ?_
      refine AW_iret dX5_left_33 rfl ?_
      exact ⟨rfl, rfl⟩
theorem l_want {G : Gt} {d : Nat} {σ : St} (hd : 4 ≤ d) {n : Nat} {K Q : Nat → Int} (hS : Sta σ) (hL : LkC n K σ) (hP : PrC Q σ) {m : Nat} (hm : m < n) : ∀ (nn : Nat) (q j : Nat), q < nn → j + 1 + q = n →  AW mX5_wantedBy G d 0 0 (mq G (fun ro ρ => ρ = σ ∧ ro = some (vI (wnt K Q m (n - 1) : Int)))) 4 [some (vR 91), some (vI (m : Int)), some (vI (wnt K Q m j : Int)), some (vI ((j : Int) + 1))] [] σ := by
  intro nn
  induction nn with
  | zero => intros; omega
  | succ nn ih =>
    intro q j hn hj
    have h7 := hL.2.1
    have hwl := wnt_le K Q m j
    refine AW_iload_n dX5_wantedBy_4 rfl ?_
    refine AW_aload_n dX5_wantedBy_5 rfl ?_
    refine AW_getR (a := 85) dX5_wantedBy_6 gfX5_20 (hS.cel rfl) (hS.rf rfl) ?_
    refine AW_callV0 (d' := d - 1) dX5_wantedBy_9 (Or.inl lkX5_34) mfX0_guests (hS.cel rfl) ⟨_, rfl, rfl⟩ (k_fguests hS hL) (by omega) (Nat.le_of_ble_eq_true rfl) ?_
    rintro _ _ ⟨e_, rfl⟩ -
    rw [e_]
    clear e_
    refine AW_icmp_ge (tgt := 38) dX5_wantedBy_12 (by decide) (fun c_12 => ?_) (fun c_12 => ?_)
    · skip
      have hm2 : j = n - 1 := by omega
      subst hm2
      refine AW_iload_n dX5_wantedBy_38 rfl ?_
      refine AW_iret dX5_wantedBy_39 rfl ?_
      exact ⟨rfl, rfl⟩
    · skip
      obtain ⟨q1, rfl⟩ : ∃ q1, q = q1 + 1 := ⟨q - 1, by omega⟩
      have hss := wnt_s K Q m j
      refine AW_aload_n dX5_wantedBy_15 rfl ?_
      refine AW_iload_n dX5_wantedBy_16 rfl ?_
      refine AW_iload_n dX5_wantedBy_17 rfl ?_
      refine AW_callV2 (d' := d - 1) dX5_wantedBy_18 (Or.inl lkX5_38) mfX5_left (hS.cel rfl) ⟨_, rfl, rfl⟩ (k_left (by omega) hS hL hP _ _ m (j + 1) rfl (by omega) hm (by omega)) (by omega) (Nat.le_of_ble_eq_true rfl) ?_
      rintro _ _ ⟨e_, rfl⟩ -
      rw [e_]
      clear e_
      refine AW_aload_n dX5_wantedBy_21 rfl ?_
      refine AW_iload_n dX5_wantedBy_22 rfl ?_
      refine AW_iload_n dX5_wantedBy_23 rfl ?_
      refine AW_callV2 (d' := d - 1) dX5_wantedBy_24 (Or.inl lkX5_38) mfX5_left (hS.cel rfl) ⟨_, rfl, rfl⟩ (k_left (by omega) hS hL hP _ _ m (wnt K Q m j) rfl rfl hm (by omega)) (by omega) (Nat.le_of_ble_eq_true rfl) ?_
      rintro _ _ ⟨e_, rfl⟩ -
      rw [e_]
      clear e_
      refine AW_icmp_le (tgt := 32) dX5_wantedBy_27 (by decide) (fun c_27 => ?_) (fun c_27 => ?_)
      · skip
        rw [if_neg (by omega)] at hss
        refine AW_iincE3 dX5_wantedBy_32 (by omega) (by omega) ?_
        refine AW_goto (tgt := 4) dX5_wantedBy_35 (by decide) ?_
        first
        | (rw [← hss, show (j : Int) + 1 + 1 = ((j + 1 : Nat) : Int) + 1 by omega]; exact ih q1 (j + 1) (by omega) (by omega))
        | (rw [show (j : Int) + 1 = ((j + 1 : Nat) : Int) by omega, show wnt K Q m (j + 1) = j + 1 from hss] ; exact ih q1 (j + 1) (by omega) (by omega))
        | (have ih2 := ih q1 (j + 1) (by omega) (by omega)
           rw [hss] at ih2
           rw [show (j : Int) + 1 = ((j + 1 : Nat) : Int) by omega]
           exact ih2)
      · skip
        rw [if_pos (by omega)] at hss
        refine AW_iload_n dX5_wantedBy_30 rfl ?_
        refine AW_istore2 dX5_wantedBy_31 ?_
        refine AW_iincE3 dX5_wantedBy_32 (by omega) (by omega) ?_
        refine AW_goto (tgt := 4) dX5_wantedBy_35 (by decide) ?_
        first
        | (rw [← hss, show (j : Int) + 1 + 1 = ((j + 1 : Nat) : Int) + 1 by omega]; exact ih q1 (j + 1) (by omega) (by omega))
        | (rw [show (j : Int) + 1 = ((j + 1 : Nat) : Int) by omega, show wnt K Q m (j + 1) = j + 1 from hss] ; exact ih q1 (j + 1) (by omega) (by omega))
        | (have ih2 := ih q1 (j + 1) (by omega) (by omega)
           rw [hss] at ih2
           rw [show (j : Int) + 1 = ((j + 1 : Nat) : Int) by omega]
           exact ih2)
theorem k_want {G : Gt} {d : Nat} {σ : St} (hd : 4 ≤ d) {n : Nat} {K Q : Nat → Int} (hS : Sta σ) (hL : LkC n K σ) (hP : PrC Q σ) (m0 : Int) (m : Nat) (e1 : m0 = m) (hm : m < n) : AM mX5_wantedBy G d 0 0 [vR 91, vI m0] σ (fun ro ρ => ρ = σ ∧ ro = some (vI (wnt K Q m (n - 1) : Int))) := by
  subst e1
  refine AM.intro (by decide +kernel) (by simp [nLg]) (Nat.le_of_ble_eq_true rfl) (fun hO => ?_)
  show AW _ _ _ _ _ _ 0 [some (vR 91), some (vI (m : Int)), none, none] [] σ
  refine AW_iconst dX5_wantedBy_0 ?_
  refine AW_istore2 dX5_wantedBy_1 ?_
  refine AW_iconst dX5_wantedBy_2 ?_
  refine AW_istore3 dX5_wantedBy_3 ?_
  exact l_want hd hS hL hP hm n (n - 1) 0 (by omega) (by omega)
theorem l_fits {G : Gt} {d : Nat} {σ : St} (hd : 5 ≤ d) {n : Nat} {K Q : Nat → Int} (hS : Sta σ) (hL : LkC n K σ) (hP : PrC Q σ) (h88 : ∀ j, j < n → σ.2.1 88 j = ((mostL K n).getD j 0 : Int)) : ∀ (nn : Nat) (q i : Nat), q < nn → i + q = n → (∀ m, m < i → lf K Q m ((mostL K n).getD m 0) = lf K Q m (wnt K Q m (n - 1))) →  AW mX5_priceFits G d 0 0 (mq G (fun ro ρ => ρ = σ ∧ ∃ z : Int, ro = some (vI z) ∧ ((z = 1 ∧ fitP K Q n) ∨ (z = 0 ∧ ¬ fitP K Q n)))) 2 [some (vR 91), some (vI (i : Int))] [] σ := by
  intro nn
  induction nn with
  | zero => intros; omega
  | succ nn ih =>
    intro q i hn hi hq
    have h7 := hL.2.1
    have hmr := rows_iff.mp (most_row hL.2.2.2 n).1
    refine AW_iload_n dX5_priceFits_2 rfl ?_
    refine AW_aload_n dX5_priceFits_3 rfl ?_
    refine AW_getR (a := 85) dX5_priceFits_4 gfX5_20 (hS.cel rfl) (hS.rf rfl) ?_
    refine AW_callV0 (d' := d - 1) dX5_priceFits_7 (Or.inl lkX5_34) mfX0_guests (hS.cel rfl) ⟨_, rfl, rfl⟩ (k_fguests hS hL) (by omega) (Nat.le_of_ble_eq_true rfl) ?_
    rintro _ _ ⟨e_, rfl⟩ -
    rw [e_]
    clear e_
    refine AW_icmp_ge (tgt := 47) dX5_priceFits_10 (by decide) (fun c_10 => ?_) (fun c_10 => ?_)
    · skip
      have hm2 : i = n := by omega
      subst hm2
      refine AW_iconst dX5_priceFits_47 ?_
      refine AW_zret dX5_priceFits_48 rfl (by decide) ?_
      exact ⟨rfl, 1, rfl, Or.inl ⟨rfl, hq⟩⟩
    · skip
      obtain ⟨q1, rfl⟩ : ∃ q1, q = q1 + 1 := ⟨q - 1, by omega⟩
      have hlt := hmr.1.lt (i := i) (by omega)
      have hwl := wnt_le K Q i (n - 1)
      have hge := wnt_ge K Q i (n - 1) ((mostL K n).getD i 0) (by omega)
      refine AW_aload_n dX5_priceFits_13 rfl ?_
      refine AW_iload_n dX5_priceFits_14 rfl ?_
      refine AW_aload_n dX5_priceFits_15 rfl ?_
      refine AW_getR (a := 85) dX5_priceFits_16 gfX5_20 (hS.cel rfl) (hS.rf rfl) ?_
      refine AW_iload_n dX5_priceFits_19 rfl ?_
      refine AW_callV1 (d' := d - 1) dX5_priceFits_20 (Or.inl lkX5_41) mfX0_mostOf (hS.cel rfl) ⟨_, rfl, rfl⟩ (k_mostOf (by omega) hS hL _ (by omega)) (by omega) (Nat.le_of_ble_eq_true rfl) ?_
      rintro _ _ ⟨e_, rfl⟩ -
      rw [e_]
      clear e_
      rw [Int.toNat_natCast, h88 i (by omega)]
      refine AW_callV2 (d' := d - 1) dX5_priceFits_23 (Or.inl lkX5_38) mfX5_left (hS.cel rfl) ⟨_, rfl, rfl⟩ (k_left (by omega) hS hL hP _ _ i ((mostL K n).getD i 0) rfl rfl (by omega) hlt) (by omega) (Nat.le_of_ble_eq_true rfl) ?_
      rintro _ _ ⟨e_, rfl⟩ -
      rw [e_]
      clear e_
      refine AW_aload_n dX5_priceFits_26 rfl ?_
      refine AW_iload_n dX5_priceFits_27 rfl ?_
      refine AW_aload_n dX5_priceFits_28 rfl ?_
      refine AW_iload_n dX5_priceFits_29 rfl ?_
      refine AW_callV1 (d' := d - 1) dX5_priceFits_30 (Or.inl lkX5_45) mfX5_wantedBy (hS.cel rfl) ⟨_, rfl, rfl⟩ (k_want (by omega) hS hL hP _ i rfl (by omega)) (by omega) (Nat.le_of_ble_eq_true rfl) ?_
      rintro _ _ ⟨e_, rfl⟩ -
      rw [e_]
      clear e_
      refine AW_callV2 (d' := d - 1) dX5_priceFits_33 (Or.inl lkX5_38) mfX5_left (hS.cel rfl) ⟨_, rfl, rfl⟩ (k_left (by omega) hS hL hP _ _ i (wnt K Q i (n - 1)) rfl rfl (by omega) (by omega)) (by omega) (Nat.le_of_ble_eq_true rfl) ?_
      rintro _ _ ⟨e_, rfl⟩ -
      rw [e_]
      clear e_
      refine AW_icmp_ge (tgt := 41) dX5_priceFits_36 (by decide) (fun c_36 => ?_) (fun c_36 => ?_)
      · skip
        refine AW_iincE1 dX5_priceFits_41 (by omega) (by omega) ?_
        refine AW_goto (tgt := 2) dX5_priceFits_44 (by decide) ?_
        rw [show (i : Int) + 1 = ((i + 1 : Nat) : Int) by omega]
        refine ih q1 (i + 1) (by omega) (by omega) (fun m hm => ?_)
        by_cases hc : m = i
        · subst hc; omega
        · exact hq m (by omega)
      · skip
        refine AW_iconst dX5_priceFits_39 ?_
        refine AW_zret dX5_priceFits_40 rfl (by decide) ?_
        refine ⟨rfl, 0, rfl, Or.inr ⟨rfl, fun q => ?_⟩⟩
        have := q i (by omega)
        omega
theorem k_fits {G : Gt} {d : Nat} {σ : St} (hd : 5 ≤ d) {n : Nat} {K Q : Nat → Int} (hS : Sta σ) (hL : LkC n K σ) (hP : PrC Q σ) (h88 : ∀ j, j < n → σ.2.1 88 j = ((mostL K n).getD j 0 : Int)) : AM mX5_priceFits G d 0 0 [vR 91] σ (fun ro ρ => ρ = σ ∧ ∃ z : Int, ro = some (vI z) ∧ ((z = 1 ∧ fitP K Q n) ∨ (z = 0 ∧ ¬ fitP K Q n))) := by
  refine AM.intro (by decide +kernel) (by simp [nLg]) (Nat.le_of_ble_eq_true rfl) (fun hO => ?_)
  show AW _ _ _ _ _ _ 0 [some (vR 91), none] [] σ
  refine AW_iconst dX5_priceFits_0 ?_
  refine AW_istore1 dX5_priceFits_1 ?_
  exact l_fits hd hS hL hP h88 (n + 1) n 0 (by omega) (by omega) (fun m hm => absurd hm (Nat.not_lt_zero m))
