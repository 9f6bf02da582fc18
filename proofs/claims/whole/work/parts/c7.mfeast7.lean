theorem ln_pa1 {G : Gt} {d : Nat} {σ : St} (hd : 1 ≤ d) {n : Nat} {K : Nat → Int} (hS : Sta σ) (hL : LkM n K σ) (hH : HeM (heldL K n) n σ) (hN : (heldL K n).length ≤ 5040) {h : Nat} {l : List Nat} (hh : (heldL K n)[h]? = some l) (hr : l ∈ rowsN n) {x1 : Option AV} {k : Int} (hk : k = -1) : ∀ (nn : Nat) (m i : Nat), m < nn → i + m = n →  AW mX12_pairing G d 0 0 (mq G (fun ro ρ => ρ = σ ∧ ro = some (vI (rowV K l k)))) 112 [some (vR 94), x1, some (vI k), some (vI (h : Int)), some (vI (sm (fun j => both K j (l.getD j 0)) i)), some (vI (i : Int))] [] σ := by
  intro nn
  induction nn with
  | zero => intros; omega
  | succ nn ih =>
    intro m i hn hi
    have h7 := hL.2.1
    obtain ⟨r1, r2⟩ := rows_iff.mp hr
    have h62 := hL.1
    have hsb := sm_bd (h := fun j => both K j (l.getD j 0)) (a := 0) (b := 198) i (fun x _ => both_in hL.2.2.2 x _)
    refine AW_iload dX12_pairing_112 rfl ?_
    refine AW_aload_n dX12_pairing_114 rfl ?_
    refine AW_getI dX12_pairing_115 gfX12_117 (hS.cel rfl) ?_
    refine AW_icmp_ge (tgt := 145) dX12_pairing_118 (by decide) (fun c_118 => ?_) (fun c_118 => ?_)
    · skip
      have hm : i = n := by omega
      subst hm
      refine AW_iload dX12_pairing_145 rfl ?_
      refine AW_iret dX12_pairing_147 rfl ?_
      refine ⟨rfl, ?_⟩
      unfold rowV sR
      rw [if_pos hk, r2]
    · skip
      obtain ⟨m1, rfl⟩ : ∃ m1, m = m1 + 1 := ⟨m - 1, by omega⟩
      have hb := both_in hL.2.2.2 i (l.getD i 0)
      have hlt := r1.lt (i := i) (by omega)
      refine AW_iload dX12_pairing_121 rfl ?_
      refine AW_aload_n dX12_pairing_123 rfl ?_
      refine AW_iload dX12_pairing_124 rfl ?_
      refine AW_aload_n dX12_pairing_126 rfl ?_
      refine AW_iload_n dX12_pairing_127 rfl ?_
      refine AW_iload dX12_pairing_128 rfl ?_
      refine AW_callV2 (d' := d - 1) dX12_pairing_130 (Or.inl lkX12_419) mfX12_womanAt (hS.cel rfl) ⟨_, rfl, rfl⟩ (n_woman hS hL hH hN _ _ h i rfl rfl hh (by omega)) (by omega) (Nat.le_of_ble_eq_true rfl) ?_
      rintro _ _ ⟨e_, rfl⟩ -
      rw [e_]
      clear e_
      refine AW_callV2 (d' := d - 1) dX12_pairing_133 (Or.inl lkX12_389) mfX12_bothOf (hS.cel rfl) ⟨_, rfl, rfl⟩ (n_both hS hL _ _ i (l.getD i 0) rfl rfl (by omega) hlt) (by omega) (Nat.le_of_ble_eq_true rfl) ?_
      rintro _ _ ⟨e_, rfl⟩ -
      rw [e_]
      clear e_
      refine AW_iaddE dX12_pairing_136 (by omega) (by omega) ?_
      refine AW_istore4 dX12_pairing_137 ?_
      refine AW_iincE5 dX12_pairing_139 (by omega) (by omega) ?_
      refine AW_goto (tgt := 112) dX12_pairing_142 (by decide) ?_
      rw [show (i : Int) + 1 = ((i + 1 : Nat) : Int) by omega]
      exact ih m1 (i + 1) (by omega) (by omega)
theorem ln_pa0 {G : Gt} {d : Nat} {σ : St} {x1 : Option AV} (hd : 1 ≤ d) {n : Nat} {K : Nat → Int} (hS : Sta σ) (hL : LkM n K σ) (hH : HeM (heldL K n) n σ) (hN : (heldL K n).length ≤ 5040) {h : Nat} {l : List Nat} (hh : (heldL K n)[h]? = some l) (hr : l ∈ rowsN n) {k : Int} (hk : k = -1 ∨ 0 ≤ k ∧ k < n) : AW mX12_pairing G d 0 0 (mq G (fun ro ρ => ρ = σ ∧ ro = some (vI (rowV K l k)))) 94 [some (vR 94), x1, some (vI k), some (vI (h : Int)), none, none] [] σ := by
  have h7 := hL.2.1
  refine AW_iload_n dX12_pairing_94 rfl ?_
  refine AW_iconst dX12_pairing_95 ?_
  refine AW_icmp_eq (tgt := 106) dX12_pairing_96 (by decide) (fun c_96 => ?_) (fun c_96 => ?_)
  · skip
    refine AW_iconst dX12_pairing_106 ?_
    refine AW_istore4 dX12_pairing_107 ?_
    refine AW_iconst dX12_pairing_109 ?_
    refine AW_istore5 dX12_pairing_110 ?_
    exact ln_pa1 hd hS hL hH hN hh hr c_96 (n + 1) n 0 (by omega) (by omega)
  · skip
    refine AW_aload_n dX12_pairing_99 rfl ?_
    refine AW_iload_n dX12_pairing_100 rfl ?_
    refine AW_iload_n dX12_pairing_101 rfl ?_
    refine AW_callV2 (d' := d - 1) dX12_pairing_102 (Or.inl lkX12_419) mfX12_womanAt (hS.cel rfl) ⟨_, rfl, rfl⟩ (n_woman hS hL hH hN _ _ h k.toNat rfl (by omega) hh (by omega)) (by omega) (Nat.le_of_ble_eq_true rfl) ?_
    rintro _ _ ⟨e_, rfl⟩ -
    rw [e_]
    clear e_
    refine AW_iret dX12_pairing_105 rfl ?_
    refine ⟨rfl, ?_⟩
    unfold rowV
    rw [if_neg c_96]
theorem m_pairing {G : Gt} {d : Nat} {σ : St} (hd : 4 ≤ d) {n : Nat} {K : Nat → Int} (hS : Sta σ) (hE : FeM n K σ) (which k : Int)  : AM mX12_pairing G d 0 0 [vR 94, vI which, vI k] σ (fun ro ρ => ∃ z : Int, ro = some (vI z) ∧ prA K n which k z ∧ ((¬ (0 ≤ which ∧ (k = -1 ∨ 0 ≤ k ∧ k < n)) ∧ Fm [0] [] σ ρ) ∨ ((0 ≤ which ∧ (k = -1 ∨ 0 ≤ k ∧ k < n)) ∧ FeM n K ρ ∧ Fm [0, 65, 67, 69, 70] [127, 128, 129, 130, 131] σ ρ))) := by
  refine AM.intro (by decide +kernel) (by simp [nLg]) (Nat.le_of_ble_eq_true rfl) (fun hO => ?_)
  have i_which : -2147483648 ≤ which ∧ which < 2147483648 := hO (vI which) (by simp)
  have i_k : -2147483648 ≤ k ∧ k < 2147483648 := hO (vI k) (by simp)
  show AW _ _ _ _ _ _ 0 [some (vR 94), some (vI which), some (vI k), none, none, none] [] σ
  refine AW_aload_n dX12_pairing_0 rfl ?_
  refine AW_iconst dX12_pairing_1 ?_
  refine AW_putI dX12_pairing_2 (Or.inl pfX12_142) (hS.cel rfl) ?_
  have hF1 : Fm [0] [] σ (upI σ 94 0 0) := Fm.rf.uf (by decide) _
  have hS1 : Sta (upI σ 94 0 0) := hS
  have hE1 := hE.fm hF1
  generalize upI σ 94 0 0 = σ1 at hF1 hS1 hE1 ⊢
  refine AW_iload_n dX12_pairing_5 rfl ?_
  refine AW_if_lt (tgt := 22) dX12_pairing_6 (by decide) (fun c_6 => ?_) (fun c_6 => ?_)
  · skip
    refine AW_iconst dX12_pairing_22 ?_
    refine AW_iret dX12_pairing_23 rfl ?_
    exact ⟨-1, rfl, Or.inl ⟨by omega, rfl⟩, Or.inl ⟨by omega, hF1⟩⟩
  · skip
    refine AW_iload_n dX12_pairing_9 rfl ?_
    refine AW_iconst dX12_pairing_10 ?_
    refine AW_icmp_eq (tgt := 24) dX12_pairing_11 (by decide) (fun c_11 => ?_) (fun c_11 => ?_)
    · skip
      have hgd : (0 ≤ which ∧ (k = -1 ∨ 0 ≤ k ∧ k < n)) := by omega
      refine AW_aload_n dX12_pairing_24 rfl ?_
      refine AW_callV0 (d' := d - 1) dX12_pairing_25 (Or.inl lkX12_416) mfX12_findsPairings (hS1.cel rfl) ⟨_, rfl, rfl⟩ (n_find (by omega) hS1 hE1) (by omega) (Nat.le_of_ble_eq_true rfl) ?_
      rintro _ ρ2 ⟨rfl, hC2, h652, hG2⟩ -
      have hS2 := hG2.sta hS1
      have hL2 := hE1.1.fm hG2
      have hE2 : FeM n K ρ2 := ⟨hL2, Or.inr ⟨h652, hC2⟩⟩
      have hF2 : Fm [0, 65, 67, 69, 70] [127, 128, 129, 130, 131] σ ρ2 := (hF1.mo (by decide) (by decide)).tr (hG2.mo (by decide) (by decide))
      have h72 := hL2.2.1
      have hN2 : (heldL K n).length ≤ 5040 := Nat.le_trans (filt_le K (rowsN n)) (rows_len h72.1 h72.2)
      have h672 := hC2.1.1
      refine AW_iload_n dX12_pairing_28 rfl ?_
      refine AW_iconst dX12_pairing_29 ?_
      refine AW_icmp_ne (tgt := 52) dX12_pairing_30 (by decide) (fun c_30 => ?_) (fun c_30 => ?_)
      · skip
        refine AW_iload_n dX12_pairing_52 rfl ?_
        refine AW_iconst dX12_pairing_53 ?_
        refine AW_icmp_le (tgt := 76) dX12_pairing_54 (by decide) (fun c_54 => ?_) (fun c_54 => ?_)
        · skip
          refine AW_iload_n dX12_pairing_76 rfl ?_
          refine AW_iconst dX12_pairing_77 ?_
          refine AW_icmp_ge (tgt := 89) dX12_pairing_78 (by decide) (fun c_78 => ?_) (fun c_78 => ?_)
          · skip
            obtain ⟨l, hlb⟩ : ∃ l, (heldL K n)[(which - 10).toNat]? = some l := ⟨_, List.getElem?_eq_getElem (show (which - 10).toNat < (heldL K n).length by omega)⟩
            refine AW_iload_n dX12_pairing_89 rfl ?_
            refine AW_bipush dX12_pairing_90 ?_
            refine AW_isubE dX12_pairing_92 (by omega) (by omega) ?_
            refine AW_istore3 dX12_pairing_93 ?_
            first
            | (refine AW_mq (fun r ρ q => ?_) (ln_pa0 (k := k) (by omega) hS2 hL2 hC2.1 hN2 hlb (held_iff.mp ho.mem).1 hgd.2)
               rw [q.1]
               refine ⟨_, q.2, Or.inr ⟨hgd, ?_⟩, Or.inr ⟨hgd, hE2, hF2⟩⟩
               rcases ho with w | w
               · exact Or.inr (Or.inl ⟨by omega, o, w.2, rfl⟩)
               · exact Or.inr (Or.inr (Or.inl ⟨by omega, o, w.2, rfl⟩))
               done)
            | (rw [show which - 10 = (((which - 10).toNat : Nat) : Int) by omega]
               refine AW_mq (fun r ρ q => ?_) (ln_pa0 (k := k) (by omega) hS2 hL2 hC2.1 hN2 hlb (held_iff.mp (List.mem_of_getElem? hlb)).1 hgd.2)
               rw [q.1]
               exact ⟨_, q.2, Or.inr ⟨hgd, Or.inr (Or.inr (Or.inr ⟨by omega, Or.inl ⟨l, by omega, hlb, rfl⟩⟩))⟩, Or.inr ⟨hgd, hE2, hF2⟩⟩)
          · skip
            obtain ⟨o, ho⟩ := optS_ex K n (s := which.toNat) (by omega)
            refine AW_aload_n dX12_pairing_81 rfl ?_
            refine AW_iload_n dX12_pairing_82 rfl ?_
            refine AW_callV1 (d' := d - 1) dX12_pairing_83 (Or.inl lkX12_428) mfX12_bestOf (hS2.cel rfl) ⟨_, rfl, rfl⟩ (n_bestOf (s := which.toNat) (by omega) hS2 hL2 hC2.1 hN2 (by omega) ho _ (by omega)) (by omega) (Nat.le_of_ble_eq_true rfl) ?_
            rintro _ _ ⟨e_, b, rfl, hlb⟩ -
            rw [e_]
            clear e_
            refine AW_goto (tgt := 93) dX12_pairing_86 (by decide) ?_
            refine AW_istore3 dX12_pairing_93 ?_
            first
            | (refine AW_mq (fun r ρ q => ?_) (ln_pa0 (k := k) (by omega) hS2 hL2 hC2.1 hN2 hlb (held_iff.mp ho.mem).1 hgd.2)
               rw [q.1]
               refine ⟨_, q.2, Or.inr ⟨hgd, ?_⟩, Or.inr ⟨hgd, hE2, hF2⟩⟩
               rcases ho with w | w
               · exact Or.inr (Or.inl ⟨by omega, o, w.2, rfl⟩)
               · exact Or.inr (Or.inr (Or.inl ⟨by omega, o, w.2, rfl⟩))
               done)
            | (rw [show which - 10 = (((which - 10).toNat : Nat) : Int) by omega]
               refine AW_mq (fun r ρ q => ?_) (ln_pa0 (k := k) (by omega) hS2 hL2 hC2.1 hN2 hlb (held_iff.mp (List.mem_of_getElem? hlb)).1 hgd.2)
               rw [q.1]
               exact ⟨_, q.2, Or.inr ⟨hgd, Or.inr (Or.inr (Or.inr ⟨by omega, Or.inl ⟨l, by omega, hlb, rfl⟩⟩))⟩, Or.inr ⟨hgd, hE2, hF2⟩⟩)
        · skip
          refine AW_aload_n dX12_pairing_57 rfl ?_
          refine AW_iload_n dX12_pairing_58 rfl ?_
          refine AW_bipush dX12_pairing_59 ?_
          refine AW_bipush dX12_pairing_61 ?_
          refine AW_aload_n dX12_pairing_63 rfl ?_
          refine AW_getI dX12_pairing_64 gfX12_401 (hS2.cel rfl) ?_
          refine AW_iaddE dX12_pairing_67 (by omega) (by omega) ?_
          refine AW_callV3 (d' := d - 1) dX12_pairing_68 (Or.inl lkX12_149) mfX12_isIn (hS2.cel rfl) ⟨_, rfl, rfl⟩ (n_isIn which 10 _) (by omega) (Nat.le_of_ble_eq_true rfl) ?_
          rintro _ _ ⟨e_, rfl⟩ -
          rw [e_]
          clear e_
          rw [h672]
          refine AW_if_ne (tgt := 76) dX12_pairing_71 (by decide) (fun c_71 => ?_) (fun c_71 => ?_)
          · skip
            replace c_71 := bz1 c_71
            refine AW_iload_n dX12_pairing_76 rfl ?_
            refine AW_iconst dX12_pairing_77 ?_
            refine AW_icmp_ge (tgt := 89) dX12_pairing_78 (by decide) (fun c_78 => ?_) (fun c_78 => ?_)
            · skip
              obtain ⟨l, hlb⟩ : ∃ l, (heldL K n)[(which - 10).toNat]? = some l := ⟨_, List.getElem?_eq_getElem (show (which - 10).toNat < (heldL K n).length by omega)⟩
              refine AW_iload_n dX12_pairing_89 rfl ?_
              refine AW_bipush dX12_pairing_90 ?_
              refine AW_isubE dX12_pairing_92 (by omega) (by omega) ?_
              refine AW_istore3 dX12_pairing_93 ?_
              first
              | (refine AW_mq (fun r ρ q => ?_) (ln_pa0 (k := k) (by omega) hS2 hL2 hC2.1 hN2 hlb (held_iff.mp ho.mem).1 hgd.2)
                 rw [q.1]
                 refine ⟨_, q.2, Or.inr ⟨hgd, ?_⟩, Or.inr ⟨hgd, hE2, hF2⟩⟩
                 rcases ho with w | w
                 · exact Or.inr (Or.inl ⟨by omega, o, w.2, rfl⟩)
                 · exact Or.inr (Or.inr (Or.inl ⟨by omega, o, w.2, rfl⟩))
                 done)
              | (rw [show which - 10 = (((which - 10).toNat : Nat) : Int) by omega]
                 refine AW_mq (fun r ρ q => ?_) (ln_pa0 (k := k) (by omega) hS2 hL2 hC2.1 hN2 hlb (held_iff.mp (List.mem_of_getElem? hlb)).1 hgd.2)
                 rw [q.1]
                 exact ⟨_, q.2, Or.inr ⟨hgd, Or.inr (Or.inr (Or.inr ⟨by omega, Or.inl ⟨l, by omega, hlb, rfl⟩⟩))⟩, Or.inr ⟨hgd, hE2, hF2⟩⟩)
            · skip
              obtain ⟨o, ho⟩ := optS_ex K n (s := which.toNat) (by omega)
              refine AW_aload_n dX12_pairing_81 rfl ?_
              refine AW_iload_n dX12_pairing_82 rfl ?_
              refine AW_callV1 (d' := d - 1) dX12_pairing_83 (Or.inl lkX12_428) mfX12_bestOf (hS2.cel rfl) ⟨_, rfl, rfl⟩ (n_bestOf (s := which.toNat) (by omega) hS2 hL2 hC2.1 hN2 (by omega) ho _ (by omega)) (by omega) (Nat.le_of_ble_eq_true rfl) ?_
              rintro _ _ ⟨e_, b, rfl, hlb⟩ -
              rw [e_]
              clear e_
              refine AW_goto (tgt := 93) dX12_pairing_86 (by decide) ?_
              refine AW_istore3 dX12_pairing_93 ?_
              first
              | (refine AW_mq (fun r ρ q => ?_) (ln_pa0 (k := k) (by omega) hS2 hL2 hC2.1 hN2 hlb (held_iff.mp ho.mem).1 hgd.2)
                 rw [q.1]
                 refine ⟨_, q.2, Or.inr ⟨hgd, ?_⟩, Or.inr ⟨hgd, hE2, hF2⟩⟩
                 rcases ho with w | w
                 · exact Or.inr (Or.inl ⟨by omega, o, w.2, rfl⟩)
                 · exact Or.inr (Or.inr (Or.inl ⟨by omega, o, w.2, rfl⟩))
                 done)
              | (rw [show which - 10 = (((which - 10).toNat : Nat) : Int) by omega]
                 refine AW_mq (fun r ρ q => ?_) (ln_pa0 (k := k) (by omega) hS2 hL2 hC2.1 hN2 hlb (held_iff.mp (List.mem_of_getElem? hlb)).1 hgd.2)
                 rw [q.1]
                 exact ⟨_, q.2, Or.inr ⟨hgd, Or.inr (Or.inr (Or.inr ⟨by omega, Or.inl ⟨l, by omega, hlb, rfl⟩⟩))⟩, Or.inr ⟨hgd, hE2, hF2⟩⟩)
          · skip
            replace c_71 := bz0 c_71
            refine AW_iconst dX12_pairing_74 ?_
            refine AW_iret dX12_pairing_75 rfl ?_
            exact ⟨-1, rfl, Or.inr ⟨hgd, Or.inr (Or.inr (Or.inr ⟨by omega, Or.inr ⟨by omega, rfl⟩⟩))⟩, Or.inr ⟨hgd, hE2, hF2⟩⟩
      · skip
        refine AW_iload_n dX12_pairing_33 rfl ?_
        refine AW_iconst dX12_pairing_34 ?_
        refine AW_icmp_ne (tgt := 45) dX12_pairing_35 (by decide) (fun c_35 => ?_) (fun c_35 => ?_)
        · skip
          refine AW_aload_n dX12_pairing_45 rfl ?_
          refine AW_getR (a := 128) dX12_pairing_46 gfX12_130 (hS2.cel rfl) (hS2.rf rfl) ?_
          refine AW_iload_n dX12_pairing_49 rfl ?_
          refine AW_iald dX12_pairing_50 (hS2.cel rfl) (by omega) (by omega) ?_
          refine AW_iret dX12_pairing_51 rfl ?_
          refine ⟨_, rfl, Or.inr ⟨hgd, Or.inl ⟨by omega, ?_⟩⟩, Or.inr ⟨hgd, hE2, hF2⟩⟩
          first
          | (rw [if_pos c_35, hC2.2.1]; done)
          | (rw [if_neg c_35, hC2.2.2.1 _ (by omega)]; done)
          | (rw [if_pos (by omega), hC2.2.1]; done)
          | (rw [if_neg (by omega), hC2.2.2.1 _ (by omega)]; done)
        · skip
          refine AW_aload_n dX12_pairing_38 rfl ?_
          refine AW_getI dX12_pairing_39 gfX12_395 (hS2.cel rfl) ?_
          refine AW_goto (tgt := 51) dX12_pairing_42 (by decide) ?_
          refine AW_iret dX12_pairing_51 rfl ?_
          refine ⟨_, rfl, Or.inr ⟨hgd, Or.inl ⟨by omega, ?_⟩⟩, Or.inr ⟨hgd, hE2, hF2⟩⟩
          first
          | (rw [if_pos c_35, hC2.2.1]; done)
          | (rw [if_neg c_35, hC2.2.2.1 _ (by omega)]; done)
          | (rw [if_pos (by omega), hC2.2.1]; done)
          | (rw [if_neg (by omega), hC2.2.2.1 _ (by omega)]; done)
    · skip
      refine AW_aload_n dX12_pairing_14 rfl ?_
      refine AW_iload_n dX12_pairing_15 rfl ?_
      refine AW_callV1 (d' := d - 1) dX12_pairing_16 (Or.inl lkX12_383) mfX12_isGuest (hS1.cel rfl) ⟨_, rfl, rfl⟩ (n_isGuest hS1 hE1.1 k) (by omega) (Nat.le_of_ble_eq_true rfl) ?_
      rintro _ _ ⟨e_, rfl⟩ -
      rw [e_]
      clear e_
      refine AW_if_ne (tgt := 24) dX12_pairing_19 (by decide) (fun c_19 => ?_) (fun c_19 => ?_)
      · skip
        replace c_19 := bz1 c_19
        have hgd : (0 ≤ which ∧ (k = -1 ∨ 0 ≤ k ∧ k < n)) := by omega
        refine AW_aload_n dX12_pairing_24 rfl ?_
        refine AW_callV0 (d' := d - 1) dX12_pairing_25 (Or.inl lkX12_416) mfX12_findsPairings (hS1.cel rfl) ⟨_, rfl, rfl⟩ (n_find (by omega) hS1 hE1) (by omega) (Nat.le_of_ble_eq_true rfl) ?_
        rintro _ ρ2 ⟨rfl, hC2, h652, hG2⟩ -
        have hS2 := hG2.sta hS1
        have hL2 := hE1.1.fm hG2
        have hE2 : FeM n K ρ2 := ⟨hL2, Or.inr ⟨h652, hC2⟩⟩
        have hF2 : Fm [0, 65, 67, 69, 70] [127, 128, 129, 130, 131] σ ρ2 := (hF1.mo (by decide) (by decide)).tr (hG2.mo (by decide) (by decide))
        have h72 := hL2.2.1
        have hN2 : (heldL K n).length ≤ 5040 := Nat.le_trans (filt_le K (rowsN n)) (rows_len h72.1 h72.2)
        have h672 := hC2.1.1
        refine AW_iload_n dX12_pairing_28 rfl ?_
        refine AW_iconst dX12_pairing_29 ?_
        refine AW_icmp_ne (tgt := 52) dX12_pairing_30 (by decide) (fun c_30 => ?_) (fun c_30 => ?_)
        · skip
          refine AW_iload_n dX12_pairing_52 rfl ?_
          refine AW_iconst dX12_pairing_53 ?_
          refine AW_icmp_le (tgt := 76) dX12_pairing_54 (by decide) (fun c_54 => ?_) (fun c_54 => ?_)
          · skip
            refine AW_iload_n dX12_pairing_76 rfl ?_
            refine AW_iconst dX12_pairing_77 ?_
            refine AW_icmp_ge (tgt := 89) dX12_pairing_78 (by decide) (fun c_78 => ?_) (fun c_78 => ?_)
            · skip
              obtain ⟨l, hlb⟩ : ∃ l, (heldL K n)[(which - 10).toNat]? = some l := ⟨_, List.getElem?_eq_getElem (show (which - 10).toNat < (heldL K n).length by omega)⟩
              refine AW_iload_n dX12_pairing_89 rfl ?_
              refine AW_bipush dX12_pairing_90 ?_
              refine AW_isubE dX12_pairing_92 (by omega) (by omega) ?_
              refine AW_istore3 dX12_pairing_93 ?_
              first
              | (refine AW_mq (fun r ρ q => ?_) (ln_pa0 (k := k) (by omega) hS2 hL2 hC2.1 hN2 hlb (held_iff.mp ho.mem).1 hgd.2)
                 rw [q.1]
                 refine ⟨_, q.2, Or.inr ⟨hgd, ?_⟩, Or.inr ⟨hgd, hE2, hF2⟩⟩
                 rcases ho with w | w
                 · exact Or.inr (Or.inl ⟨by omega, o, w.2, rfl⟩)
                 · exact Or.inr (Or.inr (Or.inl ⟨by omega, o, w.2, rfl⟩))
                 done)
              | (rw [show which - 10 = (((which - 10).toNat : Nat) : Int) by omega]
                 refine AW_mq (fun r ρ q => ?_) (ln_pa0 (k := k) (by omega) hS2 hL2 hC2.1 hN2 hlb (held_iff.mp (List.mem_of_getElem? hlb)).1 hgd.2)
                 rw [q.1]
                 exact ⟨_, q.2, Or.inr ⟨hgd, Or.inr (Or.inr (Or.inr ⟨by omega, Or.inl ⟨l, by omega, hlb, rfl⟩⟩))⟩, Or.inr ⟨hgd, hE2, hF2⟩⟩)
            · skip
              obtain ⟨o, ho⟩ := optS_ex K n (s := which.toNat) (by omega)
              refine AW_aload_n dX12_pairing_81 rfl ?_
              refine AW_iload_n dX12_pairing_82 rfl ?_
              refine AW_callV1 (d' := d - 1) dX12_pairing_83 (Or.inl lkX12_428) mfX12_bestOf (hS2.cel rfl) ⟨_, rfl, rfl⟩ (n_bestOf (s := which.toNat) (by omega) hS2 hL2 hC2.1 hN2 (by omega) ho _ (by omega)) (by omega) (Nat.le_of_ble_eq_true rfl) ?_
              rintro _ _ ⟨e_, b, rfl, hlb⟩ -
              rw [e_]
              clear e_
              refine AW_goto (tgt := 93) dX12_pairing_86 (by decide) ?_
              refine AW_istore3 dX12_pairing_93 ?_
              first
              | (refine AW_mq (fun r ρ q => ?_) (ln_pa0 (k := k) (by omega) hS2 hL2 hC2.1 hN2 hlb (held_iff.mp ho.mem).1 hgd.2)
                 rw [q.1]
                 refine ⟨_, q.2, Or.inr ⟨hgd, ?_⟩, Or.inr ⟨hgd, hE2, hF2⟩⟩
                 rcases ho with w | w
                 · exact Or.inr (Or.inl ⟨by omega, o, w.2, rfl⟩)
                 · exact Or.inr (Or.inr (Or.inl ⟨by omega, o, w.2, rfl⟩))
                 done)
              | (rw [show which - 10 = (((which - 10).toNat : Nat) : Int) by omega]
                 refine AW_mq (fun r ρ q => ?_) (ln_pa0 (k := k) (by omega) hS2 hL2 hC2.1 hN2 hlb (held_iff.mp (List.mem_of_getElem? hlb)).1 hgd.2)
                 rw [q.1]
                 exact ⟨_, q.2, Or.inr ⟨hgd, Or.inr (Or.inr (Or.inr ⟨by omega, Or.inl ⟨l, by omega, hlb, rfl⟩⟩))⟩, Or.inr ⟨hgd, hE2, hF2⟩⟩)
          · skip
            refine AW_aload_n dX12_pairing_57 rfl ?_
            refine AW_iload_n dX12_pairing_58 rfl ?_
            refine AW_bipush dX12_pairing_59 ?_
            refine AW_bipush dX12_pairing_61 ?_
            refine AW_aload_n dX12_pairing_63 rfl ?_
            refine AW_getI dX12_pairing_64 gfX12_401 (hS2.cel rfl) ?_
            refine AW_iaddE dX12_pairing_67 (by omega) (by omega) ?_
            refine AW_callV3 (d' := d - 1) dX12_pairing_68 (Or.inl lkX12_149) mfX12_isIn (hS2.cel rfl) ⟨_, rfl, rfl⟩ (n_isIn which 10 _) (by omega) (Nat.le_of_ble_eq_true rfl) ?_
            rintro _ _ ⟨e_, rfl⟩ -
            rw [e_]
            clear e_
            rw [h672]
            refine AW_if_ne (tgt := 76) dX12_pairing_71 (by decide) (fun c_71 => ?_) (fun c_71 => ?_)
            · skip
              replace c_71 := bz1 c_71
              refine AW_iload_n dX12_pairing_76 rfl ?_
              refine AW_iconst dX12_pairing_77 ?_
              refine AW_icmp_ge (tgt := 89) dX12_pairing_78 (by decide) (fun c_78 => ?_) (fun c_78 => ?_)
              · skip
                obtain ⟨l, hlb⟩ : ∃ l, (heldL K n)[(which - 10).toNat]? = some l := ⟨_, List.getElem?_eq_getElem (show (which - 10).toNat < (heldL K n).length by omega)⟩
                refine AW_iload_n dX12_pairing_89 rfl ?_
                refine AW_bipush dX12_pairing_90 ?_
                refine AW_isubE dX12_pairing_92 (by omega) (by omega) ?_
                refine AW_istore3 dX12_pairing_93 ?_
                first
                | (refine AW_mq (fun r ρ q => ?_) (ln_pa0 (k := k) (by omega) hS2 hL2 hC2.1 hN2 hlb (held_iff.mp ho.mem).1 hgd.2)
                   rw [q.1]
                   refine ⟨_, q.2, Or.inr ⟨hgd, ?_⟩, Or.inr ⟨hgd, hE2, hF2⟩⟩
                   rcases ho with w | w
                   · exact Or.inr (Or.inl ⟨by omega, o, w.2, rfl⟩)
                   · exact Or.inr (Or.inr (Or.inl ⟨by omega, o, w.2, rfl⟩))
                   done)
                | (rw [show which - 10 = (((which - 10).toNat : Nat) : Int) by omega]
                   refine AW_mq (fun r ρ q => ?_) (ln_pa0 (k := k) (by omega) hS2 hL2 hC2.1 hN2 hlb (held_iff.mp (List.mem_of_getElem? hlb)).1 hgd.2)
                   rw [q.1]
                   exact ⟨_, q.2, Or.inr ⟨hgd, Or.inr (Or.inr (Or.inr ⟨by omega, Or.inl ⟨l, by omega, hlb, rfl⟩⟩))⟩, Or.inr ⟨hgd, hE2, hF2⟩⟩)
              · skip
                obtain ⟨o, ho⟩ := optS_ex K n (s := which.toNat) (by omega)
                refine AW_aload_n dX12_pairing_81 rfl ?_
                refine AW_iload_n dX12_pairing_82 rfl ?_
                refine AW_callV1 (d' := d - 1) dX12_pairing_83 (Or.inl lkX12_428) mfX12_bestOf (hS2.cel rfl) ⟨_, rfl, rfl⟩ (n_bestOf (s := which.toNat) (by omega) hS2 hL2 hC2.1 hN2 (by omega) ho _ (by omega)) (by omega) (Nat.le_of_ble_eq_true rfl) ?_
                rintro _ _ ⟨e_, b, rfl, hlb⟩ -
                rw [e_]
                clear e_
                refine AW_goto (tgt := 93) dX12_pairing_86 (by decide) ?_
                refine AW_istore3 dX12_pairing_93 ?_
                first
                | (refine AW_mq (fun r ρ q => ?_) (ln_pa0 (k := k) (by omega) hS2 hL2 hC2.1 hN2 hlb (held_iff.mp ho.mem).1 hgd.2)
                   rw [q.1]
                   refine ⟨_, q.2, Or.inr ⟨hgd, ?_⟩, Or.inr ⟨hgd, hE2, hF2⟩⟩
                   rcases ho with w | w
                   · exact Or.inr (Or.inl ⟨by omega, o, w.2, rfl⟩)
                   · exact Or.inr (Or.inr (Or.inl ⟨by omega, o, w.2, rfl⟩))
                   done)
                | (rw [show which - 10 = (((which - 10).toNat : Nat) : Int) by omega]
                   refine AW_mq (fun r ρ q => ?_) (ln_pa0 (k := k) (by omega) hS2 hL2 hC2.1 hN2 hlb (held_iff.mp (List.mem_of_getElem? hlb)).1 hgd.2)
                   rw [q.1]
                   exact ⟨_, q.2, Or.inr ⟨hgd, Or.inr (Or.inr (Or.inr ⟨by omega, Or.inl ⟨l, by omega, hlb, rfl⟩⟩))⟩, Or.inr ⟨hgd, hE2, hF2⟩⟩)
            · skip
              replace c_71 := bz0 c_71
              refine AW_iconst dX12_pairing_74 ?_
              refine AW_iret dX12_pairing_75 rfl ?_
              exact ⟨-1, rfl, Or.inr ⟨hgd, Or.inr (Or.inr (Or.inr ⟨by omega, Or.inr ⟨by omega, rfl⟩⟩))⟩, Or.inr ⟨hgd, hE2, hF2⟩⟩
        · skip
          refine AW_iload_n dX12_pairing_33 rfl ?_
          refine AW_iconst dX12_pairing_34 ?_
          refine AW_icmp_ne (tgt := 45) dX12_pairing_35 (by decide) (fun c_35 => ?_) (fun c_35 => ?_)
          · skip
            refine AW_aload_n dX12_pairing_45 rfl ?_
            refine AW_getR (a := 128) dX12_pairing_46 gfX12_130 (hS2.cel rfl) (hS2.rf rfl) ?_
            refine AW_iload_n dX12_pairing_49 rfl ?_
            refine AW_iald dX12_pairing_50 (hS2.cel rfl) (by omega) (by omega) ?_
            refine AW_iret dX12_pairing_51 rfl ?_
            refine ⟨_, rfl, Or.inr ⟨hgd, Or.inl ⟨by omega, ?_⟩⟩, Or.inr ⟨hgd, hE2, hF2⟩⟩
            first
            | (rw [if_pos c_35, hC2.2.1]; done)
            | (rw [if_neg c_35, hC2.2.2.1 _ (by omega)]; done)
            | (rw [if_pos (by omega), hC2.2.1]; done)
            | (rw [if_neg (by omega), hC2.2.2.1 _ (by omega)]; done)
          · skip
            refine AW_aload_n dX12_pairing_38 rfl ?_
            refine AW_getI dX12_pairing_39 gfX12_395 (hS2.cel rfl) ?_
            refine AW_goto (tgt := 51) dX12_pairing_42 (by decide) ?_
            refine AW_iret dX12_pairing_51 rfl ?_
            refine ⟨_, rfl, Or.inr ⟨hgd, Or.inl ⟨by omega, ?_⟩⟩, Or.inr ⟨hgd, hE2, hF2⟩⟩
            first
            | (rw [if_pos c_35, hC2.2.1]; done)
            | (rw [if_neg c_35, hC2.2.2.1 _ (by omega)]; done)
            | (rw [if_pos (by omega), hC2.2.1]; done)
            | (rw [if_neg (by omega), hC2.2.2.1 _ (by omega)]; done)
      · skip
        replace c_19 := bz0 c_19
        refine AW_iconst dX12_pairing_22 ?_
        refine AW_iret dX12_pairing_23 rfl ?_
        exact ⟨-1, rfl, Or.inl ⟨by omega, rfl⟩, Or.inl ⟨by omega, hF1⟩⟩
theorem ln_wtd {G : Gt} {d : Nat} {σ : St} (hd : 1 ≤ d) {n : Nat} {K Q : Nat → Int} (hS : Sta σ) (hL : LkM n K σ) (hP : PrM Q σ) {m : Nat} (hm : m < n) : ∀ (nn : Nat) (q j : Nat), q < nn → j + 1 + q = n →  AW mX12_wanted G d 0 0 (mq G (fun ro ρ => ρ = σ ∧ ro = some (vI (wnt K Q m (n - 1) : Int)))) 4 [some (vR 94), some (vI (m : Int)), some (vI (wnt K Q m j : Int)), some (vI ((j : Int) + 1))] [] σ := by
  intro nn
  induction nn with
  | zero => intros; omega
  | succ nn ih =>
    intro q j hn hj
    have h7 := hL.2.1
    have h62 := hL.1
    have hwl := wnt_le K Q m j
    have hb1 := both_in hL.2.2.2 m (j + 1)
    have hb2 := both_in hL.2.2.2 m (wnt K Q m j)
    have hp1 := hP.2 (j + 1)
    have hp2 := hP.2 (wnt K Q m j)
    have hv2 := hP.1 (wnt K Q m j) (by omega)
    have f1 : lf K Q m (j + 1) = both K m (j + 1) - Q (j + 1) := rfl
    have f2 : lf K Q m (wnt K Q m j) = both K m (wnt K Q m j) - Q (wnt K Q m j) := rfl
    refine AW_iload_n dX12_wanted_4 rfl ?_
    refine AW_aload_n dX12_wanted_5 rfl ?_
    refine AW_getI dX12_wanted_6 gfX12_117 (hS.cel rfl) ?_
    refine AW_icmp_ge (tgt := 49) dX12_wanted_9 (by decide) (fun c_9 => ?_) (fun c_9 => ?_)
    · skip
      have hm2 : j = n - 1 := by omega
      subst hm2
      refine AW_iload_n dX12_wanted_49 rfl ?_
      refine AW_iret dX12_wanted_50 rfl ?_
      exact ⟨rfl, rfl⟩
    · skip
      obtain ⟨q1, rfl⟩ : ∃ q1, q = q1 + 1 := ⟨q - 1, by omega⟩
      have hss := wnt_s K Q m j
      have hv1 := hP.1 (j + 1) (by omega)
      refine AW_aload_n dX12_wanted_12 rfl ?_
      refine AW_iload_n dX12_wanted_13 rfl ?_
      refine AW_iload_n dX12_wanted_14 rfl ?_
      refine AW_callV2 (d' := d - 1) dX12_wanted_15 (Or.inl lkX12_389) mfX12_bothOf (hS.cel rfl) ⟨_, rfl, rfl⟩ (n_both hS hL _ _ m (j + 1) rfl (by omega) hm (by omega)) (by omega) (Nat.le_of_ble_eq_true rfl) ?_
      rintro _ _ ⟨e_, rfl⟩ -
      rw [e_]
      clear e_
      refine AW_aload_n dX12_wanted_18 rfl ?_
      refine AW_getR (a := 126) dX12_wanted_19 gfX12_123 (hS.cel rfl) (hS.rf rfl) ?_
      refine AW_iload_n dX12_wanted_22 rfl ?_
      refine AW_iald dX12_wanted_23 (hS.cel rfl) (by omega) (by omega) ?_
      rw [show ((j : Int) + 1).toNat = j + 1 by omega, hv1]
      refine AW_isubE dX12_wanted_24 (by omega) (by omega) ?_
      refine AW_aload_n dX12_wanted_25 rfl ?_
      refine AW_iload_n dX12_wanted_26 rfl ?_
      refine AW_iload_n dX12_wanted_27 rfl ?_
      refine AW_callV2 (d' := d - 1) dX12_wanted_28 (Or.inl lkX12_389) mfX12_bothOf (hS.cel rfl) ⟨_, rfl, rfl⟩ (n_both hS hL _ _ m (wnt K Q m j) rfl rfl hm (by omega)) (by omega) (Nat.le_of_ble_eq_true rfl) ?_
      rintro _ _ ⟨e_, rfl⟩ -
      rw [e_]
      clear e_
      refine AW_aload_n dX12_wanted_31 rfl ?_
      refine AW_getR (a := 126) dX12_wanted_32 gfX12_123 (hS.cel rfl) (hS.rf rfl) ?_
      refine AW_iload_n dX12_wanted_35 rfl ?_
      refine AW_iald dX12_wanted_36 (hS.cel rfl) (by omega) (by omega) ?_
      rw [Int.toNat_natCast, hv2]
      refine AW_isubE dX12_wanted_37 (by omega) (by omega) ?_
      refine AW_icmp_le (tgt := 43) dX12_wanted_38 (by decide) (fun c_38 => ?_) (fun c_38 => ?_)
      · skip
        rw [if_neg (by omega)] at hss
        refine AW_iincE3 dX12_wanted_43 (by omega) (by omega) ?_
        refine AW_goto (tgt := 4) dX12_wanted_46 (by decide) ?_
        first
        | (rw [← hss, show (j : Int) + 1 + 1 = ((j + 1 : Nat) : Int) + 1 by omega]; exact ih q1 (j + 1) (by omega) (by omega))
        | (have ih2 := ih q1 (j + 1) (by omega) (by omega)
           rw [hss] at ih2
           rw [show (j : Int) + 1 = ((j + 1 : Nat) : Int) by omega]
           exact ih2)
      · skip
        rw [if_pos (by omega)] at hss
        refine AW_iload_n dX12_wanted_41 rfl ?_
        refine AW_istore2 dX12_wanted_42 ?_
        refine AW_iincE3 dX12_wanted_43 (by omega) (by omega) ?_
        refine AW_goto (tgt := 4) dX12_wanted_46 (by decide) ?_
        first
        | (rw [← hss, show (j : Int) + 1 + 1 = ((j + 1 : Nat) : Int) + 1 by omega]; exact ih q1 (j + 1) (by omega) (by omega))
        | (have ih2 := ih q1 (j + 1) (by omega) (by omega)
           rw [hss] at ih2
           rw [show (j : Int) + 1 = ((j + 1 : Nat) : Int) by omega]
           exact ih2)
theorem n_wtd {G : Gt} {d : Nat} {σ : St} (hd : 1 ≤ d) {n : Nat} {K Q : Nat → Int} (hS : Sta σ) (hL : LkM n K σ) (hP : PrM Q σ) (m0 : Int) (m : Nat) (e1 : m0 = m) (hm : m < n) : AM mX12_wanted G d 0 0 [vR 94, vI m0] σ (fun ro ρ => ρ = σ ∧ ro = some (vI (wnt K Q m (n - 1) : Int))) := by
  subst e1
  refine AM.intro (by decide +kernel) (by simp [nLg]) (Nat.le_of_ble_eq_true rfl) (fun hO => ?_)
  show AW _ _ _ _ _ _ 0 [some (vR 94), some (vI (m : Int)), none, none] [] σ
  refine AW_iconst dX12_wanted_0 ?_
  refine AW_istore2 dX12_wanted_1 ?_
  refine AW_iconst dX12_wanted_2 ?_
  refine AW_istore3 dX12_wanted_3 ?_
  exact ln_wtd hd hS hL hP hm n (n - 1) 0 (by omega) (by omega)
theorem ln_su {G : Gt} {d : Nat} {σ : St} (hd : 2 ≤ d) {n : Nat} {K Q : Nat → Int} (hS : Sta σ) (hL : LkM n K σ) (hP : PrM Q σ) (hR0 : ∀ j, j < n → σ.2.1 128 j = ((mostL K n).getD j 0 : Int)) {x1 x2 : Option AV} : ∀ (nn : Nat) (q i : Nat) (x4 : Option AV), q < nn → i + q = n → (∀ m, m < i → lf K Q m ((mostL K n).getD m 0) = lf K Q m (wnt K Q m (n - 1))) →  AW mX12_sums G d 0 0 (mq G (fun ro ρ => ρ = σ ∧ ∃ z : Int, ro = some (vI z) ∧ ((z = 1 ∧ fitP K Q n) ∨ (z = 0 ∧ ¬ fitP K Q n)))) 58 [some (vR 94), x1, x2, some (vI (i : Int)), x4] [] σ := by
  intro nn
  induction nn with
  | zero => intros; omega
  | succ nn ih =>
    intro q i x4 hn hi hq
    have h7 := hL.2.1
    have h62 := hL.1
    have hmr := rows_iff.mp (most_row hL.2.2.2 n).1
    refine AW_iload_n dX12_sums_58 rfl ?_
    refine AW_aload_n dX12_sums_59 rfl ?_
    refine AW_getI dX12_sums_60 gfX12_117 (hS.cel rfl) ?_
    refine AW_icmp_ge (tgt := 122) dX12_sums_63 (by decide) (fun c_63 => ?_) (fun c_63 => ?_)
    · skip
      have hm2 : i = n := by omega
      subst hm2
      refine AW_iconst dX12_sums_122 ?_
      refine AW_iret dX12_sums_123 rfl ?_
      exact ⟨rfl, 1, rfl, Or.inl ⟨rfl, hq⟩⟩
    · skip
      obtain ⟨q1, rfl⟩ : ∃ q1, q = q1 + 1 := ⟨q - 1, by omega⟩
      have hlt := hmr.1.lt (i := i) (by omega)
      have hwl := wnt_le K Q i (n - 1)
      have hb1 := both_in hL.2.2.2 i ((mostL K n).getD i 0)
      have hb2 := both_in hL.2.2.2 i (wnt K Q i (n - 1))
      have hp1 := hP.2 ((mostL K n).getD i 0)
      have hp2 := hP.2 (wnt K Q i (n - 1))
      have hv1 := hP.1 ((mostL K n).getD i 0) (by omega)
      have hv2 := hP.1 (wnt K Q i (n - 1)) (by omega)
      have hr1 := hR0 i (by omega)
      have f1 : lf K Q i ((mostL K n).getD i 0) = both K i ((mostL K n).getD i 0) - Q ((mostL K n).getD i 0) := rfl
      have f2 : lf K Q i (wnt K Q i (n - 1)) = both K i (wnt K Q i (n - 1)) - Q (wnt K Q i (n - 1)) := rfl
      refine AW_aload_n dX12_sums_66 rfl ?_
      refine AW_iload_n dX12_sums_67 rfl ?_
      refine AW_callV1 (d' := d - 1) dX12_sums_68 (Or.inl lkX12_431) mfX12_wanted (hS.cel rfl) ⟨_, rfl, rfl⟩ (n_wtd (by omega) hS hL hP _ i rfl (by omega)) (by omega) (Nat.le_of_ble_eq_true rfl) ?_
      rintro _ _ ⟨e_, rfl⟩ -
      rw [e_]
      clear e_
      refine AW_istore4 dX12_sums_71 ?_
      refine AW_aload_n dX12_sums_73 rfl ?_
      refine AW_iload_n dX12_sums_74 rfl ?_
      refine AW_aload_n dX12_sums_75 rfl ?_
      refine AW_getR (a := 128) dX12_sums_76 gfX12_130 (hS.cel rfl) (hS.rf rfl) ?_
      refine AW_iload_n dX12_sums_79 rfl ?_
      refine AW_iald dX12_sums_80 (hS.cel rfl) (by omega) (by omega) ?_
      rw [Int.toNat_natCast, hr1]
      refine AW_callV2 (d' := d - 1) dX12_sums_81 (Or.inl lkX12_389) mfX12_bothOf (hS.cel rfl) ⟨_, rfl, rfl⟩ (n_both hS hL _ _ i ((mostL K n).getD i 0) rfl rfl (by omega) hlt) (by omega) (Nat.le_of_ble_eq_true rfl) ?_
      rintro _ _ ⟨e_, rfl⟩ -
      rw [e_]
      clear e_
      refine AW_aload_n dX12_sums_84 rfl ?_
      refine AW_getR (a := 126) dX12_sums_85 gfX12_123 (hS.cel rfl) (hS.rf rfl) ?_
      refine AW_aload_n dX12_sums_88 rfl ?_
      refine AW_getR (a := 128) dX12_sums_89 gfX12_130 (hS.cel rfl) (hS.rf rfl) ?_
      refine AW_iload_n dX12_sums_92 rfl ?_
      refine AW_iald dX12_sums_93 (hS.cel rfl) (by omega) (by omega) ?_
      rw [Int.toNat_natCast, hr1]
      refine AW_iald dX12_sums_94 (hS.cel rfl) (by omega) (by omega) ?_
      rw [Int.toNat_natCast, hv1]
      refine AW_isubE dX12_sums_95 (by omega) (by omega) ?_
      refine AW_aload_n dX12_sums_96 rfl ?_
      refine AW_iload_n dX12_sums_97 rfl ?_
      refine AW_iload dX12_sums_98 rfl ?_
      refine AW_callV2 (d' := d - 1) dX12_sums_100 (Or.inl lkX12_389) mfX12_bothOf (hS.cel rfl) ⟨_, rfl, rfl⟩ (n_both hS hL _ _ i (wnt K Q i (n - 1)) rfl rfl (by omega) (by omega)) (by omega) (Nat.le_of_ble_eq_true rfl) ?_
      rintro _ _ ⟨e_, rfl⟩ -
      rw [e_]
      clear e_
      refine AW_aload_n dX12_sums_103 rfl ?_
      refine AW_getR (a := 126) dX12_sums_104 gfX12_123 (hS.cel rfl) (hS.rf rfl) ?_
      refine AW_iload dX12_sums_107 rfl ?_
      refine AW_iald dX12_sums_109 (hS.cel rfl) (by omega) (by omega) ?_
      rw [Int.toNat_natCast, hv2]
      refine AW_isubE dX12_sums_110 (by omega) (by omega) ?_
      refine AW_icmp_eq (tgt := 116) dX12_sums_111 (by decide) (fun c_111 => ?_) (fun c_111 => ?_)
      · skip
        refine AW_iincE3 dX12_sums_116 (by omega) (by omega) ?_
        refine AW_goto (tgt := 58) dX12_sums_119 (by decide) ?_
        rw [show (i : Int) + 1 = ((i + 1 : Nat) : Int) by omega]
        refine ih q1 (i + 1) _ (by omega) (by omega) (fun m hm => ?_)
        by_cases hc : m = i
        · subst hc; omega
        · exact hq m (by omega)
      · skip
        refine AW_iconst dX12_sums_114 ?_
        refine AW_iret dX12_sums_115 rfl ?_
        refine ⟨rfl, 0, rfl, Or.inr ⟨rfl, fun q => ?_⟩⟩
        have := q i (by omega)
        omega
theorem m_sums {G : Gt} {d : Nat} {σ : St} (hd : 4 ≤ d) {n : Nat} {K : Nat → Int} (hS : Sta σ) (hE : FeM n K σ) {Q : Nat → Int} (hP : PrM Q σ) (k what : Int)  : AM mX12_sums G d 0 0 [vR 94, vI k, vI what] σ (fun ro ρ => ∃ z : Int, ro = some (vI z) ∧ suA K Q n k what z ∧ ((¬ ((0 ≤ what ∧ what ≤ 2) ∧ (what ≤ 0 ∨ 0 ≤ k ∧ k < n)) ∧ Fm [0] [] σ ρ) ∨ (((0 ≤ what ∧ what ≤ 2) ∧ (what ≤ 0 ∨ 0 ≤ k ∧ k < n)) ∧ FeM n K ρ ∧ Fm [0, 65, 67, 69, 70] [127, 128, 129, 130, 131] σ ρ))) := by
  refine AM.intro (by decide +kernel) (by simp [nLg]) (Nat.le_of_ble_eq_true rfl) (fun hO => ?_)
  have i_k : -2147483648 ≤ k ∧ k < 2147483648 := hO (vI k) (by simp)
  have i_what : -2147483648 ≤ what ∧ what < 2147483648 := hO (vI what) (by simp)
  show AW _ _ _ _ _ _ 0 [some (vR 94), some (vI k), some (vI what), none, none] [] σ
  refine AW_aload_n dX12_sums_0 rfl ?_
  refine AW_iconst dX12_sums_1 ?_
  refine AW_putI dX12_sums_2 (Or.inl pfX12_142) (hS.cel rfl) ?_
  have hF1 : Fm [0] [] σ (upI σ 94 0 0) := Fm.rf.uf (by decide) _
  have hS1 : Sta (upI σ 94 0 0) := hS
  have hE1 := hE.fm hF1
  have hP1 := hP.fm hF1
  generalize upI σ 94 0 0 = σ1 at hF1 hS1 hE1 hP1 ⊢
  refine AW_aload_n dX12_sums_5 rfl ?_
  refine AW_iload_n dX12_sums_6 rfl ?_
  refine AW_iconst dX12_sums_7 ?_
  refine AW_iconst dX12_sums_8 ?_
  refine AW_callV3 (d' := d - 1) dX12_sums_9 (Or.inl lkX12_149) mfX12_isIn (hS1.cel rfl) ⟨_, rfl, rfl⟩ (n_isIn what 0 2) (by omega) (Nat.le_of_ble_eq_true rfl) ?_
  rintro _ _ ⟨e_, rfl⟩ -
  rw [e_]
  clear e_
  refine AW_if_eq (tgt := 27) dX12_sums_12 (by decide) (fun c_12 => ?_) (fun c_12 => ?_)
  · skip
    replace c_12 := bz0 c_12
    refine AW_iconst dX12_sums_27 ?_
    refine AW_iret dX12_sums_28 rfl ?_
    exact ⟨-1, rfl, Or.inl ⟨by omega, rfl⟩, Or.inl ⟨by omega, hF1⟩⟩
  · skip
    replace c_12 := bz1 c_12
    refine AW_iload_n dX12_sums_15 rfl ?_
    refine AW_if_le (tgt := 29) dX12_sums_16 (by decide) (fun c_16 => ?_) (fun c_16 => ?_)
    · skip
      have hgd : ((0 ≤ what ∧ what ≤ 2) ∧ (what ≤ 0 ∨ 0 ≤ k ∧ k < n)) := by omega
      refine AW_aload_n dX12_sums_29 rfl ?_
      refine AW_callV0 (d' := d - 1) dX12_sums_30 (Or.inl lkX12_416) mfX12_findsPairings (hS1.cel rfl) ⟨_, rfl, rfl⟩ (n_find (by omega) hS1 hE1) (by omega) (Nat.le_of_ble_eq_true rfl) ?_
      rintro _ ρ2 ⟨rfl, hC2, h652, hG2⟩ -
      have hS2 := hG2.sta hS1
      have hL2 := hE1.1.fm hG2
      have hE2 : FeM n K ρ2 := ⟨hL2, Or.inr ⟨h652, hC2⟩⟩
      have hF2 : Fm [0, 65, 67, 69, 70] [127, 128, 129, 130, 131] σ ρ2 := (hF1.mo (by decide) (by decide)).tr (hG2.mo (by decide) (by decide))
      have h72 := hL2.2.1
      have hP2 := hP1.fm hG2
      refine AW_iload_n dX12_sums_33 rfl ?_
      refine AW_iconst dX12_sums_34 ?_
      refine AW_icmp_ne (tgt := 44) dX12_sums_35 (by decide) (fun c_35 => ?_) (fun c_35 => ?_)
      · skip
        refine AW_iload_n dX12_sums_44 rfl ?_
        refine AW_iconst dX12_sums_45 ?_
        refine AW_icmp_ne (tgt := 56) dX12_sums_46 (by decide) (fun c_46 => ?_) (fun c_46 => ?_)
        · skip
          refine AW_iconst dX12_sums_56 ?_
          refine AW_istore3 dX12_sums_57 ?_
          refine AW_mq (fun r ρ q => ?_) (ln_su (by omega) hS2 hL2 hP2 hC2.2.2.1 (n + 1) n 0 none (by omega) (by omega) (fun x hx => absurd hx (Nat.not_lt_zero x)))
          obtain ⟨q1, z, q2, q3⟩ := q
          rw [q1]
          refine ⟨z, q2, Or.inr ⟨hgd, Or.inl ⟨by omega, ?_⟩⟩, Or.inr ⟨hgd, hE2, hF2⟩⟩
          exact q3.imp (fun w => ⟨w.2, w.1⟩) (fun w => ⟨w.2, w.1⟩)
        · skip
          refine AW_aload_n dX12_sums_49 rfl ?_
          refine AW_getR (a := 131) dX12_sums_50 gfX12_139 (hS2.cel rfl) (hS2.rf rfl) ?_
          refine AW_iload_n dX12_sums_53 rfl ?_
          refine AW_iald dX12_sums_54 (hS2.cel rfl) (by omega) (by omega) ?_
          refine AW_iret dX12_sums_55 rfl ?_
          exact ⟨_, rfl, Or.inr ⟨hgd, Or.inr (Or.inr ⟨by omega, hC2.2.2.2.2 _ (by omega)⟩)⟩, Or.inr ⟨hgd, hE2, hF2⟩⟩
      · skip
        refine AW_aload_n dX12_sums_38 rfl ?_
        refine AW_iload_n dX12_sums_39 rfl ?_
        refine AW_callV1 (d' := d - 1) dX12_sums_40 (Or.inl lkX12_431) mfX12_wanted (hS2.cel rfl) ⟨_, rfl, rfl⟩ (n_wtd (by omega) hS2 hL2 hP2 _ k.toNat (by omega) (by omega)) (by omega) (Nat.le_of_ble_eq_true rfl) ?_
        rintro _ _ ⟨e_, rfl⟩ -
        rw [e_]
        clear e_
        refine AW_iret dX12_sums_43 rfl ?_
        exact ⟨_, rfl, Or.inr ⟨hgd, Or.inr (Or.inl ⟨by omega, rfl⟩)⟩, Or.inr ⟨hgd, hE2, hF2⟩⟩
    · skip
      refine AW_aload_n dX12_sums_19 rfl ?_
      refine AW_iload_n dX12_sums_20 rfl ?_
      refine AW_callV1 (d' := d - 1) dX12_sums_21 (Or.inl lkX12_383) mfX12_isGuest (hS1.cel rfl) ⟨_, rfl, rfl⟩ (n_isGuest hS1 hE1.1 k) (by omega) (Nat.le_of_ble_eq_true rfl) ?_
      rintro _ _ ⟨e_, rfl⟩ -
      rw [e_]
      clear e_
      refine AW_if_ne (tgt := 29) dX12_sums_24 (by decide) (fun c_24 => ?_) (fun c_24 => ?_)
      · skip
        replace c_24 := bz1 c_24
        have hgd : ((0 ≤ what ∧ what ≤ 2) ∧ (what ≤ 0 ∨ 0 ≤ k ∧ k < n)) := by omega
        refine AW_aload_n dX12_sums_29 rfl ?_
        refine AW_callV0 (d' := d - 1) dX12_sums_30 (Or.inl lkX12_416) mfX12_findsPairings (hS1.cel rfl) ⟨_, rfl, rfl⟩ (n_find (by omega) hS1 hE1) (by omega) (Nat.le_of_ble_eq_true rfl) ?_
        rintro _ ρ2 ⟨rfl, hC2, h652, hG2⟩ -
        have hS2 := hG2.sta hS1
        have hL2 := hE1.1.fm hG2
        have hE2 : FeM n K ρ2 := ⟨hL2, Or.inr ⟨h652, hC2⟩⟩
        have hF2 : Fm [0, 65, 67, 69, 70] [127, 128, 129, 130, 131] σ ρ2 := (hF1.mo (by decide) (by decide)).tr (hG2.mo (by decide) (by decide))
        have h72 := hL2.2.1
        have hP2 := hP1.fm hG2
        refine AW_iload_n dX12_sums_33 rfl ?_
        refine AW_iconst dX12_sums_34 ?_
        refine AW_icmp_ne (tgt := 44) dX12_sums_35 (by decide) (fun c_35 => ?_) (fun c_35 => ?_)
        · skip
          refine AW_iload_n dX12_sums_44 rfl ?_
          refine AW_iconst dX12_sums_45 ?_
          refine AW_icmp_ne (tgt := 56) dX12_sums_46 (by decide) (fun c_46 => ?_) (fun c_46 => ?_)
          · skip
            refine AW_iconst dX12_sums_56 ?_
            refine AW_istore3 dX12_sums_57 ?_
            refine AW_mq (fun r ρ q => ?_) (ln_su (by omega) hS2 hL2 hP2 hC2.2.2.1 (n + 1) n 0 none (by omega) (by omega) (fun x hx => absurd hx (Nat.not_lt_zero x)))
            obtain ⟨q1, z, q2, q3⟩ := q
            rw [q1]
            refine ⟨z, q2, Or.inr ⟨hgd, Or.inl ⟨by omega, ?_⟩⟩, Or.inr ⟨hgd, hE2, hF2⟩⟩
            exact q3.imp (fun w => ⟨w.2, w.1⟩) (fun w => ⟨w.2, w.1⟩)
          · skip
            refine AW_aload_n dX12_sums_49 rfl ?_
            refine AW_getR (a := 131) dX12_sums_50 gfX12_139 (hS2.cel rfl) (hS2.rf rfl) ?_
            refine AW_iload_n dX12_sums_53 rfl ?_
            refine AW_iald dX12_sums_54 (hS2.cel rfl) (by omega) (by omega) ?_
            refine AW_iret dX12_sums_55 rfl ?_
            exact ⟨_, rfl, Or.inr ⟨hgd, Or.inr (Or.inr ⟨by omega, hC2.2.2.2.2 _ (by omega)⟩)⟩, Or.inr ⟨hgd, hE2, hF2⟩⟩
        · skip
          refine AW_aload_n dX12_sums_38 rfl ?_
          refine AW_iload_n dX12_sums_39 rfl ?_
          refine AW_callV1 (d' := d - 1) dX12_sums_40 (Or.inl lkX12_431) mfX12_wanted (hS2.cel rfl) ⟨_, rfl, rfl⟩ (n_wtd (by omega) hS2 hL2 hP2 _ k.toNat (by omega) (by omega)) (by omega) (Nat.le_of_ble_eq_true rfl) ?_
          rintro _ _ ⟨e_, rfl⟩ -
          rw [e_]
          clear e_
          refine AW_iret dX12_sums_43 rfl ?_
          exact ⟨_, rfl, Or.inr ⟨hgd, Or.inr (Or.inl ⟨by omega, rfl⟩)⟩, Or.inr ⟨hgd, hE2, hF2⟩⟩
      · skip
        replace c_24 := bz0 c_24
        refine AW_iconst dX12_sums_27 ?_
        refine AW_iret dX12_sums_28 rfl ?_
        exact ⟨-1, rfl, Or.inl ⟨by omega, rfl⟩, Or.inl ⟨by omega, hF1⟩⟩
