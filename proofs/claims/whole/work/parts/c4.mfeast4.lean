theorem psh_own (K : Nat → Int) (n : Nat) (M : Nat → Nat) (m : Nat) (L : Nat → Int) : psh K n M m L (M m) = L (M m) := by
  by_cases h : M m < n
  · rw [psh_i _ _ _ _ _ h]; split <;> omega
  · rw [psh_o _ _ _ _ _ h]
/-- a round's man half through -/
def pvw (K : Nat → Int) (n : Nat) (M : Nat → Nat) (m : Nat) (L : Nat → Int) (w x : Nat) : Int := if x < w then psh K n M m L x else L x
theorem pvw_0 (K : Nat → Int) (n : Nat) (M : Nat → Nat) (m : Nat) (L : Nat → Int) (x : Nat) : pvw K n M m L 0 x = L x := by unfold pvw; rw [if_neg (by omega)]
theorem pvw_n (K : Nat → Int) (n : Nat) (M : Nat → Nat) (m : Nat) (L : Nat → Int) (x : Nat) : pvw K n M m L n x = psh K n M m L x := by
  unfold pvw
  by_cases h : x < n
  · rw [if_pos h]
  · rw [if_neg h, psh_o _ _ _ _ _ h]
theorem pvw_own (K : Nat → Int) (n : Nat) (M : Nat → Nat) (m : Nat) (L : Nat → Int) (w : Nat) : pvw K n M m L w (M m) = L (M m) := by unfold pvw; rw [psh_own]; split <;> rfl
theorem pvw_at (K : Nat → Int) (n : Nat) (M : Nat → Nat) (m : Nat) (L : Nat → Int) (w : Nat) : pvw K n M m L w w = L w := by unfold pvw; rw [if_neg (by omega)]
theorem pvw_s (K : Nat → Int) (n : Nat) (M : Nat → Nat) (m : Nat) (L : Nat → Int) (w x : Nat) : pvw K n M m L (w + 1) x = if x = w then psh K n M m L w else pvw K n M m L w x := by
  unfold pvw
  by_cases h : x = w
  · subst h; rw [if_pos (by omega), if_pos rfl]
  · rw [if_neg h]
    by_cases h2 : x < w
    · rw [if_pos (by omega), if_pos h2]
    · rw [if_neg (by omega), if_neg h2]
/-- what 'more' says of a round so far -/
def mre (b : Int) (L0 V : Nat → Int) : Prop := (b = 0 ∧ ∀ x, V x = L0 x) ∨ (b = 1 ∧ ∃ x, L0 x < V x)
theorem ln_pr3 {G : Gt} {d : Nat} {σ : St} {n : Nat} {K : Nat → Int} (hd : 1 ≤ d) (hS0 : Sta σ) (hL0 : LkM n K σ) (hR0 : ∀ j, j < n → σ.2.1 128 j = ((mostL K n).getD j 0 : Int)) {M : Nat → Nat} (hM : ∀ i, M i = (mostL K n).getD i 0) {r : Nat} {i : Nat} (hi : i < n) {Qz : QZ} (hnx : ∀ (b : Int) (x5 : Option AV) (τ : St), Fm [] [131] σ τ → (∀ x, x < 7 → τ.2.1 131 x = rnd K n M (i + 1) (itP K n M r) x) → mre b (itP K n M r) (rnd K n M (i + 1) (itP K n M r)) → AW mX12_findsPrices G d 0 0 Qz 31 [some (vR 94), some (vI b), some (vI ((i + 1 : Nat) : Int)), some (vI (M i : Int)), some (vI (n : Int)), x5] [] τ) : ∀ (nn : Nat) (q w : Nat) (b : Int) (x5 : Option AV) (τ : St), q < nn → w + q = n → Fm [] [131] σ τ → (∀ x, x < 7 → τ.2.1 131 x = pvw K n M i (rnd K n M i (itP K n M r)) w x) → mre b (itP K n M r) (pvw K n M i (rnd K n M i (itP K n M r)) w) →  AW mX12_findsPrices G d 0 0 (Qz) 49 [some (vR 94), some (vI b), some (vI (i : Int)), some (vI (M i : Int)), some (vI (w : Int)), x5] [] τ := by
  intro nn
  induction nn with
  | zero => intros; omega
  | succ nn ih =>
    intro q w b x5 τ hn hw hF hx hb
    have hS := hF.sta hS0
    have hL := hL0.fm hF
    have h7 := hL.2.1
    have h62 := hL.1
    obtain ⟨hMb, _, _⟩ := most_opt hL.2.2.2 hM
    have hMi := hMb i hi
    have hbi := both_in hL.2.2.2 i (M i)
    have hlo := rnd_bd hL.2.2.2 hM r i (M i) (by omega)
    have hxo := hx (M i) (by omega)
    rw [pvw_own] at hxo
    refine AW_iload dX12_findsPrices_49 rfl ?_
    refine AW_aload_n dX12_findsPrices_51 rfl ?_
    refine AW_getI dX12_findsPrices_52 gfX12_117 (hS.cel rfl) ?_
    refine AW_icmp_ge (tgt := 113) dX12_findsPrices_55 (by decide) (fun c_55 => ?_) (fun c_55 => ?_)
    · skip
      have hm2 : w = n := by omega
      subst hm2
      refine AW_iincE2 dX12_findsPrices_113 (by omega) (by omega) ?_
      refine AW_goto (tgt := 31) dX12_findsPrices_116 (by decide) ?_
      rw [show (i : Int) + 1 = ((i + 1 : Nat) : Int) by omega]
      have e : pvw K w M i (rnd K w M i (itP K w M r)) w = rnd K w M (i + 1) (itP K w M r) := by
        funext x
        rw [pvw_n, rnd_s]
      rw [e] at hb
      exact hnx b _ τ hF (fun x h => by rw [hx x h, e]) hb
    · skip
      obtain ⟨q1, rfl⟩ : ∃ q1, q = q1 + 1 := ⟨q - 1, by omega⟩
      have hbw := both_in hL.2.2.2 i w
      have hlw := rnd_bd hL.2.2.2 hM r i w (by omega)
      have hg0 := rnd_ge K n M (itP K n M r) w 0 i
      rw [Nat.zero_add] at hg0
      have hxw := hx w (by omega)
      rw [pvw_at] at hxw
      have hps := psh_i K n M i (rnd K n M i (itP K n M r)) (w := w) (by omega)
      refine AW_aload_n dX12_findsPrices_58 rfl ?_
      refine AW_getR (a := 131) dX12_findsPrices_59 gfX12_139 (hS.cel rfl) (hS.rf rfl) ?_
      refine AW_iload_n dX12_findsPrices_62 rfl ?_
      refine AW_iald dX12_findsPrices_63 (hS.cel rfl) (by omega) (by omega) ?_
      rw [Int.toNat_natCast, hxo]
      refine AW_aload_n dX12_findsPrices_64 rfl ?_
      refine AW_iload_n dX12_findsPrices_65 rfl ?_
      refine AW_iload dX12_findsPrices_66 rfl ?_
      refine AW_callV2 (d' := d - 1) dX12_findsPrices_68 (Or.inl lkX12_389) mfX12_bothOf (hS.cel rfl) ⟨_, rfl, rfl⟩ (n_both hS hL _ _ i w rfl rfl hi (by omega)) (by omega) (Nat.le_of_ble_eq_true rfl) ?_
      rintro _ _ ⟨e_, rfl⟩ -
      rw [e_]
      clear e_
      refine AW_iaddE dX12_findsPrices_71 (by omega) (by omega) ?_
      refine AW_aload_n dX12_findsPrices_72 rfl ?_
      refine AW_iload_n dX12_findsPrices_73 rfl ?_
      refine AW_iload_n dX12_findsPrices_74 rfl ?_
      refine AW_callV2 (d' := d - 1) dX12_findsPrices_75 (Or.inl lkX12_389) mfX12_bothOf (hS.cel rfl) ⟨_, rfl, rfl⟩ (n_both hS hL _ _ i (M i) rfl rfl hi hMi) (by omega) (Nat.le_of_ble_eq_true rfl) ?_
      rintro _ _ ⟨e_, rfl⟩ -
      rw [e_]
      clear e_
      refine AW_isubE dX12_findsPrices_78 (by omega) (by omega) ?_
      refine AW_istore5 dX12_findsPrices_79 ?_
      refine AW_aload_n dX12_findsPrices_81 rfl ?_
      refine AW_getR (a := 131) dX12_findsPrices_82 gfX12_139 (hS.cel rfl) (hS.rf rfl) ?_
      refine AW_iload dX12_findsPrices_85 rfl ?_
      refine AW_iald dX12_findsPrices_87 (hS.cel rfl) (by omega) (by omega) ?_
      refine AW_iload dX12_findsPrices_88 rfl ?_
      refine AW_icmp_lt (tgt := 96) dX12_findsPrices_90 (by decide) (fun c_90 => ?_) (fun c_90 => ?_)
      · skip
        rw [Int.toNat_natCast, hxw] at c_90
        rw [if_pos c_90] at hps
        refine AW_aload_n dX12_findsPrices_96 rfl ?_
        refine AW_getR (a := 131) dX12_findsPrices_97 gfX12_139 (hS.cel rfl) (hS.rf rfl) ?_
        refine AW_iload dX12_findsPrices_100 rfl ?_
        refine AW_iload dX12_findsPrices_102 rfl ?_
        refine AW_iast dX12_findsPrices_104 (hS.cel rfl) (by omega) (by omega) ?_
        refine AW_iconst dX12_findsPrices_105 ?_
        refine AW_istore1 dX12_findsPrices_106 ?_
        refine AW_iincE4 dX12_findsPrices_107 (by omega) (by omega) ?_
        refine AW_goto (tgt := 49) dX12_findsPrices_110 (by decide) ?_
        rw [show (w : Int) + 1 = ((w + 1 : Nat) : Int) by omega]
        first
        | (refine ih q1 (w + 1) _ _ _ (by omega) (by omega) hF (fun x h => ?_) ?_
           · rw [hx x h, pvw_s]
             by_cases hc : x = w
             · rw [if_pos hc, hps, hc, pvw_at]
             · rw [if_neg hc]
           · have e : pvw K n M i (rnd K n M i (itP K n M r)) (w + 1) = pvw K n M i (rnd K n M i (itP K n M r)) w := by
               funext x
               rw [pvw_s]
               by_cases hc : x = w
               · rw [if_pos hc, hps, hc, pvw_at]
               · rw [if_neg hc]
             rw [e]
             exact hb
           done)
        | (rw [Int.toNat_natCast]
           refine ih q1 (w + 1) _ _ _ (by omega) (by omega) (hF.ua (by decide) (by decide) _ _) (fun x h => ?_) (Or.inr ⟨rfl, w, ?_⟩)
           · rw [up_if, pvw_s]
             by_cases hc : x = w
             · rw [if_pos ⟨rfl, hc⟩, if_pos hc, hps]
             · rw [if_neg (fun q => hc q.2), if_neg hc, hx x h]
           · rw [pvw_s, if_pos rfl, hps]
             have h00 : rnd K n M 0 (itP K n M r) w = itP K n M r w := rfl
             omega
           done)
      · skip
        rw [Int.toNat_natCast, hxw] at c_90
        rw [if_neg c_90] at hps
        refine AW_goto (tgt := 107) dX12_findsPrices_93 (by decide) ?_
        refine AW_iincE4 dX12_findsPrices_107 (by omega) (by omega) ?_
        refine AW_goto (tgt := 49) dX12_findsPrices_110 (by decide) ?_
        rw [show (w : Int) + 1 = ((w + 1 : Nat) : Int) by omega]
        first
        | (refine ih q1 (w + 1) _ _ _ (by omega) (by omega) hF (fun x h => ?_) ?_
           · rw [hx x h, pvw_s]
             by_cases hc : x = w
             · rw [if_pos hc, hps, hc, pvw_at]
             · rw [if_neg hc]
           · have e : pvw K n M i (rnd K n M i (itP K n M r)) (w + 1) = pvw K n M i (rnd K n M i (itP K n M r)) w := by
               funext x
               rw [pvw_s]
               by_cases hc : x = w
               · rw [if_pos hc, hps, hc, pvw_at]
               · rw [if_neg hc]
             rw [e]
             exact hb
           done)
        | (rw [Int.toNat_natCast]
           refine ih q1 (w + 1) _ _ _ (by omega) (by omega) (hF.ua (by decide) (by decide) _ _) (fun x h => ?_) (Or.inr ⟨rfl, w, ?_⟩)
           · rw [up_if, pvw_s]
             by_cases hc : x = w
             · rw [if_pos ⟨rfl, hc⟩, if_pos hc, hps]
             · rw [if_neg (fun q => hc q.2), if_neg hc, hx x h]
           · rw [pvw_s, if_pos rfl, hps]
             have h00 : rnd K n M 0 (itP K n M r) w = itP K n M r w := rfl
             omega
           done)
theorem ln_pr2 {G : Gt} {d : Nat} {σ : St} {n : Nat} {K : Nat → Int} (hd : 1 ≤ d) (hS0 : Sta σ) (hL0 : LkM n K σ) (hR0 : ∀ j, j < n → σ.2.1 128 j = ((mostL K n).getD j 0 : Int)) {M : Nat → Nat} (hM : ∀ i, M i = (mostL K n).getD i 0) {r : Nat} {Qz : QZ} (hnx : ∀ (b : Int) (x3 x4 x5 : Option AV) (τ : St), Fm [] [131] σ τ → (∀ x, x < 7 → τ.2.1 131 x = itP K n M (r + 1) x) → mre b (itP K n M r) (itP K n M (r + 1)) → AW mX12_findsPrices G d 0 0 Qz 23 [some (vR 94), some (vI b), some (vI (n : Int)), x3, x4, x5] [] τ) : ∀ (nn : Nat) (q i : Nat) (b : Int) (x3 x4 x5 : Option AV) (τ : St), q < nn → i + q = n → Fm [] [131] σ τ → (∀ x, x < 7 → τ.2.1 131 x = (rnd K n M i (itP K n M r)) x) → mre b (itP K n M r) ((rnd K n M i (itP K n M r))) →  AW mX12_findsPrices G d 0 0 (Qz) 31 [some (vR 94), some (vI b), some (vI (i : Int)), x3, x4, x5] [] τ := by
  intro nn
  induction nn with
  | zero => intros; omega
  | succ nn ih =>
    intro q i b x3 x4 x5 τ hn hi hF hx hb
    have hS := hF.sta hS0
    have hL := hL0.fm hF
    have h7 := hL.2.1
    have h62 := hL.1
    refine AW_iload_n dX12_findsPrices_31 rfl ?_
    refine AW_aload_n dX12_findsPrices_32 rfl ?_
    refine AW_getI dX12_findsPrices_33 gfX12_117 (hS.cel rfl) ?_
    refine AW_icmp_ge (tgt := 119) dX12_findsPrices_36 (by decide) (fun c_36 => ?_) (fun c_36 => ?_)
    · skip
      have hm2 : i = n := by omega
      subst hm2
      refine AW_goto (tgt := 23) dX12_findsPrices_119 (by decide) ?_
      exact hnx b _ _ _ τ hF hx hb
    · skip
      obtain ⟨q1, rfl⟩ : ∃ q1, q = q1 + 1 := ⟨q - 1, by omega⟩
      refine AW_aload_n dX12_findsPrices_39 rfl ?_
      refine AW_getR (a := 128) dX12_findsPrices_40 gfX12_130 (hS.cel rfl) (hS.rf rfl) ?_
      refine AW_iload_n dX12_findsPrices_43 rfl ?_
      refine AW_iald dX12_findsPrices_44 (hS.cel rfl) (by omega) (by omega) ?_
      rw [Int.toNat_natCast, hF.a 128 i, hR0 i (by omega), ← hM]
      refine AW_istore3 dX12_findsPrices_45 ?_
      refine AW_iconst dX12_findsPrices_46 ?_
      refine AW_istore4 dX12_findsPrices_47 ?_
      refine ln_pr3 hd hS0 hL0 hR0 hM (show i < n by omega) (fun b2 y5 τ2 g1 g2 g3 => ih q1 (i + 1) b2 _ _ y5 τ2 (by omega) (by omega) g1 g2 g3) (n + 1) n 0 b _ τ (by omega) (by omega) hF (fun x h => by rw [pvw_0]; exact hx x h) ?_
      have e : pvw K n M i (rnd K n M i (itP K n M r)) 0 = (rnd K n M i (itP K n M r)) := by
        funext x
        rw [pvw_0]
      rw [e]
      exact hb
theorem ln_pr1 {G : Gt} {d : Nat} {σ : St} {n : Nat} {K : Nat → Int} (hd : 1 ≤ d) (hS0 : Sta σ) (hL0 : LkM n K σ) (hR0 : ∀ j, j < n → σ.2.1 128 j = ((mostL K n).getD j 0 : Int)) {M : Nat → Nat} (hM : ∀ i, M i = (mostL K n).getD i 0) : ∀ (nn : Nat) (q r : Nat) (b : Int) (x2 x3 x4 x5 : Option AV) (τ : St), q < nn → r + q = n + 1 → Fm [] [131] σ τ → (∀ x, x < 7 → τ.2.1 131 x = itP K n M r x) → ((b = 1 ∧ r ≤ n) ∨ (b = 0 ∧ itP K n M n = itP K n M r)) →  AW mX12_findsPrices G d 0 0 (mq G (fun ro ρ => ro = none ∧ Fm [] [131] σ ρ ∧ ∀ w, w < 7 → ρ.2.1 131 w = itP K n M n w)) 23 [some (vR 94), some (vI b), x2, x3, x4, x5] [] τ := by
  intro nn
  induction nn with
  | zero => intros; omega
  | succ nn ih =>
    intro q r b x2 x3 x4 x5 τ hn hr hF hx hb
    have hS := hF.sta hS0
    have hL := hL0.fm hF
    have h7 := hL.2.1
    refine AW_iload_n dX12_findsPrices_23 rfl ?_
    refine AW_if_eq (tgt := 122) dX12_findsPrices_24 (by decide) (fun c_24 => ?_) (fun c_24 => ?_)
    · skip
      refine AW_vret dX12_findsPrices_122 rfl ?_
      rcases hb with q | q
      · exact absurd (c_24.symm.trans q.1) (by decide)
      · exact ⟨rfl, hF, fun w hw => by rw [hx w hw, q.2]⟩
    · skip
      obtain ⟨hb1, hrn⟩ : b = 1 ∧ r ≤ n := by
        rcases hb with q | q
        · exact q
        · exact absurd q.1 c_24
      obtain ⟨q1, rfl⟩ : ∃ q1, q = q1 + 1 := ⟨q - 1, by omega⟩
      refine AW_iconst dX12_findsPrices_27 ?_
      refine AW_istore1 dX12_findsPrices_28 ?_
      refine AW_iconst dX12_findsPrices_29 ?_
      refine AW_istore2 dX12_findsPrices_30 ?_
      refine ln_pr2 hd hS0 hL0 hR0 hM (fun b2 y3 y4 y5 τ2 g1 g2 g3 => ih q1 (r + 1) b2 _ y3 y4 y5 τ2 (by omega) (by omega) g1 g2 ?_) (n + 1) n 0 0 _ _ _ τ (by omega) (by omega) hF hx (Or.inl ⟨rfl, fun _ => rfl⟩)
      rcases g3 with ⟨e1, e2⟩ | ⟨e1, y, hy⟩
      · have e3 : itP K n M (r + 1) = itP K n M r := funext e2
        have e4 := itP_stay e3 (n - r)
        rw [show r + (n - r) = n by omega] at e4
        exact Or.inr ⟨e1, e4.trans e3.symm⟩
      · refine Or.inl ⟨e1, ?_⟩
        by_cases hc : n - 1 ≤ r
        · rw [itP_fix hL.2.2.2 hM hc] at hy
          exact absurd hy (Int.lt_irrefl _)
        · omega
theorem ln_pr0 {G : Gt} {d : Nat} {σ : St} {n : Nat} {K : Nat → Int} (hd : 1 ≤ d) (hS0 : Sta σ) (hL0 : LkM n K σ) (hR0 : ∀ j, j < n → σ.2.1 128 j = ((mostL K n).getD j 0 : Int)) {M : Nat → Nat} (hM : ∀ i, M i = (mostL K n).getD i 0) : ∀ (nn : Nat) (q i : Nat) (τ : St), q < nn → i + q = 7 → Fm [] [131] σ τ → (∀ x, x < i → τ.2.1 131 x = 0) →  AW mX12_findsPrices G d 0 0 (mq G (fun ro ρ => ro = none ∧ Fm [] [131] σ ρ ∧ ∀ w, w < 7 → ρ.2.1 131 w = itP K n M n w)) 2 [some (vR 94), some (vI (i : Int)), none, none, none, none] [] τ := by
  intro nn
  induction nn with
  | zero => intros; omega
  | succ nn ih =>
    intro q i τ hn hi hF hx
    have hS := hF.sta hS0
    have hL := hL0.fm hF
    have h7 := hL.2.1
    refine AW_iload_n dX12_findsPrices_2 rfl ?_
    refine AW_bipush dX12_findsPrices_3 ?_
    refine AW_icmp_ge (tgt := 21) dX12_findsPrices_5 (by decide) (fun c_5 => ?_) (fun c_5 => ?_)
    · skip
      have hm2 : i = 7 := by omega
      subst hm2
      refine AW_iconst dX12_findsPrices_21 ?_
      refine AW_istore1 dX12_findsPrices_22 ?_
      exact ln_pr1 hd hS0 hL0 hR0 hM (n + 2) (n + 1) 0 1 none none none none τ (by omega) (by omega) hF hx (Or.inl ⟨rfl, Nat.zero_le _⟩)
    · skip
      obtain ⟨q1, rfl⟩ : ∃ q1, q = q1 + 1 := ⟨q - 1, by omega⟩
      refine AW_aload_n dX12_findsPrices_8 rfl ?_
      refine AW_getR (a := 131) dX12_findsPrices_9 gfX12_139 (hS.cel rfl) (hS.rf rfl) ?_
      refine AW_iload_n dX12_findsPrices_12 rfl ?_
      refine AW_iconst dX12_findsPrices_13 ?_
      refine AW_iast dX12_findsPrices_14 (hS.cel rfl) (by omega) (by omega) ?_
      refine AW_iincE1 dX12_findsPrices_15 (by omega) (by omega) ?_
      refine AW_goto (tgt := 2) dX12_findsPrices_18 (by decide) ?_
      rw [show (i : Int) + 1 = ((i + 1 : Nat) : Int) by omega, Int.toNat_natCast]
      refine ih q1 (i + 1) _ (by omega) (by omega) (hF.ua (by decide) (by decide) _ _) (fun x h => ?_)
      rw [up_if]
      by_cases hc : x = i
      · rw [if_pos ⟨rfl, hc⟩]
      · rw [if_neg (fun q => hc q.2), hx x (by omega)]
theorem n_prices {G : Gt} {d : Nat} {σ : St} (hd : 1 ≤ d) {n : Nat} {K : Nat → Int} (hS : Sta σ) (hL : LkM n K σ) (hR0 : ∀ j, j < n → σ.2.1 128 j = ((mostL K n).getD j 0 : Int)) {M : Nat → Nat} (hM : ∀ i, M i = (mostL K n).getD i 0)  : AM mX12_findsPrices G d 0 0 [vR 94] σ (fun ro ρ => ro = none ∧ Fm [] [131] σ ρ ∧ ∀ w, w < 7 → ρ.2.1 131 w = itP K n M n w) := by
  refine AM.intro (by decide +kernel) (by simp [nLg]) (Nat.le_of_ble_eq_true rfl) (fun hO => ?_)
  show AW _ _ _ _ _ _ 0 [some (vR 94), none, none, none, none, none] [] σ
  refine AW_iconst dX12_findsPrices_0 ?_
  refine AW_istore1 dX12_findsPrices_1 ?_
  exact ln_pr0 hd hS hL hR0 hM 8 7 0 σ (by omega) (by omega) Fm.rf (fun x hx => absurd hx (Nat.not_lt_zero x))
