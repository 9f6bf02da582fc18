/-- the TAPE: n bytes B, as the class and as the model hold it -/
def tpC (n : Nat) (B : Nat → Int) (σ : St) : Prop := σ.2.1 29 4 = n ∧ n ≤ 400 ∧ ∀ k, k < n → aAnd (σ.2.1 30 k) 255 = B k
def tpM (n : Nat) (B : Nat → Int) (σ : St) : Prop := σ.2.1 94 21 = n ∧ n ≤ 400 ∧ ∀ k, k < n → σ.2.1 103 k = B k
def byt (v : Int) (i : Nat) : Int := aAnd (aShr v (24 - 8 * i)) 255
def app (B : Nat → Int) (n : Nat) (v : Int) : Nat → Int := fun k => if k < n then B k else byt v (k - n)
def app5 (B : Nat → Int) (n : Nat) (a b c d e : Int) : Nat → Int := app (app (app (app (app B n a) (n + 4) b) (n + 8) c) (n + 12) d) (n + 16) e
theorem l_put {G : Gt} {d : Nat} {σ : St} {n : Nat} {B : Nat → Int} {v : Int} (hS : Sta σ) (hv : InR v) (hn4 : n + 4 ≤ 400) : ∀ (nn : Nat) (i : Nat) (τ : St), (4 - i) < nn → i ≤ 4 → Fo 29 [4] [30] σ τ → tpC (n + i) (app B n v) τ →  AW mX8_put G d 0 0 (mq G (fun ro ρ => ro = none ∧ tpC (n + 4) (app B n v) ρ ∧ Fo 29 [4] [30] σ ρ)) 3 [some (vR 29), some (vI v), some (vI (24 - 8 * (i : Int)))] [] τ := by
  intro nn
  induction nn with
  | zero => intros; omega
  | succ nn ih =>
    intro i τ hn hi hF hT
    have h4 := hT.1
    refine AW_iload_n dX8_put_3 rfl ?_
    refine AW_if_lt (tgt := 46) dX8_put_4 (by decide) (fun c_4 => ?_) (fun c_4 => ?_)
    · skip
      refine AW_vret dX8_put_46 rfl ?_
      rw [show i = 4 by omega] at hT
      exact ⟨rfl, hT, hF⟩
    · skip
      refine AW_aload_n dX8_put_7 rfl ?_
      refine AW_getI dX8_put_8 gfX8_23 ((hF.sta hS).cel rfl) ?_
      refine AW_sipush dX8_put_11 ?_
      refine AW_icmp_ge (tgt := 46) dX8_put_14 (by decide) (fun c_14 => ?_) (fun c_14 => ?_)
      · skip
        exact absurd c_14 (by omega)
      · skip
        refine AW_aload_n dX8_put_17 rfl ?_
        refine AW_getR (a := 30) dX8_put_18 gfX8_9 ((hF.sta hS).cel rfl) ((hF.sta hS).rf rfl) ?_
        refine AW_aload_n dX8_put_21 rfl ?_
        refine AW_getI dX8_put_22 gfX8_23 ((hF.sta hS).cel rfl) ?_
        refine AW_iload_n dX8_put_25 rfl ?_
        refine AW_iload_n dX8_put_26 rfl ?_
        refine AW_iushr dX8_put_27 ?_
        refine AW_i2b dX8_put_28 ?_
        refine AW_bast dX8_put_29 ((hF.sta hS).cel rfl) (by omega) (by omega) ?_
        refine AW_aload_n dX8_put_30 rfl ?_
        refine AW_dup dX8_put_31 ?_
        refine AW_getI dX8_put_32 gfX8_23 ((hF.sta hS).cel rfl) ?_
        (repeat (first | rw [up_r _ _ _ _ (by decide)] | rw [up_j _ _ _ (by decide)] | rw [up_at]))
        refine AW_iconst dX8_put_35 ?_
        refine AW_iaddE dX8_put_36 (by omega) (by omega) ?_
        refine AW_putI dX8_put_37 (Or.inl pfX8_23) ((hF.sta hS).cel rfl) ?_
        refine AW_iincE2 dX8_put_40 (by omega) (by omega) ?_
        refine AW_goto (tgt := 3) dX8_put_43 (by decide) ?_
        rw [show 24 - 8 * (i : Int) + -8 = 24 - 8 * ((i + 1 : Nat) : Int) by omega]
        refine ih (i + 1) _ (by omega) (by omega) ((hF.ua (by decide) (by decide) _ _).uf (by decide) _) ⟨?_, by omega, fun k hk => ?_⟩
        · rw [up_at]; omega
        · rw [up_r _ _ _ _ (by decide), up_if]
          by_cases hc : k = n + i
          · rw [if_pos ⟨rfl, by omega⟩, byte_same hv _ (by omega)]
            show _ = (if k < n then B k else byt v (k - n))
            rw [if_neg (by omega), show k - n = i by omega]
            rfl
          · rw [if_neg (by omega)]
            exact hT.2.2 k (by omega)
theorem k_put {G : Gt} {d : Nat} {σ : St}  {n : Nat} {B : Nat → Int} (hS : Sta σ) (hT : tpC n B σ) (hn4 : n + 4 ≤ 400) (v : Int)  : AM mX8_put G d 0 0 [vR 29, vI v] σ (fun ro ρ => ro = none ∧ tpC (n + 4) (app B n v) ρ ∧ Fo 29 [4] [30] σ ρ) := by
  refine AM.intro (by decide +kernel) (by simp [nLg]) (Nat.le_of_ble_eq_true rfl) (fun hO => ?_)
  have i_v : -2147483648 ≤ v ∧ v < 2147483648 := hO (vI v) (by simp)
  show AW _ _ _ _ _ _ 0 [some (vR 29), some (vI v), none] [] σ
  refine AW_bipush dX8_put_0 ?_
  refine AW_istore2 dX8_put_2 ?_
  exact l_put hS i_v hn4 5 0 σ (by omega) (by omega) Fo.rf ⟨hT.1, by omega, fun k hk => by rw [hT.2.2 k hk]; show _ = (if k < n then _ else _); rw [if_pos (by omega)]⟩
theorem k_hasRoom {G : Gt} {d : Nat} {σ : St}  {n : Nat} {B : Nat → Int} (hS : Sta σ) (hT : tpC n B σ)  : AM mX8_hasRoom G d 0 0 [vR 29] σ (fun r τ => τ = σ ∧ r = some (vI (if n ≤ 380 then 1 else 0))) := by
  refine AM.intro (by decide +kernel) (by simp [nLg]) (Nat.le_of_ble_eq_true rfl) (fun hO => ?_)
  show AW _ _ _ _ _ _ 0 [some (vR 29)] [] σ
  have h4 := hT.1
  have h5 := hT.2.1
  refine AW_aload_n dX8_hasRoom_0 rfl ?_
  refine AW_getI dX8_hasRoom_1 gfX8_23 (hS.cel rfl) ?_
  refine AW_bipush dX8_hasRoom_4 ?_
  refine AW_iaddE dX8_hasRoom_6 (by omega) (by omega) ?_
  refine AW_sipush dX8_hasRoom_7 ?_
  refine AW_icmp_gt (tgt := 17) dX8_hasRoom_10 (by decide) (fun c_10 => ?_) (fun c_10 => ?_)
  · skip
    refine AW_iconst dX8_hasRoom_17 ?_
    refine AW_zret dX8_hasRoom_18 rfl (by decide) ?_
    refine ⟨rfl, ?_⟩
    first | rw [if_pos (by omega)] | rw [if_neg (by omega)]
  · skip
    refine AW_iconst dX8_hasRoom_13 ?_
    refine AW_goto (tgt := 18) dX8_hasRoom_14 (by decide) ?_
    refine AW_zret dX8_hasRoom_18 rfl (by decide) ?_
    refine ⟨rfl, ?_⟩
    first | rw [if_pos (by omega)] | rw [if_neg (by omega)]
theorem k_tpsize {G : Gt} {d : Nat} {σ : St}  (hS : Sta σ)  : AM mX8_size G d 0 0 [vR 29] σ (fun r τ => τ = σ ∧ r = some (vI (σ.2.1 29 4))) := by
  refine AM.intro (by decide +kernel) (by simp [nLg]) (Nat.le_of_ble_eq_true rfl) (fun hO => ?_)
  show AW _ _ _ _ _ _ 0 [some (vR 29)] [] σ
  refine AW_aload_n dX8_size_0 rfl ?_
  refine AW_getI dX8_size_1 gfX8_23 (hS.cel rfl) ?_
  refine AW_iret dX8_size_4 rfl ?_
  exact ⟨rfl, rfl⟩
theorem k_cut {G : Gt} {d : Nat} {σ : St}  {n : Nat} {B : Nat → Int} (hS : Sta σ) (hT : tpC n B σ) (n0 : Int)  : AM mX8_cut G d 0 0 [vR 29, vI n0] σ (fun ro ρ => (¬ (0 ≤ n0 ∧ n0 ≤ n) ∧ ro = some (vI 0) ∧ ρ = σ) ∨ ((0 ≤ n0 ∧ n0 ≤ n) ∧ ro = some (vI 1) ∧ tpC n0.toNat B ρ ∧ Fo 29 [4] [] σ ρ)) := by
  refine AM.intro (by decide +kernel) (by simp [nLg]) (Nat.le_of_ble_eq_true rfl) (fun hO => ?_)
  have i_n0 : -2147483648 ≤ n0 ∧ n0 < 2147483648 := hO (vI n0) (by simp)
  show AW _ _ _ _ _ _ 0 [some (vR 29), some (vI n0)] [] σ
  have h4 := hT.1
  have h5 := hT.2.1
  refine AW_iload_n dX8_cut_0 rfl ?_
  refine AW_if_lt (tgt := 12) dX8_cut_1 (by decide) (fun c_1 => ?_) (fun c_1 => ?_)
  · skip
    refine AW_iconst dX8_cut_12 ?_
    refine AW_zret dX8_cut_13 rfl (by decide) ?_
    exact Or.inl ⟨by omega, rfl, rfl⟩
  · skip
    refine AW_iload_n dX8_cut_4 rfl ?_
    refine AW_aload_n dX8_cut_5 rfl ?_
    refine AW_getI dX8_cut_6 gfX8_23 (hS.cel rfl) ?_
    refine AW_icmp_le (tgt := 14) dX8_cut_9 (by decide) (fun c_9 => ?_) (fun c_9 => ?_)
    · skip
      refine AW_aload_n dX8_cut_14 rfl ?_
      refine AW_iload_n dX8_cut_15 rfl ?_
      refine AW_putI dX8_cut_16 (Or.inl pfX8_23) (hS.cel rfl) ?_
      refine AW_iconst dX8_cut_19 ?_
      refine AW_zret dX8_cut_20 rfl (by decide) ?_
      refine Or.inr ⟨by omega, rfl, ⟨?_, by omega, fun k hk => ?_⟩, Fo.rf.uf (by decide) _⟩
      · rw [up_at]; omega
      · rw [up_r _ _ _ _ (by decide)]; exact hT.2.2 k (by omega)
    · skip
      refine AW_iconst dX8_cut_12 ?_
      refine AW_zret dX8_cut_13 rfl (by decide) ?_
      exact Or.inl ⟨by omega, rfl, rfl⟩
theorem x_feed {G : Gt} {d : Nat} {σ : St} (hd : 2 ≤ d) {n : Nat} {B : Nat → Int} (hS : Sta σ) (hT : tpC n B σ) (a b c e f : Int)  : AM mX11_feed G d 0 0 [vR 16, vI a, vI b, vI c, vI e, vI f] σ (fun ro ρ => (380 < n ∧ ro = some (vI (-1)) ∧ ρ = σ) ∨ (n ≤ 380 ∧ ro = some (vI ((n : Int) + 20)) ∧ tpC (n + 20) (app5 B n a b c e f) ρ ∧ Fo 29 [4] [30] σ ρ)) := by
  refine AM.intro (by decide +kernel) (by simp [nLg]) (Nat.le_of_ble_eq_true rfl) (fun hO => ?_)
  have i_a : -2147483648 ≤ a ∧ a < 2147483648 := hO (vI a) (by simp)
  have i_b : -2147483648 ≤ b ∧ b < 2147483648 := hO (vI b) (by simp)
  have i_c : -2147483648 ≤ c ∧ c < 2147483648 := hO (vI c) (by simp)
  have i_e : -2147483648 ≤ e ∧ e < 2147483648 := hO (vI e) (by simp)
  have i_f : -2147483648 ≤ f ∧ f < 2147483648 := hO (vI f) (by simp)
  show AW _ _ _ _ _ _ 0 [some (vR 16), some (vI a), some (vI b), some (vI c), some (vI e), some (vI f)] [] σ
  refine AW_aload_n dX11_feed_0 rfl ?_
  refine AW_getR (a := 29) dX11_feed_1 gfX11_35 (hS.cel rfl) (hS.rf rfl) ?_
  refine AW_callV0 (d' := d - 1) dX11_feed_4 (Or.inl lkX11_130) mfX8_hasRoom (hS.cel rfl) ⟨_, rfl, rfl⟩ (k_hasRoom hS hT) (by omega) (Nat.le_of_ble_eq_true rfl) ?_
  rintro _ _ ⟨e_, rfl⟩ -
  rw [e_]
  clear e_
  refine AW_if_ne (tgt := 12) dX11_feed_7 (by decide) (fun c_7 => ?_) (fun c_7 => ?_)
  · skip
    replace c_7 := bz1 c_7
    refine AW_aload_n dX11_feed_12 rfl ?_
    refine AW_getR (a := 29) dX11_feed_13 gfX11_35 (hS.cel rfl) (hS.rf rfl) ?_
    refine AW_iload_n dX11_feed_16 rfl ?_
    refine AW_callV1 (d' := d - 1) dX11_feed_17 (Or.inl lkX11_133) mfX8_put (hS.cel rfl) ⟨_, rfl, rfl⟩ (k_put hS hT (by omega) _) (by omega) (Nat.le_of_ble_eq_true rfl) ?_
    rintro _ ρ1 ⟨rfl, hT1, hG1⟩ -
    have hS1 := hG1.sta hS
    have hF1 : Fo 29 [4] [30] σ ρ1 := hG1
    refine AW_aload_n dX11_feed_20 rfl ?_
    refine AW_getR (a := 29) dX11_feed_21 gfX11_35 (hS1.cel rfl) (hS1.rf rfl) ?_
    refine AW_iload_n dX11_feed_24 rfl ?_
    refine AW_callV1 (d' := d - 1) dX11_feed_25 (Or.inl lkX11_133) mfX8_put (hS1.cel rfl) ⟨_, rfl, rfl⟩ (k_put hS1 hT1 (by omega) _) (by omega) (Nat.le_of_ble_eq_true rfl) ?_
    rintro _ ρ2 ⟨rfl, hT2, hG2⟩ -
    have hS2 := hG2.sta hS1
    have hF2 : Fo 29 [4] [30] σ ρ2 := hF1.tr hG2
    refine AW_aload_n dX11_feed_28 rfl ?_
    refine AW_getR (a := 29) dX11_feed_29 gfX11_35 (hS2.cel rfl) (hS2.rf rfl) ?_
    refine AW_iload_n dX11_feed_32 rfl ?_
    refine AW_callV1 (d' := d - 1) dX11_feed_33 (Or.inl lkX11_133) mfX8_put (hS2.cel rfl) ⟨_, rfl, rfl⟩ (k_put hS2 hT2 (by omega) _) (by omega) (Nat.le_of_ble_eq_true rfl) ?_
    rintro _ ρ3 ⟨rfl, hT3, hG3⟩ -
    have hS3 := hG3.sta hS2
    have hF3 : Fo 29 [4] [30] σ ρ3 := hF2.tr hG3
    refine AW_aload_n dX11_feed_36 rfl ?_
    refine AW_getR (a := 29) dX11_feed_37 gfX11_35 (hS3.cel rfl) (hS3.rf rfl) ?_
    refine AW_iload dX11_feed_40 rfl ?_
    refine AW_callV1 (d' := d - 1) dX11_feed_42 (Or.inl lkX11_133) mfX8_put (hS3.cel rfl) ⟨_, rfl, rfl⟩ (k_put hS3 hT3 (by omega) _) (by omega) (Nat.le_of_ble_eq_true rfl) ?_
    rintro _ ρ4 ⟨rfl, hT4, hG4⟩ -
    have hS4 := hG4.sta hS3
    have hF4 : Fo 29 [4] [30] σ ρ4 := hF3.tr hG4
    refine AW_aload_n dX11_feed_45 rfl ?_
    refine AW_getR (a := 29) dX11_feed_46 gfX11_35 (hS4.cel rfl) (hS4.rf rfl) ?_
    refine AW_iload dX11_feed_49 rfl ?_
    refine AW_callV1 (d' := d - 1) dX11_feed_51 (Or.inl lkX11_133) mfX8_put (hS4.cel rfl) ⟨_, rfl, rfl⟩ (k_put hS4 hT4 (by omega) _) (by omega) (Nat.le_of_ble_eq_true rfl) ?_
    rintro _ ρ5 ⟨rfl, hT5, hG5⟩ -
    have hS5 := hG5.sta hS4
    have hF5 : Fo 29 [4] [30] σ ρ5 := hF4.tr hG5
    refine AW_aload_n dX11_feed_54 rfl ?_
    refine AW_getR (a := 29) dX11_feed_55 gfX11_35 (hS5.cel rfl) (hS5.rf rfl) ?_
    refine AW_callV0 (d' := d - 1) dX11_feed_58 (Or.inl lkX11_137) mfX8_size (hS5.cel rfl) ⟨_, rfl, rfl⟩ (k_tpsize hS5) (by omega) (Nat.le_of_ble_eq_true rfl) ?_
    rintro _ _ ⟨e_, rfl⟩ -
    rw [e_]
    clear e_
    refine AW_iret dX11_feed_61 rfl ?_
    exact Or.inr ⟨by omega, by rw [hT5.1]; congr 2, hT5, hF5⟩
  · skip
    replace c_7 := bz0 c_7
    refine AW_iconst dX11_feed_10 ?_
    refine AW_iret dX11_feed_11 rfl ?_
    exact Or.inl ⟨by omega, rfl, rfl⟩
theorem x_end {G : Gt} {d : Nat} {σ : St} (hd : 2 ≤ d) {n : Nat} {B : Nat → Int} (hS : Sta σ) (hT : tpC n B σ) (n0 : Int)  : AM mX11_end G d 0 0 [vR 16, vI n0] σ (fun ro ρ => ∃ z : Int, ro = some (vI z) ∧ ((¬ (0 ≤ n0 ∧ n0 ≤ n) ∧ z = 0 ∧ ρ = σ) ∨ ((0 ≤ n0 ∧ n0 ≤ n) ∧ z = 1 ∧ tpC n0.toNat B ρ ∧ Fo 29 [4] [] σ ρ))) := by
  refine AM.intro (by decide +kernel) (by simp [nLg]) (Nat.le_of_ble_eq_true rfl) (fun hO => ?_)
  have i_n0 : -2147483648 ≤ n0 ∧ n0 < 2147483648 := hO (vI n0) (by simp)
  show AW _ _ _ _ _ _ 0 [some (vR 16), some (vI n0)] [] σ
  refine AW_aload_n dX11_end_0 rfl ?_
  refine AW_getR (a := 29) dX11_end_1 gfX11_35 (hS.cel rfl) (hS.rf rfl) ?_
  refine AW_iload_n dX11_end_4 rfl ?_
  refine AW_callV1 (d' := d - 1) dX11_end_5 (Or.inl lkX11_138) mfX8_cut (hS.cel rfl) ⟨_, rfl, rfl⟩ (k_cut hS hT n0) (by omega) (Nat.le_of_ble_eq_true rfl) ?_
  rintro r1 ρ1 h -
  have hz : ∃ z : Int, r1 = some (vI z) ∧ ((¬ (0 ≤ n0 ∧ n0 ≤ n) ∧ z = 0 ∧ ρ1 = σ) ∨ ((0 ≤ n0 ∧ n0 ≤ n) ∧ z = 1 ∧ tpC n0.toNat B ρ1 ∧ Fo 29 [4] [] σ ρ1)) := by
    rcases h with ⟨g1, g2, g3⟩ | ⟨g1, g2, g3⟩
    · exact ⟨0, g2, Or.inl ⟨g1, rfl, g3⟩⟩
    · exact ⟨1, g2, Or.inr ⟨g1, rfl, g3⟩⟩
  obtain ⟨z, rfl, hz⟩ := hz
  refine AW_zret dX11_end_8 rfl (hz.elim (fun q => Or.inl q.2.1) (fun q => Or.inr q.2.1)) ?_
  exact ⟨z, rfl, hz⟩
theorem ln_puts {G : Gt} {d : Nat} {σ : St} {n : Nat} {B : Nat → Int} {v : Int} (hS : Sta σ) (hn4 : n + 4 ≤ 400) : ∀ (nn : Nat) (i : Nat) (τ : St), (4 - i) < nn → i ≤ 4 → Fm [21] [103] σ τ → tpM (n + i) (app B n v) τ →  AW mX12_puts G d 0 0 (mq G (fun ro ρ => ro = none ∧ tpM (n + 4) (app B n v) ρ ∧ Fm [21] [103] σ ρ)) 3 [some (vR 94), some (vI v), some (vI (24 - 8 * (i : Int)))] [] τ := by
  intro nn
  induction nn with
  | zero => intros; omega
  | succ nn ih =>
    intro i τ hn hi hF hT
    have h4 := hT.1
    refine AW_iload_n dX12_puts_3 rfl ?_
    refine AW_if_lt (tgt := 39) dX12_puts_4 (by decide) (fun c_4 => ?_) (fun c_4 => ?_)
    · skip
      refine AW_vret dX12_puts_39 rfl ?_
      rw [show i = 4 by omega] at hT
      exact ⟨rfl, hT, hF⟩
    · skip
      refine AW_aload_n dX12_puts_7 rfl ?_
      refine AW_getR (a := 103) dX12_puts_8 gfX12_47 ((hF.sta hS).cel rfl) ((hF.sta hS).rf rfl) ?_
      refine AW_aload_n dX12_puts_11 rfl ?_
      refine AW_getI dX12_puts_12 gfX12_211 ((hF.sta hS).cel rfl) ?_
      refine AW_iload_n dX12_puts_15 rfl ?_
      refine AW_iload_n dX12_puts_16 rfl ?_
      refine AW_ishr dX12_puts_17 ?_
      refine AW_sipush dX12_puts_18 ?_
      refine AW_iand dX12_puts_21 ?_
      refine AW_iast dX12_puts_22 ((hF.sta hS).cel rfl) (by omega) (by omega) ?_
      refine AW_aload_n dX12_puts_23 rfl ?_
      refine AW_aload_n dX12_puts_24 rfl ?_
      refine AW_getI dX12_puts_25 gfX12_211 ((hF.sta hS).cel rfl) ?_
      (repeat (first | rw [up_r _ _ _ _ (by decide)] | rw [up_j _ _ _ (by decide)] | rw [up_at]))
      refine AW_iconst dX12_puts_28 ?_
      refine AW_iaddE dX12_puts_29 (by omega) (by omega) ?_
      refine AW_putI dX12_puts_30 (Or.inl pfX12_211) ((hF.sta hS).cel rfl) ?_
      refine AW_iincE2 dX12_puts_33 (by omega) (by omega) ?_
      refine AW_goto (tgt := 3) dX12_puts_36 (by decide) ?_
      rw [show 24 - 8 * (i : Int) + -8 = 24 - 8 * ((i + 1 : Nat) : Int) by omega]
      refine ih (i + 1) _ (by omega) (by omega) ((hF.ua (by decide) (by decide) _ _).uf (by decide) _) ⟨?_, by omega, fun k hk => ?_⟩
      · rw [up_at]; omega
      · rw [up_r _ _ _ _ (by decide), up_if]
        by_cases hc : k = n + i
        · rw [if_pos ⟨rfl, by omega⟩]
          show _ = (if k < n then B k else byt v (k - n))
          rw [if_neg (by omega), show k - n = i by omega]
          rfl
        · rw [if_neg (by omega)]
          exact hT.2.2 k (by omega)
theorem n_puts {G : Gt} {d : Nat} {σ : St}  {n : Nat} {B : Nat → Int} (hS : Sta σ) (hT : tpM n B σ) (hn4 : n + 4 ≤ 400) (v : Int)  : AM mX12_puts G d 0 0 [vR 94, vI v] σ (fun ro ρ => ro = none ∧ tpM (n + 4) (app B n v) ρ ∧ Fm [21] [103] σ ρ) := by
  refine AM.intro (by decide +kernel) (by simp [nLg]) (Nat.le_of_ble_eq_true rfl) (fun hO => ?_)
  have i_v : -2147483648 ≤ v ∧ v < 2147483648 := hO (vI v) (by simp)
  show AW _ _ _ _ _ _ 0 [some (vR 94), some (vI v), none] [] σ
  refine AW_bipush dX12_puts_0 ?_
  refine AW_istore2 dX12_puts_2 ?_
  exact ln_puts hS hn4 5 0 σ (by omega) (by omega) Fm.rf ⟨hT.1, by omega, fun k hk => by rw [hT.2.2 k hk]; show _ = (if k < n then _ else _); rw [if_pos (by omega)]⟩
theorem tpM.fm {n : Nat} {B : Nat → Int} {fs L : List Nat} {σ τ : St} (h : tpM n B σ) (hF : Fm fs L σ τ) (h1 : 21 ∉ fs := by decide) (h2 : 103 ∉ 94 :: L := by decide) : tpM n B τ := ⟨(hF.f 21 h1).trans h.1, h.2.1, fun k hk => (hF.a 103 k h2).trans (h.2.2 k hk)⟩
theorem m_feed {G : Gt} {d : Nat} {σ : St} (hd : 2 ≤ d) {n : Nat} {B : Nat → Int} (hS : Sta σ) (hT : tpM n B σ) (a b c e f : Int)  : AM mX12_feed G d 0 0 [vR 94, vI a, vI b, vI c, vI e, vI f] σ (fun ro ρ => (380 < n ∧ ro = some (vI (-1)) ∧ Fm [0] [] σ ρ) ∨ (n ≤ 380 ∧ ro = some (vI ((n : Int) + 20)) ∧ tpM (n + 20) (app5 B n a b c e f) ρ ∧ Fm [0, 21] [103] σ ρ)) := by
  refine AM.intro (by decide +kernel) (by simp [nLg]) (Nat.le_of_ble_eq_true rfl) (fun hO => ?_)
  have i_a : -2147483648 ≤ a ∧ a < 2147483648 := hO (vI a) (by simp)
  have i_b : -2147483648 ≤ b ∧ b < 2147483648 := hO (vI b) (by simp)
  have i_c : -2147483648 ≤ c ∧ c < 2147483648 := hO (vI c) (by simp)
  have i_e : -2147483648 ≤ e ∧ e < 2147483648 := hO (vI e) (by simp)
  have i_f : -2147483648 ≤ f ∧ f < 2147483648 := hO (vI f) (by simp)
  show AW _ _ _ _ _ _ 0 [some (vR 94), some (vI a), some (vI b), some (vI c), some (vI e), some (vI f)] [] σ
  refine AW_aload_n dX12_feed_0 rfl ?_
  refine AW_iconst dX12_feed_1 ?_
  refine AW_putI dX12_feed_2 (Or.inl pfX12_142) (hS.cel rfl) ?_
  have hF1 : Fm [0] [] σ (upI σ 94 0 0) := Fm.rf.uf (by decide) _
  have hS1 : Sta (upI σ 94 0 0) := hS
  have hT1 : tpM n B (upI σ 94 0 0) := hT.fm hF1
  generalize upI σ 94 0 0 = σ1 at hF1 hS1 hT1 ⊢
  have h4 := hT1.1
  have h5 := hT1.2.1
  refine AW_aload_n dX12_feed_5 rfl ?_
  refine AW_getI dX12_feed_6 gfX12_211 (hS1.cel rfl) ?_
  refine AW_sipush dX12_feed_9 ?_
  refine AW_icmp_le (tgt := 17) dX12_feed_12 (by decide) (fun c_12 => ?_) (fun c_12 => ?_)
  · skip
    refine AW_aload_n dX12_feed_17 rfl ?_
    refine AW_iload_n dX12_feed_18 rfl ?_
    refine AW_callV1 (d' := d - 1) dX12_feed_19 (Or.inl lkX12_214) mfX12_puts (hS1.cel rfl) ⟨_, rfl, rfl⟩ (n_puts hS1 hT1 (by omega) _) (by omega) (Nat.le_of_ble_eq_true rfl) ?_
    rintro _ ρ1 ⟨rfl, hT2, hG1⟩ -
    have hS2 := hG1.sta hS1
    have hF2 : Fm [0, 21] [103] σ ρ1 := (hF1.mo (by decide) (by decide)).tr (hG1.mo (by decide) (by decide))
    refine AW_aload_n dX12_feed_22 rfl ?_
    refine AW_iload_n dX12_feed_23 rfl ?_
    refine AW_callV1 (d' := d - 1) dX12_feed_24 (Or.inl lkX12_214) mfX12_puts (hS2.cel rfl) ⟨_, rfl, rfl⟩ (n_puts hS2 hT2 (by omega) _) (by omega) (Nat.le_of_ble_eq_true rfl) ?_
    rintro _ ρ2 ⟨rfl, hT3, hG2⟩ -
    have hS3 := hG2.sta hS2
    have hF3 : Fm [0, 21] [103] σ ρ2 := hF2.tr (hG2.mo (by decide) (by decide))
    refine AW_aload_n dX12_feed_27 rfl ?_
    refine AW_iload_n dX12_feed_28 rfl ?_
    refine AW_callV1 (d' := d - 1) dX12_feed_29 (Or.inl lkX12_214) mfX12_puts (hS3.cel rfl) ⟨_, rfl, rfl⟩ (n_puts hS3 hT3 (by omega) _) (by omega) (Nat.le_of_ble_eq_true rfl) ?_
    rintro _ ρ3 ⟨rfl, hT4, hG3⟩ -
    have hS4 := hG3.sta hS3
    have hF4 : Fm [0, 21] [103] σ ρ3 := hF3.tr (hG3.mo (by decide) (by decide))
    refine AW_aload_n dX12_feed_32 rfl ?_
    refine AW_iload dX12_feed_33 rfl ?_
    refine AW_callV1 (d' := d - 1) dX12_feed_35 (Or.inl lkX12_214) mfX12_puts (hS4.cel rfl) ⟨_, rfl, rfl⟩ (n_puts hS4 hT4 (by omega) _) (by omega) (Nat.le_of_ble_eq_true rfl) ?_
    rintro _ ρ4 ⟨rfl, hT5, hG4⟩ -
    have hS5 := hG4.sta hS4
    have hF5 : Fm [0, 21] [103] σ ρ4 := hF4.tr (hG4.mo (by decide) (by decide))
    refine AW_aload_n dX12_feed_38 rfl ?_
    refine AW_iload dX12_feed_39 rfl ?_
    refine AW_callV1 (d' := d - 1) dX12_feed_41 (Or.inl lkX12_214) mfX12_puts (hS5.cel rfl) ⟨_, rfl, rfl⟩ (n_puts hS5 hT5 (by omega) _) (by omega) (Nat.le_of_ble_eq_true rfl) ?_
    rintro _ ρ5 ⟨rfl, hT6, hG5⟩ -
    have hS6 := hG5.sta hS5
    have hF6 : Fm [0, 21] [103] σ ρ5 := hF5.tr (hG5.mo (by decide) (by decide))
    refine AW_aload_n dX12_feed_44 rfl ?_
    refine AW_getI dX12_feed_45 gfX12_211 (hS6.cel rfl) ?_
    refine AW_iret dX12_feed_48 rfl ?_
    exact Or.inr ⟨by omega, by rw [hT6.1]; congr 2, hT6, hF6⟩
  · skip
    refine AW_iconst dX12_feed_15 ?_
    refine AW_iret dX12_feed_16 rfl ?_
    exact Or.inl ⟨by omega, rfl, hF1⟩
theorem m_end {G : Gt} {d : Nat} {σ : St} (hd : 2 ≤ d) {n : Nat} {B : Nat → Int} (hS : Sta σ) (hT : tpM n B σ) (n0 : Int)  : AM mX12_end G d 0 0 [vR 94, vI n0] σ (fun ro ρ => ∃ z : Int, ro = some (vI z) ∧ ((¬ (0 ≤ n0 ∧ n0 ≤ n) ∧ z = 0 ∧ Fm [0] [] σ ρ) ∨ ((0 ≤ n0 ∧ n0 ≤ n) ∧ z = 1 ∧ tpM n0.toNat B ρ ∧ Fm [0, 21] [] σ ρ))) := by
  refine AM.intro (by decide +kernel) (by simp [nLg]) (Nat.le_of_ble_eq_true rfl) (fun hO => ?_)
  have i_n0 : -2147483648 ≤ n0 ∧ n0 < 2147483648 := hO (vI n0) (by simp)
  show AW _ _ _ _ _ _ 0 [some (vR 94), some (vI n0)] [] σ
  refine AW_aload_n dX12_end_0 rfl ?_
  refine AW_iconst dX12_end_1 ?_
  refine AW_putI dX12_end_2 (Or.inl pfX12_142) (hS.cel rfl) ?_
  have hF1 : Fm [0] [] σ (upI σ 94 0 0) := Fm.rf.uf (by decide) _
  have hS1 : Sta (upI σ 94 0 0) := hS
  have hT1 : tpM n B (upI σ 94 0 0) := hT.fm hF1
  generalize upI σ 94 0 0 = σ1 at hF1 hS1 hT1 ⊢
  have h4 := hT1.1
  have h5 := hT1.2.1
  refine AW_aload_n dX12_end_5 rfl ?_
  refine AW_iload_n dX12_end_6 rfl ?_
  refine AW_iconst dX12_end_7 ?_
  refine AW_aload_n dX12_end_8 rfl ?_
  refine AW_getI dX12_end_9 gfX12_211 (hS1.cel rfl) ?_
  refine AW_callV3 (d' := d - 1) dX12_end_12 (Or.inl lkX12_149) mfX12_isIn (hS1.cel rfl) ⟨_, rfl, rfl⟩ (n_isIn n0 0 _) (by omega) (Nat.le_of_ble_eq_true rfl) ?_
  rintro _ _ ⟨e_, rfl⟩ -
  rw [e_]
  clear e_
  refine AW_if_ne (tgt := 20) dX12_end_15 (by decide) (fun c_15 => ?_) (fun c_15 => ?_)
  · skip
    replace c_15 := bz1 c_15
    refine AW_aload_n dX12_end_20 rfl ?_
    refine AW_iload_n dX12_end_21 rfl ?_
    refine AW_putI dX12_end_22 (Or.inl pfX12_211) (hS1.cel rfl) ?_
    refine AW_iconst dX12_end_25 ?_
    refine AW_zret dX12_end_26 rfl (by decide) ?_
    refine ⟨1, rfl, Or.inr ⟨by omega, rfl, ⟨?_, by omega, fun k hk => ?_⟩, (hF1.mo (by decide) (by decide)).uf (by decide) _⟩⟩
    · rw [up_at]; omega
    · rw [up_r _ _ _ _ (by decide)]; exact hT1.2.2 k (by omega)
  · skip
    replace c_15 := bz0 c_15
    refine AW_iconst dX12_end_18 ?_
    refine AW_zret dX12_end_19 rfl (by decide) ?_
    exact ⟨0, rfl, Or.inl ⟨by omega, rfl, hF1⟩⟩
