-- THE FEAST as the class holds it
def LkC (n : Nat) (K : Nat → Int) (σ : St) : Prop := σ.2.1 85 6 = n ∧ (1 ≤ n ∧ n ≤ 7) ∧ (∀ i, i < 98 → σ.2.1 86 i = K i) ∧ Lok K
/-- what THE FEAST's finding may write -/
def Ff (σ τ : St) : Prop := σ.2.2.2 ≤ τ.2.2.2 ∧ (∀ r, r < σ.2.2.2 → τ.1 r = σ.1 r) ∧ (τ.2.2.1 85 4 = σ.2.2.1 85 4 ∨ σ.2.2.2 ≤ τ.2.2.1 85 4) ∧ (∀ r j, r < σ.2.2.2 → (r ≠ 85 ∨ j ≠ 4) → τ.2.2.1 r j = σ.2.2.1 r j) ∧ (∀ r j, r < σ.2.2.2 → r ∉ [85, 87, 88, 89] → r ≠ σ.2.2.1 85 4 → τ.2.1 r j = σ.2.1 r j) ∧ τ.2.1 85 6 = σ.2.1 85 6
theorem Ff.rf {σ : St} : Ff σ σ := ⟨Nat.le_refl _, fun _ _ => rfl, Or.inl rfl, fun _ _ _ _ => rfl, fun _ _ _ _ _ => rfl, rfl⟩
theorem Ff.tr {σ τ ρ : St} (h : Ff σ τ) (h2 : Ff τ ρ) : Ff σ ρ := by
  obtain ⟨a1, a2, a3, a4, a5, a6⟩ := h
  obtain ⟨b1, b2, b3, b4, b5, b6⟩ := h2
  refine ⟨by omega, fun r hr => (b2 r (by omega)).trans (a2 r hr), ?_, fun r j hr hc => (b4 r j (by omega) hc).trans (a4 r j hr hc), fun r j hr hn hne => (b5 r j (by omega) hn ?_).trans (a5 r j hr hn hne), b6.trans a6⟩
  · rcases b3 with q | q
    · rw [q]; exact a3
    · exact Or.inr (by omega)
  · rcases a3 with q | q
    · rw [q]; exact hne
    · omega
theorem rfo_85 : rfo 85 4 = none := rfl
theorem Ff.sta {σ τ : St} (h : Ff σ τ) (hS : Sta σ) : Sta τ := by
  have h1 := hS.1
  refine ⟨by have := h.1; omega, fun r k hk => ?_, fun r j a h16 hk => ?_⟩
  · have := shc_lt hk
    rw [h.2.1 r (by omega)]
    exact hS.2.1 r k hk
  · have := rfo_lt hk
    rw [h.2.2.2.1 r j (by omega) ?_]
    · exact hS.2.2 r j a h16 hk
    · by_cases hc : r = 85
      · refine Or.inr (fun q => ?_)
        rw [hc, q, rfo_85] at hk
        cases hk
      · exact Or.inl hc
/-- where the rows that hold lie -/
def HcC (hc N : Nat) (σ : St) : Prop := σ.2.2.1 85 4 = hc ∧ Cel σ hc (20, N) ∧ (hc = 90 ∨ 132 ≤ hc) ∧ 8 ≤ N ∧ N ≤ 10080
theorem LkC.ff {n hc N : Nat} {K : Nat → Int} {σ τ : St} (h : LkC n K σ) (hS : Sta σ) (hh : HcC hc N σ) (hF : Ff σ τ) : LkC n K τ := by
  have h1 := hS.1
  refine ⟨hF.2.2.2.2.2.trans h.1, h.2.1, fun i hi => (hF.2.2.2.2.1 86 i (by omega) (by decide) ?_).trans (h.2.2.1 i hi), h.2.2.2⟩
  rw [hh.1]
  rcases hh.2.2.1 with q | q <;> omega
theorem Ff.up {σ τ : St} (h : Ff σ τ) {r j : Nat} (hr : r = 87 ∨ r = 88 ∨ r = 89 ∨ (r = 85 ∧ j ≠ 6)) (x : Int) : Ff σ (upI τ r j x) := by
  obtain ⟨a1, a2, a3, a4, a5, a6⟩ := h
  refine ⟨a1, a2, a3, a4, fun r' j' hr' hn hne => ?_, ?_⟩
  · rw [up_if, if_neg (fun q => hn (by simp; omega))]
    exact a5 r' j' hr' hn hne
  · rw [up_if, if_neg (by omega)]
    exact a6
theorem Ff.uh {σ τ : St} (h : Ff σ τ) (hS : Sta σ) {hc N : Nat} (hh : HcC hc N τ) (j : Nat) (x : Int) : Ff σ (upI τ hc j x) := by
  obtain ⟨a1, a2, a3, a4, a5, a6⟩ := h
  have h1 := hS.1
  refine ⟨a1, a2, a3, a4, fun r' j' hr' hn hne => ?_, ?_⟩
  · rw [up_if, if_neg (fun q => ?_)]
    · exact a5 r' j' hr' hn hne
    · rw [hh.1] at a3
      rcases a3 with q2 | q2
      · exact hne (by rw [← q2]; exact q.1)
      · omega
  · rw [up_r _ _ _ _ (by rcases hh.2.2.1 with q | q <;> omega)]
    exact a6
theorem k_isGuest {G : Gt} {d : Nat} {σ : St}  {n : Nat} {K : Nat → Int} (hS : Sta σ) (hL : LkC n K σ) (k : Int)  : AM mX0_isGuest G d 0 0 [vR 85, vI k] σ (fun r τ => τ = σ ∧ r = some (vI (if 0 ≤ k ∧ k < n then 1 else 0))) := by
  refine AM.intro (by decide +kernel) (by simp [nLg]) (Nat.le_of_ble_eq_true rfl) (fun hO => ?_)
  have i_k : -2147483648 ≤ k ∧ k < 2147483648 := hO (vI k) (by simp)
  show AW _ _ _ _ _ _ 0 [some (vR 85), some (vI k)] [] σ
  have h6 := hL.1
  refine AW_iload_n dX0_isGuest_0 rfl ?_
  refine AW_if_lt (tgt := 16) dX0_isGuest_1 (by decide) (fun c_1 => ?_) (fun c_1 => ?_)
  · skip
    refine AW_iconst dX0_isGuest_16 ?_
    refine AW_zret dX0_isGuest_17 rfl (by decide) ?_
    refine ⟨rfl, ?_⟩
    first | rw [if_pos (by omega)] | rw [if_neg (by omega)]
  · skip
    refine AW_iload_n dX0_isGuest_4 rfl ?_
    refine AW_aload_n dX0_isGuest_5 rfl ?_
    refine AW_getI dX0_isGuest_6 gfX0_27 (hS.cel rfl) ?_
    refine AW_icmp_ge (tgt := 16) dX0_isGuest_9 (by decide) (fun c_9 => ?_) (fun c_9 => ?_)
    · skip
      refine AW_iconst dX0_isGuest_16 ?_
      refine AW_zret dX0_isGuest_17 rfl (by decide) ?_
      refine ⟨rfl, ?_⟩
      first | rw [if_pos (by omega)] | rw [if_neg (by omega)]
    · skip
      refine AW_iconst dX0_isGuest_12 ?_
      refine AW_goto (tgt := 17) dX0_isGuest_13 (by decide) ?_
      refine AW_zret dX0_isGuest_17 rfl (by decide) ?_
      refine ⟨rfl, ?_⟩
      first | rw [if_pos (by omega)] | rw [if_neg (by omega)]
theorem k_liked {G : Gt} {d : Nat} {σ : St} (hd : 1 ≤ d) {n : Nat} {K : Nat → Int} (hS : Sta σ) (hL : LkC n K σ) (s0 k0 j0 : Int) (s k j : Nat) (e1 : s0 = s) (e2 : k0 = k) (e3 : j0 = j) (hs : s < 2) (hk : k < n) (hj : j < n) : AM mX0_liked G d 0 0 [vR 85, vI s0, vI k0, vI j0] σ (fun r τ => τ = σ ∧ r = some (vI (lk K s k j))) := by
  have h7 := hL.2.1
  refine AM.intro (by decide +kernel) (by simp [nLg]) (Nat.le_of_ble_eq_true rfl) (fun hO => ?_)
  show AW _ _ _ _ _ _ 0 [some (vR 85), some (vI s0), some (vI k0), some (vI j0)] [] σ
  refine AW_iload_n dX0_liked_0 rfl ?_
  refine AW_if_lt (tgt := 25) dX0_liked_1 (by decide) (fun c_1 => ?_) (fun c_1 => ?_)
  · skip
    exact absurd c_1 (by omega)
  · skip
    refine AW_iload_n dX0_liked_4 rfl ?_
    refine AW_iconst dX0_liked_5 ?_
    refine AW_icmp_gt (tgt := 25) dX0_liked_6 (by decide) (fun c_6 => ?_) (fun c_6 => ?_)
    · skip
      exact absurd c_6 (by omega)
    · skip
      refine AW_aload_n dX0_liked_9 rfl ?_
      refine AW_iload_n dX0_liked_10 rfl ?_
      refine AW_callV1 (d' := d - 1) dX0_liked_11 (Or.inl lkX0_47) mfX0_isGuest (hS.cel rfl) ⟨_, rfl, rfl⟩ (k_isGuest hS hL k0) (by omega) (Nat.le_of_ble_eq_true rfl) ?_
      rintro _ _ ⟨e_, rfl⟩ -
      rw [e_]
      clear e_
      refine AW_if_eq (tgt := 25) dX0_liked_14 (by decide) (fun c_14 => ?_) (fun c_14 => ?_)
      · skip
        replace c_14 := bz0 c_14
        exact absurd (show 0 ≤ k0 ∧ k0 < (n : Int) by omega) c_14
      · skip
        replace c_14 := bz1 c_14
        refine AW_aload_n dX0_liked_17 rfl ?_
        refine AW_iload_n dX0_liked_18 rfl ?_
        refine AW_callV1 (d' := d - 1) dX0_liked_19 (Or.inl lkX0_47) mfX0_isGuest (hS.cel rfl) ⟨_, rfl, rfl⟩ (k_isGuest hS hL j0) (by omega) (Nat.le_of_ble_eq_true rfl) ?_
        rintro _ _ ⟨e_, rfl⟩ -
        rw [e_]
        clear e_
        refine AW_if_ne (tgt := 27) dX0_liked_22 (by decide) (fun c_22 => ?_) (fun c_22 => ?_)
        · skip
          replace c_22 := bz1 c_22
          refine AW_aload_n dX0_liked_27 rfl ?_
          refine AW_getR (a := 86) dX0_liked_28 gfX0_11 (hS.cel rfl) (hS.rf rfl) ?_
          refine AW_iload_n dX0_liked_31 rfl ?_
          refine AW_bipush dX0_liked_32 ?_
          refine AW_imulE dX0_liked_34 (by omega) (by omega) ?_
          refine AW_iload_n dX0_liked_35 rfl ?_
          refine AW_bipush dX0_liked_36 ?_
          refine AW_imulE dX0_liked_38 (by omega) (by omega) ?_
          refine AW_iaddE dX0_liked_39 (by omega) (by omega) ?_
          refine AW_iload_n dX0_liked_40 rfl ?_
          refine AW_iaddE dX0_liked_41 (by omega) (by omega) ?_
          refine AW_iald dX0_liked_42 (hS.cel rfl) (by omega) (by omega) ?_
          refine AW_iret dX0_liked_43 rfl ?_
          refine ⟨rfl, ?_⟩
          rw [show (s0 * 49 + k0 * 7 + j0).toNat = 49 * s + 7 * k + j by omega, hL.2.2.1 _ (by omega)]
          rfl
        · skip
          replace c_22 := bz0 c_22
          exact absurd (show 0 ≤ j0 ∧ j0 < (n : Int) by omega) c_22
theorem k_fsum {G : Gt} {d : Nat} {σ : St} (hd : 2 ≤ d) {n : Nat} {K : Nat → Int} (hS : Sta σ) (hL : LkC n K σ) (m0 w0 : Int) (m w : Nat) (e1 : m0 = m) (e2 : w0 = w) (hm : m < n) (hw : w < n) : AM mX0_sum G d 0 0 [vR 85, vI m0, vI w0] σ (fun r τ => τ = σ ∧ r = some (vI (both K m w))) := by
  have hb1 := hL.2.2.2 (49 * 0 + 7 * m + w)
  have hb2 := hL.2.2.2 (49 * 1 + 7 * w + m)
  refine AM.intro (by decide +kernel) (by simp [nLg]) (Nat.le_of_ble_eq_true rfl) (fun hO => ?_)
  show AW _ _ _ _ _ _ 0 [some (vR 85), some (vI m0), some (vI w0)] [] σ
  refine AW_aload_n dX0_sum_0 rfl ?_
  refine AW_iconst dX0_sum_1 ?_
  refine AW_iload_n dX0_sum_2 rfl ?_
  refine AW_iload_n dX0_sum_3 rfl ?_
  refine AW_callV3 (d' := d - 1) dX0_sum_4 (Or.inl lkX0_57) mfX0_liked (hS.cel rfl) ⟨_, rfl, rfl⟩ (k_liked (by omega) hS hL _ _ _ 0 m w rfl e1 e2 (by decide) hm hw) (by omega) (Nat.le_of_ble_eq_true rfl) ?_
  rintro _ _ ⟨e_, rfl⟩ -
  rw [e_]
  clear e_
  refine AW_aload_n dX0_sum_7 rfl ?_
  refine AW_iconst dX0_sum_8 ?_
  refine AW_iload_n dX0_sum_9 rfl ?_
  refine AW_iload_n dX0_sum_10 rfl ?_
  refine AW_callV3 (d' := d - 1) dX0_sum_11 (Or.inl lkX0_57) mfX0_liked (hS.cel rfl) ⟨_, rfl, rfl⟩ (k_liked (by omega) hS hL _ _ _ 1 w m rfl e2 e1 (by decide) hw hm) (by omega) (Nat.le_of_ble_eq_true rfl) ?_
  rintro _ _ ⟨e_, rfl⟩ -
  rw [e_]
  clear e_
  refine AW_iaddE dX0_sum_14 (by unfold lk; omega) (by unfold lk; omega) ?_
  refine AW_iret dX0_sum_15 rfl ?_
  exact ⟨rfl, rfl⟩
theorem k_lmore {G : Gt} {d : Nat} {σ : St} (hd : 2 ≤ d) {n : Nat} {K : Nat → Int} (hS : Sta σ) (hL : LkC n K σ) (s0 k0 a0 b0 : Int) (s k a b : Nat) (e1 : s0 = s) (e2 : k0 = k) (e3 : a0 = a) (e4 : b0 = b) (hs : s < 2) (hk : k < n) (ha : a < n) (hb : b < n) : AM mX0_likesMore G d 0 0 [vR 85, vI s0, vI k0, vI a0, vI b0] σ (fun r τ => τ = σ ∧ r = some (vI (if more K s k a b then 1 else 0))) := by
  refine AM.intro (by decide +kernel) (by simp [nLg]) (Nat.le_of_ble_eq_true rfl) (fun hO => ?_)
  show AW _ _ _ _ _ _ 0 [some (vR 85), some (vI s0), some (vI k0), some (vI a0), some (vI b0), none, none] [] σ
  refine AW_aload_n dX0_likesMore_0 rfl ?_
  refine AW_iload_n dX0_likesMore_1 rfl ?_
  refine AW_iload_n dX0_likesMore_2 rfl ?_
  refine AW_iload_n dX0_likesMore_3 rfl ?_
  refine AW_callV3 (d' := d - 1) dX0_likesMore_4 (Or.inl lkX0_57) mfX0_liked (hS.cel rfl) ⟨_, rfl, rfl⟩ (k_liked (by omega) hS hL _ _ _ s k a e1 e2 e3 hs hk ha) (by omega) (Nat.le_of_ble_eq_true rfl) ?_
  rintro _ _ ⟨e_, rfl⟩ -
  rw [e_]
  clear e_
  refine AW_istore5 dX0_likesMore_7 ?_
  refine AW_aload_n dX0_likesMore_9 rfl ?_
  refine AW_iload_n dX0_likesMore_10 rfl ?_
  refine AW_iload_n dX0_likesMore_11 rfl ?_
  refine AW_iload dX0_likesMore_12 rfl ?_
  refine AW_callV3 (d' := d - 1) dX0_likesMore_14 (Or.inl lkX0_57) mfX0_liked (hS.cel rfl) ⟨_, rfl, rfl⟩ (k_liked (by omega) hS hL _ _ _ s k b e1 e2 e4 hs hk hb) (by omega) (Nat.le_of_ble_eq_true rfl) ?_
  rintro _ _ ⟨e_, rfl⟩ -
  rw [e_]
  clear e_
  refine AW_istore6 dX0_likesMore_17 ?_
  refine AW_iload dX0_likesMore_19 rfl ?_
  refine AW_iload dX0_likesMore_21 rfl ?_
  refine AW_icmp_gt (tgt := 39) dX0_likesMore_23 (by decide) (fun c_23 => ?_) (fun c_23 => ?_)
  · skip
    refine AW_iconst dX0_likesMore_39 ?_
    refine AW_goto (tgt := 44) dX0_likesMore_40 (by decide) ?_
    refine AW_zret dX0_likesMore_44 rfl (by decide) ?_
    refine ⟨rfl, ?_⟩
    unfold more
    first | (rw [if_pos (by omega)]; done) | (rw [if_neg (by omega)]; done)
  · skip
    refine AW_iload dX0_likesMore_26 rfl ?_
    refine AW_iload dX0_likesMore_28 rfl ?_
    refine AW_icmp_ne (tgt := 43) dX0_likesMore_30 (by decide) (fun c_30 => ?_) (fun c_30 => ?_)
    · skip
      refine AW_iconst dX0_likesMore_43 ?_
      refine AW_zret dX0_likesMore_44 rfl (by decide) ?_
      refine ⟨rfl, ?_⟩
      unfold more
      first | (rw [if_pos (by omega)]; done) | (rw [if_neg (by omega)]; done)
    · skip
      refine AW_iload_n dX0_likesMore_33 rfl ?_
      refine AW_iload dX0_likesMore_34 rfl ?_
      refine AW_icmp_ge (tgt := 43) dX0_likesMore_36 (by decide) (fun c_36 => ?_) (fun c_36 => ?_)
      · skip
        refine AW_iconst dX0_likesMore_43 ?_
        refine AW_zret dX0_likesMore_44 rfl (by decide) ?_
        refine ⟨rfl, ?_⟩
        unfold more
        first | (rw [if_pos (by omega)]; done) | (rw [if_neg (by omega)]; done)
      · skip
        refine AW_iconst dX0_likesMore_39 ?_
        refine AW_goto (tgt := 44) dX0_likesMore_40 (by decide) ?_
        refine AW_zret dX0_likesMore_44 rfl (by decide) ?_
        refine ⟨rfl, ?_⟩
        unfold more
        first | (rw [if_pos (by omega)]; done) | (rw [if_neg (by omega)]; done)
/-- the WOMEN of the first MEN -/
def StC (pre : List Nat) (σ : St) : Prop := ∀ i, i < pre.length → σ.2.1 87 i = (pre.getD i 0 : Int)
theorem l_quiet {G : Gt} {d : Nat} {σ : St} {n w : Nat} {K : Nat → Int} {pre : List Nat} (hd : 3 ≤ d) (hS : Sta σ) (hL : LkC n K σ) (hR : Rw n pre) (hP : StC pre σ) (hl : pre.length < n) (hw : w < n) : ∀ (nn : Nat) (m i : Nat) (x4 : Option AV), m < nn → i + m = pre.length → (∀ j, j < i → Qt K pre w j) →  AW mX0_isQuiet G d 0 0 (mq G (fun ro ρ => ρ = σ ∧ ∃ z : Int, ro = some (vI z) ∧ ((z = 1 ∧ ∀ j, j < pre.length → Qt K pre w j) ∨ (z = 0 ∧ ¬ ∀ j, j < pre.length → Qt K pre w j)))) 2 [some (vR 85), some (vI (pre.length : Int)), some (vI (w : Int)), some (vI (i : Int)), x4] [] σ := by
  intro nn
  induction nn with
  | zero => intros; omega
  | succ nn ih =>
    intro m i x4 hn hi hq
    have h7 := hL.2.1
    refine AW_iload_n dX0_isQuiet_2 rfl ?_
    refine AW_iload_n dX0_isQuiet_3 rfl ?_
    refine AW_icmp_ge (tgt := 78) dX0_isQuiet_4 (by decide) (fun c_4 => ?_) (fun c_4 => ?_)
    · skip
      have hm : i = pre.length := by omega
      subst hm
      refine AW_iconst dX0_isQuiet_78 ?_
      refine AW_zret dX0_isQuiet_79 rfl (by decide) ?_
      exact ⟨rfl, 1, rfl, Or.inl ⟨rfl, hq⟩⟩
    · skip
      obtain ⟨m1, rfl⟩ : ∃ m1, m = m1 + 1 := ⟨m - 1, by omega⟩
      have hil : i < pre.length := by omega
      have hlt := hR.lt hil
      have hpi := hP i hil
      refine AW_iload_n dX0_isQuiet_7 rfl ?_
      refine AW_bipush dX0_isQuiet_8 ?_
      refine AW_icmp_ge (tgt := 78) dX0_isQuiet_10 (by decide) (fun c_10 => ?_) (fun c_10 => ?_)
      · skip
        exact absurd c_10 (by omega)
      · skip
        refine AW_aload_n dX0_isQuiet_13 rfl ?_
        refine AW_getR (a := 87) dX0_isQuiet_14 gfX0_15 (hS.cel rfl) (hS.rf rfl) ?_
        refine AW_iload_n dX0_isQuiet_17 rfl ?_
        refine AW_iald dX0_isQuiet_18 (hS.cel rfl) (by omega) (by omega) ?_
        rw [Int.toNat_natCast, hpi]
        refine AW_istore4 dX0_isQuiet_19 ?_
        refine AW_aload_n dX0_isQuiet_21 rfl ?_
        refine AW_iconst dX0_isQuiet_22 ?_
        refine AW_iload_n dX0_isQuiet_23 rfl ?_
        refine AW_iload_n dX0_isQuiet_24 rfl ?_
        refine AW_iload dX0_isQuiet_25 rfl ?_
        refine AW_callV4 (d' := d - 1) dX0_isQuiet_27 (Or.inl lkX0_85) mfX0_likesMore (hS.cel rfl) ⟨_, rfl, rfl⟩ (k_lmore (by omega) hS hL _ _ _ _ 0 i w (pre.getD i 0) rfl rfl rfl rfl (by decide) (by omega) (by omega) (by omega)) (by omega) (Nat.le_of_ble_eq_true rfl) ?_
        rintro _ _ ⟨e_, rfl⟩ -
        rw [e_]
        clear e_
        refine AW_if_eq (tgt := 46) dX0_isQuiet_30 (by decide) (fun c_30 => ?_) (fun c_30 => ?_)
        · skip
          replace c_30 := bz0 c_30
          have hA : ¬ (more K 0 i w (pre.getD i 0) ∧ more K 1 w i pre.length) := fun q => c_30 q.1
          refine AW_aload_n dX0_isQuiet_46 rfl ?_
          refine AW_iconst dX0_isQuiet_47 ?_
          refine AW_iload_n dX0_isQuiet_48 rfl ?_
          refine AW_iload dX0_isQuiet_49 rfl ?_
          refine AW_iload_n dX0_isQuiet_51 rfl ?_
          refine AW_callV4 (d' := d - 1) dX0_isQuiet_52 (Or.inl lkX0_85) mfX0_likesMore (hS.cel rfl) ⟨_, rfl, rfl⟩ (k_lmore (by omega) hS hL _ _ _ _ 0 pre.length (pre.getD i 0) w rfl rfl rfl rfl (by decide) (by omega) (by omega) (by omega)) (by omega) (Nat.le_of_ble_eq_true rfl) ?_
          rintro _ _ ⟨e_, rfl⟩ -
          rw [e_]
          clear e_
          refine AW_if_eq (tgt := 72) dX0_isQuiet_55 (by decide) (fun c_55 => ?_) (fun c_55 => ?_)
          · skip
            replace c_55 := bz0 c_55
            have hB : ¬ (more K 0 pre.length (pre.getD i 0) w ∧ more K 1 (pre.getD i 0) pre.length i) := fun q => c_55 q.1
            refine AW_iincE3 dX0_isQuiet_72 (by omega) (by omega) ?_
            refine AW_goto (tgt := 2) dX0_isQuiet_75 (by decide) ?_
            rw [show (i : Int) + 1 = ((i + 1 : Nat) : Int) by omega]
            refine ih m1 (i + 1) _ (by omega) (by omega) (fun j hj => ?_)
            by_cases hc : j = i
            · subst hc; exact ⟨hA, hB⟩
            · exact hq j (by omega)
          · skip
            replace c_55 := bz1 c_55
            refine AW_aload_n dX0_isQuiet_58 rfl ?_
            refine AW_iconst dX0_isQuiet_59 ?_
            refine AW_iload dX0_isQuiet_60 rfl ?_
            refine AW_iload_n dX0_isQuiet_62 rfl ?_
            refine AW_iload_n dX0_isQuiet_63 rfl ?_
            refine AW_callV4 (d' := d - 1) dX0_isQuiet_64 (Or.inl lkX0_85) mfX0_likesMore (hS.cel rfl) ⟨_, rfl, rfl⟩ (k_lmore (by omega) hS hL _ _ _ _ 1 (pre.getD i 0) pre.length i rfl rfl rfl rfl (by decide) (by omega) (by omega) (by omega)) (by omega) (Nat.le_of_ble_eq_true rfl) ?_
            rintro _ _ ⟨e_, rfl⟩ -
            rw [e_]
            clear e_
            refine AW_if_eq (tgt := 72) dX0_isQuiet_67 (by decide) (fun c_67 => ?_) (fun c_67 => ?_)
            · skip
              replace c_67 := bz0 c_67
              have hB : ¬ (more K 0 pre.length (pre.getD i 0) w ∧ more K 1 (pre.getD i 0) pre.length i) := fun q => c_67 q.2
              refine AW_iincE3 dX0_isQuiet_72 (by omega) (by omega) ?_
              refine AW_goto (tgt := 2) dX0_isQuiet_75 (by decide) ?_
              rw [show (i : Int) + 1 = ((i + 1 : Nat) : Int) by omega]
              refine ih m1 (i + 1) _ (by omega) (by omega) (fun j hj => ?_)
              by_cases hc : j = i
              · subst hc; exact ⟨hA, hB⟩
              · exact hq j (by omega)
            · skip
              replace c_67 := bz1 c_67
              refine AW_iconst dX0_isQuiet_70 ?_
              refine AW_zret dX0_isQuiet_71 rfl (by decide) ?_
              exact ⟨rfl, 0, rfl, Or.inr ⟨rfl, fun q => (q i hil).2 ⟨c_55, c_67⟩⟩⟩
        · skip
          replace c_30 := bz1 c_30
          refine AW_aload_n dX0_isQuiet_33 rfl ?_
          refine AW_iconst dX0_isQuiet_34 ?_
          refine AW_iload_n dX0_isQuiet_35 rfl ?_
          refine AW_iload_n dX0_isQuiet_36 rfl ?_
          refine AW_iload_n dX0_isQuiet_37 rfl ?_
          refine AW_callV4 (d' := d - 1) dX0_isQuiet_38 (Or.inl lkX0_85) mfX0_likesMore (hS.cel rfl) ⟨_, rfl, rfl⟩ (k_lmore (by omega) hS hL _ _ _ _ 1 w i pre.length rfl rfl rfl rfl (by decide) (by omega) (by omega) (by omega)) (by omega) (Nat.le_of_ble_eq_true rfl) ?_
          rintro _ _ ⟨e_, rfl⟩ -
          rw [e_]
          clear e_
          refine AW_if_eq (tgt := 46) dX0_isQuiet_41 (by decide) (fun c_41 => ?_) (fun c_41 => ?_)
          · skip
            replace c_41 := bz0 c_41
            have hA : ¬ (more K 0 i w (pre.getD i 0) ∧ more K 1 w i pre.length) := fun q => c_41 q.2
            refine AW_aload_n dX0_isQuiet_46 rfl ?_
            refine AW_iconst dX0_isQuiet_47 ?_
            refine AW_iload_n dX0_isQuiet_48 rfl ?_
            refine AW_iload dX0_isQuiet_49 rfl ?_
            refine AW_iload_n dX0_isQuiet_51 rfl ?_
            refine AW_callV4 (d' := d - 1) dX0_isQuiet_52 (Or.inl lkX0_85) mfX0_likesMore (hS.cel rfl) ⟨_, rfl, rfl⟩ (k_lmore (by omega) hS hL _ _ _ _ 0 pre.length (pre.getD i 0) w rfl rfl rfl rfl (by decide) (by omega) (by omega) (by omega)) (by omega) (Nat.le_of_ble_eq_true rfl) ?_
            rintro _ _ ⟨e_, rfl⟩ -
            rw [e_]
            clear e_
            refine AW_if_eq (tgt := 72) dX0_isQuiet_55 (by decide) (fun c_55 => ?_) (fun c_55 => ?_)
            · skip
              replace c_55 := bz0 c_55
              have hB : ¬ (more K 0 pre.length (pre.getD i 0) w ∧ more K 1 (pre.getD i 0) pre.length i) := fun q => c_55 q.1
              refine AW_iincE3 dX0_isQuiet_72 (by omega) (by omega) ?_
              refine AW_goto (tgt := 2) dX0_isQuiet_75 (by decide) ?_
              rw [show (i : Int) + 1 = ((i + 1 : Nat) : Int) by omega]
              refine ih m1 (i + 1) _ (by omega) (by omega) (fun j hj => ?_)
              by_cases hc : j = i
              · subst hc; exact ⟨hA, hB⟩
              · exact hq j (by omega)
            · skip
              replace c_55 := bz1 c_55
              refine AW_aload_n dX0_isQuiet_58 rfl ?_
              refine AW_iconst dX0_isQuiet_59 ?_
              refine AW_iload dX0_isQuiet_60 rfl ?_
              refine AW_iload_n dX0_isQuiet_62 rfl ?_
              refine AW_iload_n dX0_isQuiet_63 rfl ?_
              refine AW_callV4 (d' := d - 1) dX0_isQuiet_64 (Or.inl lkX0_85) mfX0_likesMore (hS.cel rfl) ⟨_, rfl, rfl⟩ (k_lmore (by omega) hS hL _ _ _ _ 1 (pre.getD i 0) pre.length i rfl rfl rfl rfl (by decide) (by omega) (by omega) (by omega)) (by omega) (Nat.le_of_ble_eq_true rfl) ?_
              rintro _ _ ⟨e_, rfl⟩ -
              rw [e_]
              clear e_
              refine AW_if_eq (tgt := 72) dX0_isQuiet_67 (by decide) (fun c_67 => ?_) (fun c_67 => ?_)
              · skip
                replace c_67 := bz0 c_67
                have hB : ¬ (more K 0 pre.length (pre.getD i 0) w ∧ more K 1 (pre.getD i 0) pre.length i) := fun q => c_67 q.2
                refine AW_iincE3 dX0_isQuiet_72 (by omega) (by omega) ?_
                refine AW_goto (tgt := 2) dX0_isQuiet_75 (by decide) ?_
                rw [show (i : Int) + 1 = ((i + 1 : Nat) : Int) by omega]
                refine ih m1 (i + 1) _ (by omega) (by omega) (fun j hj => ?_)
                by_cases hc : j = i
                · subst hc; exact ⟨hA, hB⟩
                · exact hq j (by omega)
              · skip
                replace c_67 := bz1 c_67
                refine AW_iconst dX0_isQuiet_70 ?_
                refine AW_zret dX0_isQuiet_71 rfl (by decide) ?_
                exact ⟨rfl, 0, rfl, Or.inr ⟨rfl, fun q => (q i hil).2 ⟨c_55, c_67⟩⟩⟩
          · skip
            replace c_41 := bz1 c_41
            refine AW_iconst dX0_isQuiet_44 ?_
            refine AW_zret dX0_isQuiet_45 rfl (by decide) ?_
            exact ⟨rfl, 0, rfl, Or.inr ⟨rfl, fun q => (q i hil).1 ⟨c_30, c_41⟩⟩⟩
theorem k_quiet {G : Gt} {d : Nat} {σ : St} (hd : 3 ≤ d) {n : Nat} {K : Nat → Int} {pre : List Nat} (hS : Sta σ) (hL : LkC n K σ) (hR : Rw n pre) (hP : StC pre σ) (hl : pre.length < n) (m0 w0 : Int) (w : Nat) (e1 : m0 = pre.length) (e2 : w0 = w) (hw : w < n) : AM mX0_isQuiet G d 0 0 [vR 85, vI m0, vI w0] σ (fun ro ρ => ρ = σ ∧ ∃ z : Int, ro = some (vI z) ∧ ((z = 1 ∧ ∀ j, j < pre.length → Qt K pre w j) ∨ (z = 0 ∧ ¬ ∀ j, j < pre.length → Qt K pre w j))) := by
  subst e1
  subst e2
  refine AM.intro (by decide +kernel) (by simp [nLg]) (Nat.le_of_ble_eq_true rfl) (fun hO => ?_)
  show AW _ _ _ _ _ _ 0 [some (vR 85), some (vI (pre.length : Int)), some (vI (w : Int)), none, none] [] σ
  refine AW_iconst dX0_isQuiet_0 ?_
  refine AW_istore3 dX0_isQuiet_1 ?_
  exact l_quiet hd hS hL hR hP hl hw (pre.length + 1) pre.length 0 none (by omega) (by omega) (fun j hj => absurd hj (Nat.not_lt_zero j))
