/-- all is found -/
def ChC (hc N n : Nat) (K : Nat → Int) (σ : St) : Prop := RwC hc N (heldL K n) σ ∧ (∃ l, (heldL K n)[(σ.2.1 85 7).toNat]? = some l ∧ Opt0 K n l) ∧ (∃ l, (heldL K n)[(σ.2.1 85 8).toNat]? = some l ∧ Opt1 K n l) ∧ σ.2.1 85 9 = mxR (sR K) (heldL K n) 0 ∧ σ.2.1 89 0 = mostV K n ∧ ∀ j, j < n → σ.2.1 88 j = ((mostL K n).getD j 0 : Int)
def FeC (hc N n : Nat) (K : Nat → Int) (σ : St) : Prop := LkC n K σ ∧ HcC hc N σ ∧ (0 ≤ σ.2.1 85 7 ∧ 0 ≤ σ.2.1 85 8) ∧ (σ.2.1 85 10 = 1 ∨ (σ.2.1 85 10 = 0 ∧ ChC hc N n K σ))
def rfC (n N : Nat) (K : Nat → Int) (z : Int) (r : Nat) : Nat := if z = 0 then 0 else groC r N 0
def rfS (n N : Nat) (K : Nat → Int) (z : Int) (r : Nat) : Nat := if z = 0 then 0 else groS r N 0
def rfN (N : Nat) (z : Int) (r : Nat) : Nat := if z = 0 then N else groN r N 0
theorem held_50 (K : Nat → Int) {n : Nat} (h1 : 1 ≤ n) (h7 : n ≤ 7) : (heldL K n).length ≤ 5040 := Nat.le_trans (List.length_filter_le _ _) (rows_len h1 h7)
theorem held_hld (K : Nat → Int) (n : Nat) : hldP K n n [] = heldL K n := rfl
theorem RwC.ff {hc N : Nat} {H : List (List Nat)} {σ τ : St} (h : RwC hc N H σ) (hF : Fr [88, 89] σ τ) : RwC hc N H τ := by
  obtain ⟨a1, a2, a3, a4⟩ := h
  refine ⟨⟨(hF.rv 85 4).trans a1.1, hF.cel a1.2.1, a1.2.2⟩, (hF.iv 85 5).trans a2, a3, fun i l hi => ?_⟩
  rw [hF.iv hc i (by rcases a1.2.2.1 with q | q <;> simp <;> omega)]
  exact a4 i l hi
theorem Fr.f {σ τ : St} (h : Fr [88, 89] σ τ) : Ff σ τ := ⟨by rw [h.2.2.1]; exact Nat.le_refl _, fun r _ => by rw [h.1], Or.inl (h.rv 85 4), fun r j _ _ => h.rv r j, fun r j _ q _ => h.iv r j (fun q2 => q (by simp at q2 ⊢; omega)), h.iv 85 6⟩
theorem k_fref {G : Gt} {d : Nat} {σ : St} {hc N n : Nat} {K : Nat → Int} (hd : 14 ≤ d) (hS : Sta σ) (hE : FeC hc N n K σ) : AM mX0_refresh G d (rfC n N K (σ.2.1 85 10) (heldL K n).length) (rfS n N K (σ.2.1 85 10) (heldL K n).length) [vR 85] σ (fun ro ρ => ro = none ∧ LkC n K ρ ∧ ρ.2.1 85 10 = 0 ∧ (0 ≤ ρ.2.1 85 7 ∧ 0 ≤ ρ.2.1 85 8) ∧ Ff σ ρ ∧ ∃ hc2, ChC hc2 (rfN N (σ.2.1 85 10) (heldL K n).length) n K ρ) := by
  have hL := hE.1
  have h7 := hL.2.1
  have hH := held_50 K h7.1 h7.2
  refine AM.intro (by decide +kernel) (by simp [nLg]) (Nat.le_of_ble_eq_true rfl) (fun hO => ?_)
  show AW _ _ _ _ _ _ 0 [some (vR 85)] [] σ
  refine AW_aload_n dX0_refresh_0 rfl ?_
  refine AW_getI dX0_refresh_1 gfX0_31 (hS.cel rfl) ?_
  refine AW_if_ne (tgt := 8) dX0_refresh_4 (by decide) (fun c_4 => ?_) (fun c_4 => ?_)
  · skip
    unfold rfC rfS rfN
    rw [if_neg c_4, if_neg c_4]
    refine AW_up (bc := 0 + groC (heldL K n).length N 0) (bs := 0 + groS (heldL K n).length N 0) (by omega) (by omega) ?_
    refine AW_aload_n dX0_refresh_8 rfl ?_
    refine AW_iconst dX0_refresh_9 ?_
    refine AW_putZ dX0_refresh_10 (Or.inl pfX0_31) (hS.cel rfl) (by decide) ?_
    refine AW_aload_n dX0_refresh_13 rfl ?_
    refine AW_iconst dX0_refresh_14 ?_
    refine AW_putI dX0_refresh_15 (Or.inl pfX0_35) (hS.cel rfl) ?_
    have hF1 : Ff σ (upI (upI σ 85 10 0) 85 5 0) := (Ff.rf.up (Or.inr (Or.inr (Or.inr ⟨rfl, by decide⟩))) _).up (Or.inr (Or.inr (Or.inr ⟨rfl, by decide⟩))) _
    have hS1 := hF1.sta hS
    have hL1 := hL.ff hS hE.2.1 hF1
    have hW1 : RwC hc N [] (upI (upI σ 85 10 0) 85 5 0) := ⟨⟨hE.2.1.1, hE.2.1.2⟩, up_at _ _ _ _, Nat.zero_le _, fun i l hi => by simp at hi⟩
    have h101 : (upI (upI σ 85 10 0) 85 5 0).2.1 85 10 = 0 := by rw [up_j _ _ _ (by decide), up_at]
    have h71 : (upI (upI σ 85 10 0) 85 5 0).2.1 85 7 = σ.2.1 85 7 := by rw [up_j _ _ _ (by decide), up_j _ _ _ (by decide)]
    have h81 : (upI (upI σ 85 10 0) 85 5 0).2.1 85 8 = σ.2.1 85 8 := by rw [up_j _ _ _ (by decide), up_j _ _ _ (by decide)]
    generalize upI (upI σ 85 10 0) 85 5 0 = σ1 at hF1 hS1 hL1 hW1 h101 h71 h81 ⊢
    have hg7 := hE.2.2.1
    refine AW_aload_n dX0_refresh_18 rfl ?_
    refine AW_iconst dX0_refresh_19 ?_
    refine AW_iconst dX0_refresh_20 ?_
    refine AW_callVb2 (d' := d - 1) dX0_refresh_21 (Or.inl lkX0_68) mfX0_seat (hS1.cel rfl) ⟨_, rfl, rfl⟩ (k_seat n (d - 1) [] hc N [] σ1 0 0 (by omega) (by simp) ⟨fun x hx => absurd hx (by simp), List.nodup_nil⟩ (fun i j hi => absurd hi (Nat.not_lt_zero i)) hS1 hL1 (fun i hi => absurd hi (Nat.not_lt_zero i)) hW1 (by rw [held_hld]; simp; exact hH) rfl rfl) (by omega) (Nat.le_of_ble_eq_true rfl) ?_
    rintro _ ρ2 ⟨rfl, hc2, hW2, hF2, _, h102⟩ -
    rw [held_hld, List.nil_append] at hW2
    replace hW2 : RwC hc2 (groN (heldL K n).length N 0) (heldL K n) ρ2 := hW2
    have hS2 := hF2.sta hS1
    have hL2 := hL1.ff hS1 hW1.1 hF2
    have h72 := (h102 7 (by decide)).trans h71
    have h82 := (h102 8 (by decide)).trans h81
    refine AW_aload_n dX0_refresh_24 rfl ?_
    refine AW_callV0 (d' := d - 1) dX0_refresh_25 (Or.inl lkX0_72) mfX0_findBests (hS2.cel rfl) ⟨_, rfl, rfl⟩ (k_findBests (by omega) hS2 hL2 hW2 (fun l hl => (held_iff.mp hl).1) (by omega)) (by omega) (Nat.le_of_ble_eq_true rfl) ?_
    rintro _ ρ3 ⟨rfl, hW3, hL3, hF3, h73, h83, h93, h103⟩ -
    have hS3 := hF3.sta hS2
    refine AW_aload_n dX0_refresh_28 rfl ?_
    refine AW_callV0 (d' := d - 1) dX0_refresh_29 (Or.inl lkX0_75) mfX0_findMost (hS3.cel rfl) ⟨_, rfl, rfl⟩ (k_findMost (by omega) hS3 hL3) (by omega) (Nat.le_of_ble_eq_true rfl) ?_
    rintro _ ρ4 ⟨rfl, hG4, h89, h88⟩ -
    refine AW_vret dX0_refresh_32 rfl ?_
    have h49 : ∀ s l, l ∈ heldL K n → rs K n s l < 49 := fun s l hl => (rs_in K n s (held_iff.mp hl).1 h7.1 h7.2).2
    obtain ⟨l0, p1, p2⟩ := bsi_row (h49 0) (held_ne K n) (ρ2.2.1 85 7).toNat
    obtain ⟨l1, q1, q2⟩ := bsi_row (h49 1) (held_ne K n) (ρ2.2.1 85 8).toNat
    obtain ⟨o0, ho0⟩ := opt0_ex K n
    obtain ⟨o1, ho1⟩ := opt1_ex K n
    have e0 : l0 = o0 := best0 ho0 (List.mem_of_getElem? p1) (p2 o0 ho0.1)
    have e1 : l1 = o1 := best1 ho1 (List.mem_of_getElem? q1) (q2 o1 ho1.1)
    have k7 := (hG4.iv 85 7).trans h73
    have k8 := (hG4.iv 85 8).trans h83
    rw [if_neg c_4]
    refine ⟨rfl, hL3.fr hG4, (hG4.iv 85 10).trans (h103.trans ((h102 10 (by decide)).trans h101)), ⟨by rw [k7]; omega, by rw [k8]; omega⟩, (((hF1.tr hF2).tr hF3).tr hG4.f), hc2, hW3.ff hG4, ⟨l0, ?_, by rw [e0]; exact ho0⟩, ⟨l1, ?_, by rw [e1]; exact ho1⟩, (hG4.iv 85 9).trans h93, h89, h88⟩
    · rw [k7, Int.toNat_natCast]; exact p1
    · rw [k8, Int.toNat_natCast]; exact q1
  · skip
    have hC := hE.2.2.2.elim (fun q => absurd (q.symm.trans c_4) (by decide)) (fun q => q.2)
    refine AW_vret dX0_refresh_7 rfl ?_
    unfold rfN
    rw [if_pos c_4]
    exact ⟨rfl, hL, c_4, hE.2.2.1, Ff.rf, hc, hC⟩
theorem k_fcount {G : Gt} {d : Nat} {σ : St}  (hS : Sta σ)  : AM mX0_count G d 0 0 [vR 85] σ (fun r τ => τ = σ ∧ r = some (vI (σ.2.1 85 5))) := by
  refine AM.intro (by decide +kernel) (by simp [nLg]) (Nat.le_of_ble_eq_true rfl) (fun hO => ?_)
  show AW _ _ _ _ _ _ 0 [some (vR 85)] [] σ
  refine AW_aload_n dX0_count_0 rfl ?_
  refine AW_getI dX0_count_1 gfX0_35 (hS.cel rfl) ?_
  refine AW_iret dX0_count_4 rfl ?_
  exact ⟨rfl, rfl⟩
theorem k_fguests {G : Gt} {d : Nat} {σ : St}  {n : Nat} {K : Nat → Int} (hS : Sta σ) (hL : LkC n K σ)  : AM mX0_guests G d 0 0 [vR 85] σ (fun r τ => τ = σ ∧ r = some (vI (n : Int))) := by
  refine AM.intro (by decide +kernel) (by simp [nLg]) (Nat.le_of_ble_eq_true rfl) (fun hO => ?_)
  show AW _ _ _ _ _ _ 0 [some (vR 85)] [] σ
  refine AW_aload_n dX0_guests_0 rfl ?_
  refine AW_getI dX0_guests_1 gfX0_27 (hS.cel rfl) ?_
  refine AW_iret dX0_guests_4 rfl ?_
  exact ⟨rfl, by rw [hL.1]⟩
theorem k_great {G : Gt} {d : Nat} {σ : St}  (hS : Sta σ)  : AM mX0_greatest G d 0 0 [vR 85] σ (fun r τ => τ = σ ∧ r = some (vI (σ.2.1 89 0))) := by
  refine AM.intro (by decide +kernel) (by simp [nLg]) (Nat.le_of_ble_eq_true rfl) (fun hO => ?_)
  show AW _ _ _ _ _ _ 0 [some (vR 85)] [] σ
  refine AW_aload_n dX0_greatest_0 rfl ?_
  refine AW_getR (a := 89) dX0_greatest_1 gfX0_21 (hS.cel rfl) (hS.rf rfl) ?_
  refine AW_iconst dX0_greatest_4 ?_
  refine AW_ialdK 0 dX0_greatest_5 (hS.cel rfl) (by decide) ?_
  refine AW_iret dX0_greatest_6 rfl ?_
  exact ⟨rfl, rfl⟩
theorem k_greatH {G : Gt} {d : Nat} {σ : St}  (hS : Sta σ)  : AM mX0_greatestThatHolds G d 0 0 [vR 85] σ (fun r τ => τ = σ ∧ r = some (vI (σ.2.1 85 9))) := by
  refine AM.intro (by decide +kernel) (by simp [nLg]) (Nat.le_of_ble_eq_true rfl) (fun hO => ?_)
  show AW _ _ _ _ _ _ 0 [some (vR 85)] [] σ
  refine AW_aload_n dX0_greatestThatHolds_0 rfl ?_
  refine AW_getI dX0_greatestThatHolds_1 gfX0_44 (hS.cel rfl) ?_
  refine AW_iret dX0_greatestThatHolds_4 rfl ?_
  exact ⟨rfl, rfl⟩
theorem k_bestFor {G : Gt} {d : Nat} {σ : St}  (hS : Sta σ) (s : Int)  : AM mX0_bestFor G d 0 0 [vR 85, vI s] σ (fun r τ => τ = σ ∧ r = some (vI (if s = 0 then σ.2.1 85 7 else σ.2.1 85 8))) := by
  refine AM.intro (by decide +kernel) (by simp [nLg]) (Nat.le_of_ble_eq_true rfl) (fun hO => ?_)
  have i_s : -2147483648 ≤ s ∧ s < 2147483648 := hO (vI s) (by simp)
  show AW _ _ _ _ _ _ 0 [some (vR 85), some (vI s)] [] σ
  refine AW_iload_n dX0_bestFor_0 rfl ?_
  refine AW_if_ne (tgt := 11) dX0_bestFor_1 (by decide) (fun c_1 => ?_) (fun c_1 => ?_)
  · skip
    refine AW_aload_n dX0_bestFor_11 rfl ?_
    refine AW_getI dX0_bestFor_12 gfX0_41 (hS.cel rfl) ?_
    refine AW_iret dX0_bestFor_15 rfl ?_
    refine ⟨rfl, ?_⟩
    first | (rw [if_pos (by omega)]; done) | (rw [if_neg (by omega)]; done)
  · skip
    refine AW_aload_n dX0_bestFor_4 rfl ?_
    refine AW_getI dX0_bestFor_5 gfX0_38 (hS.cel rfl) ?_
    refine AW_goto (tgt := 15) dX0_bestFor_8 (by decide) ?_
    refine AW_iret dX0_bestFor_15 rfl ?_
    refine ⟨rfl, ?_⟩
    first | (rw [if_pos (by omega)]; done) | (rw [if_neg (by omega)]; done)
theorem k_mostOf {G : Gt} {d : Nat} {σ : St} (hd : 1 ≤ d) {n : Nat} {K : Nat → Int} (hS : Sta σ) (hL : LkC n K σ) (k : Int) (hk : 0 ≤ k ∧ k < n) : AM mX0_mostOf G d 0 0 [vR 85, vI k] σ (fun r τ => τ = σ ∧ r = some (vI (σ.2.1 88 k.toNat))) := by
  refine AM.intro (by decide +kernel) (by simp [nLg]) (Nat.le_of_ble_eq_true rfl) (fun hO => ?_)
  have i_k : -2147483648 ≤ k ∧ k < 2147483648 := hO (vI k) (by simp)
  show AW _ _ _ _ _ _ 0 [some (vR 85), some (vI k)] [] σ
  have h7 := hL.2.1
  refine AW_aload_n dX0_mostOf_0 rfl ?_
  refine AW_iload_n dX0_mostOf_1 rfl ?_
  refine AW_callV1 (d' := d - 1) dX0_mostOf_2 (Or.inl lkX0_47) mfX0_isGuest (hS.cel rfl) ⟨_, rfl, rfl⟩ (k_isGuest hS hL k) (by omega) (Nat.le_of_ble_eq_true rfl) ?_
  rintro _ _ ⟨e_, rfl⟩ -
  rw [e_]
  clear e_
  refine AW_if_eq (tgt := 17) dX0_mostOf_5 (by decide) (fun c_5 => ?_) (fun c_5 => ?_)
  · skip
    replace c_5 := bz0 c_5
    exact absurd hk c_5
  · skip
    replace c_5 := bz1 c_5
    refine AW_aload_n dX0_mostOf_8 rfl ?_
    refine AW_getR (a := 88) dX0_mostOf_9 gfX0_18 (hS.cel rfl) (hS.rf rfl) ?_
    refine AW_iload_n dX0_mostOf_12 rfl ?_
    refine AW_iald dX0_mostOf_13 (hS.cel rfl) (by omega) (by omega) ?_
    refine AW_goto (tgt := 18) dX0_mostOf_14 (by decide) ?_
    refine AW_iret dX0_mostOf_18 rfl ?_
    exact ⟨rfl, rfl⟩
def Fq2 (L : List Nat) (σ τ : St) : Prop := Fr L σ τ
theorem HcC.fr {hc N : Nat} {L : List Nat} {σ τ : St} (h : HcC hc N σ) (hF : Fr L σ τ) : HcC hc N τ := ⟨(hF.rv 85 4).trans h.1, hF.cel h.2.1, h.2.2⟩
def kPut (K : Nat → Int) (i : Nat) (v : Int) : Nat → Int := fun j => if j = i then v else K j
theorem k_invite {G : Gt} {d : Nat} {σ : St} (hd : 1 ≤ d) {hc N n : Nat} {K : Nat → Int} (hS : Sta σ) (hE : FeC hc N n K σ) (n0 : Int) (h1 : 1 ≤ n0 ∧ n0 ≤ 7) : AM mX0_invite G d 0 0 [vR 85, vI n0] σ (fun ro ρ => ro = none ∧ FeC hc N n0.toNat (fun _ => 0) ρ ∧ ρ.2.1 85 10 = 1 ∧ Fr [85, 86] σ ρ) := by
  refine AM.intro (by decide +kernel) (by simp [nLg]) (Nat.le_of_ble_eq_true rfl) (fun hO => ?_)
  have i_n0 : -2147483648 ≤ n0 ∧ n0 < 2147483648 := hO (vI n0) (by simp)
  show AW _ _ _ _ _ _ 0 [some (vR 85), some (vI n0)] [] σ
  refine AW_aload_n dX0_invite_0 rfl ?_
  refine AW_iload_n dX0_invite_1 rfl ?_
  refine AW_putI dX0_invite_2 (Or.inl pfX0_27) (hS.cel rfl) ?_
  refine AW_aload_n dX0_invite_5 rfl ?_
  refine AW_getR (a := 86) dX0_invite_6 gfX0_11 (hS.cel rfl) (hS.rf rfl) ?_
  refine AW_iconst dX0_invite_9 ?_
  refine AW_callS2 (d' := d - 1) dX0_invite_10 lkX0_51 mfJ7_fill_53178 (k_fill (σ := upI σ 85 6 n0) (r := 86) (N := 98) (hS.cel rfl) (by decide) 0) (by omega) (Nat.le_of_ble_eq_true rfl) ?_
  rintro _ ρ1 ⟨rfl, hG1, hz⟩ -
  refine AW_aload_n dX0_invite_13 rfl ?_
  refine AW_iconst dX0_invite_14 ?_
  refine AW_putZ dX0_invite_15 (Or.inl pfX0_31) (hG1.cel (show Cel (upI σ 85 6 n0) 85 (0, 11) from hS.cel rfl)) (by decide) ?_
  refine AW_vret dX0_invite_18 rfl ?_
  have hF0 : Fr [85, 86] σ (upI σ 85 6 n0) := Fr.rf.up (by decide) _ _
  have hFF : Fr [85, 86] σ (upI ρ1 85 10 1) := (hF0.tr (hG1.mo (by decide))).up (by decide) _ _
  refine ⟨rfl, ⟨⟨?_, ⟨by omega, by omega⟩, fun i hi => ?_, fun i => ⟨show (0 : Int) ≤ 0 by decide, show (0 : Int) ≤ 99 by decide⟩⟩, hE.2.1.fr hFF, ⟨?_, ?_⟩, Or.inl (up_at _ _ _ _)⟩, up_at _ _ _ _, hFF⟩
  · rw [up_j _ _ _ (by decide), hG1.iv 85 6, up_at]; omega
  · rw [up_r _ _ _ _ (by decide), hz i hi]
  · rw [up_j _ _ _ (by decide), hG1.iv 85 7, up_j _ _ _ (by decide)]; exact hE.2.2.1.1
  · rw [up_j _ _ _ (by decide), hG1.iv 85 8, up_j _ _ _ (by decide)]; exact hE.2.2.1.2
theorem k_clear {G : Gt} {d : Nat} {σ : St} (hd : 1 ≤ d) (hS : Sta σ)  : AM mX5_clear G d 0 0 [vR 91] σ (fun ro ρ => ro = none ∧ Fr [92] σ ρ ∧ ∀ j, j < 7 → ρ.2.1 92 j = 0) := by
  refine AM.intro (by decide +kernel) (by simp [nLg]) (Nat.le_of_ble_eq_true rfl) (fun hO => ?_)
  show AW _ _ _ _ _ _ 0 [some (vR 91)] [] σ
  refine AW_aload_n dX5_clear_0 rfl ?_
  refine AW_getR (a := 92) dX5_clear_1 gfX5_11 (hS.cel rfl) (hS.rf rfl) ?_
  refine AW_iconst dX5_clear_4 ?_
  refine AW_callS2 (d' := d - 1) dX5_clear_5 lkX5_24 mfJ7_fill_53178 (k_fill (N := 7) (hS.cel rfl) (by decide) 0) (by omega) (Nat.le_of_ble_eq_true rfl) ?_
  rintro _ ρ1 ⟨rfl, hG1, hz⟩ -
  refine AW_vret dX5_clear_8 rfl ?_
  exact ⟨rfl, hG1, hz⟩
/-- PRICES that are told -/
def PrC (Q : Nat → Int) (σ : St) : Prop := (∀ j, j < 7 → σ.2.1 92 j = Q j) ∧ ∀ j, 0 ≤ Q j ∧ Q j ≤ 999
theorem x_feast {G : Gt} {d : Nat} {σ : St} (hd : 2 ≤ d) {hc N n : Nat} {K Q : Nat → Int} (hS : Sta σ) (hE : FeC hc N n K σ) (n0 : Int)  : AM mX11_feast G d 0 0 [vR 16, vI n0] σ (fun ro ρ => ∃ z : Int, ro = some (vI z) ∧ ((¬ (1 ≤ n0 ∧ n0 ≤ 7) ∧ z = 0 ∧ ρ = σ) ∨ ((1 ≤ n0 ∧ n0 ≤ 7) ∧ z = 1 ∧ FeC hc N n0.toNat (fun _ => 0) ρ ∧ PrC (fun _ => 0) ρ ∧ Fr [85, 86, 92] σ ρ))) := by
  refine AM.intro (by decide +kernel) (by simp [nLg]) (Nat.le_of_ble_eq_true rfl) (fun hO => ?_)
  have i_n0 : -2147483648 ≤ n0 ∧ n0 < 2147483648 := hO (vI n0) (by simp)
  show AW _ _ _ _ _ _ 0 [some (vR 16), some (vI n0)] [] σ
  refine AW_iload_n dX11_feast_0 rfl ?_
  refine AW_iconst dX11_feast_1 ?_
  refine AW_icmp_lt (tgt := 11) dX11_feast_2 (by decide) (fun c_2 => ?_) (fun c_2 => ?_)
  · skip
    refine AW_iconst dX11_feast_11 ?_
    refine AW_zret dX11_feast_12 rfl (by decide) ?_
    exact ⟨0, rfl, Or.inl ⟨by omega, rfl, rfl⟩⟩
  · skip
    refine AW_iload_n dX11_feast_5 rfl ?_
    refine AW_bipush dX11_feast_6 ?_
    refine AW_icmp_le (tgt := 13) dX11_feast_8 (by decide) (fun c_8 => ?_) (fun c_8 => ?_)
    · skip
      refine AW_aload_n dX11_feast_13 rfl ?_
      refine AW_getR (a := 85) dX11_feast_14 gfX11_60 (hS.cel rfl) (hS.rf rfl) ?_
      refine AW_iload_n dX11_feast_17 rfl ?_
      refine AW_callV1 (d' := d - 1) dX11_feast_18 (Or.inl lkX11_188) mfX0_invite (hS.cel rfl) ⟨_, rfl, rfl⟩ (k_invite (by omega) hS hE n0 (by omega)) (by omega) (Nat.le_of_ble_eq_true rfl) ?_
      rintro _ ρ1 ⟨rfl, hE1, h10, hG1⟩ -
      have hS1 := hG1.sta hS
      refine AW_aload_n dX11_feast_21 rfl ?_
      refine AW_getR (a := 91) dX11_feast_22 gfX11_69 (hS1.cel rfl) (hS1.rf rfl) ?_
      refine AW_callV0 (d' := d - 1) dX11_feast_25 (Or.inl lkX11_191) mfX5_clear (hS1.cel rfl) ⟨_, rfl, rfl⟩ (k_clear (by omega) hS1) (by omega) (Nat.le_of_ble_eq_true rfl) ?_
      rintro _ ρ2 ⟨rfl, hG2, hz⟩ -
      refine AW_iconst dX11_feast_28 ?_
      refine AW_zret dX11_feast_29 rfl (by decide) ?_
      refine ⟨1, rfl, Or.inr ⟨by omega, rfl, ⟨hE1.1.fr hG2, hE1.2.1.fr hG2, ⟨by rw [hG2.iv 85 7]; exact hE1.2.2.1.1, by rw [hG2.iv 85 8]; exact hE1.2.2.1.2⟩, Or.inl ((hG2.iv 85 10).trans h10)⟩, ⟨hz, fun j => ⟨show (0 : Int) ≤ 0 by decide, show (0 : Int) ≤ 999 by decide⟩⟩, (hG1.mo (by decide)).tr (hG2.mo (by decide))⟩⟩
    · skip
      refine AW_iconst dX11_feast_11 ?_
      refine AW_zret dX11_feast_12 rfl (by decide) ?_
      exact ⟨0, rfl, Or.inl ⟨by omega, rfl, rfl⟩⟩
theorem k_ftell {G : Gt} {d : Nat} {σ : St} (hd : 1 ≤ d) {hc N n : Nat} {K : Nat → Int} (hS : Sta σ) (hE : FeC hc N n K σ) (s k j v : Int) (hs : s = 0 ∨ s = 1) (hk : 0 ≤ k ∧ k < n) (hj : 0 ≤ j ∧ j < n) (hv : 0 ≤ v ∧ v ≤ 99) : AM mX0_tell G d 0 0 [vR 85, vI s, vI k, vI j, vI v] σ (fun ro ρ => ro = none ∧ FeC hc N n (kPut K (49 * s.toNat + 7 * k.toNat + j.toNat) v) ρ ∧ Fr [85, 86] σ ρ) := by
  refine AM.intro (by decide +kernel) (by simp [nLg]) (Nat.le_of_ble_eq_true rfl) (fun hO => ?_)
  have i_s : -2147483648 ≤ s ∧ s < 2147483648 := hO (vI s) (by simp)
  have i_k : -2147483648 ≤ k ∧ k < 2147483648 := hO (vI k) (by simp)
  have i_j : -2147483648 ≤ j ∧ j < 2147483648 := hO (vI j) (by simp)
  have i_v : -2147483648 ≤ v ∧ v < 2147483648 := hO (vI v) (by simp)
  show AW _ _ _ _ _ _ 0 [some (vR 85), some (vI s), some (vI k), some (vI j), some (vI v)] [] σ
  have hL := hE.1
  have h7 := hL.2.1
  refine AW_iload_n dX0_tell_0 rfl ?_
  refine AW_if_eq (tgt := 9) dX0_tell_1 (by decide) (fun c_1 => ?_) (fun c_1 => ?_)
  · skip
    refine AW_aload_n dX0_tell_9 rfl ?_
    refine AW_iload_n dX0_tell_10 rfl ?_
    refine AW_callV1 (d' := d - 1) dX0_tell_11 (Or.inl lkX0_47) mfX0_isGuest (hS.cel rfl) ⟨_, rfl, rfl⟩ (k_isGuest hS hL k) (by omega) (Nat.le_of_ble_eq_true rfl) ?_
    rintro _ _ ⟨e_, rfl⟩ -
    rw [e_]
    clear e_
    refine AW_if_eq (tgt := 48) dX0_tell_14 (by decide) (fun c_14 => ?_) (fun c_14 => ?_)
    · skip
      replace c_14 := bz0 c_14
      exact absurd hk c_14
    · skip
      replace c_14 := bz1 c_14
      refine AW_aload_n dX0_tell_17 rfl ?_
      refine AW_iload_n dX0_tell_18 rfl ?_
      refine AW_callV1 (d' := d - 1) dX0_tell_19 (Or.inl lkX0_47) mfX0_isGuest (hS.cel rfl) ⟨_, rfl, rfl⟩ (k_isGuest hS hL j) (by omega) (Nat.le_of_ble_eq_true rfl) ?_
      rintro _ _ ⟨e_, rfl⟩ -
      rw [e_]
      clear e_
      refine AW_if_eq (tgt := 48) dX0_tell_22 (by decide) (fun c_22 => ?_) (fun c_22 => ?_)
      · skip
        replace c_22 := bz0 c_22
        exact absurd hj c_22
      · skip
        replace c_22 := bz1 c_22
        refine AW_aload_n dX0_tell_25 rfl ?_
        refine AW_getR (a := 86) dX0_tell_26 gfX0_11 (hS.cel rfl) (hS.rf rfl) ?_
        refine AW_iload_n dX0_tell_29 rfl ?_
        refine AW_bipush dX0_tell_30 ?_
        refine AW_imulE dX0_tell_32 (by omega) (by omega) ?_
        refine AW_iload_n dX0_tell_33 rfl ?_
        refine AW_bipush dX0_tell_34 ?_
        refine AW_imulE dX0_tell_36 (by omega) (by omega) ?_
        refine AW_iaddE dX0_tell_37 (by omega) (by omega) ?_
        refine AW_iload_n dX0_tell_38 rfl ?_
        refine AW_iaddE dX0_tell_39 (by omega) (by omega) ?_
        refine AW_iload dX0_tell_40 rfl ?_
        refine AW_iast dX0_tell_42 (hS.cel rfl) (by omega) (by omega) ?_
        refine AW_aload_n dX0_tell_43 rfl ?_
        refine AW_iconst dX0_tell_44 ?_
        refine AW_putZ dX0_tell_45 (Or.inl pfX0_31) (hS.cel rfl) (by decide) ?_
        refine AW_vret dX0_tell_48 rfl ?_
        rw [show (s * 49 + k * 7 + j).toNat = 49 * s.toNat + 7 * k.toNat + j.toNat by omega]
        have hFF : Fr [85, 86] σ (upI (upI σ 86 (49 * s.toNat + 7 * k.toNat + j.toNat) v) 85 10 1) := (Fr.rf.up (by decide) _ _).up (by decide) _ _
        refine ⟨rfl, ⟨⟨?_, hL.2.1, fun i hi => ?_, fun i => ?_⟩, hE.2.1.fr hFF, ⟨?_, ?_⟩, Or.inl (up_at _ _ _ _)⟩, hFF⟩
        · rw [up_j _ _ _ (by decide), up_r _ _ _ _ (by decide)]; exact hL.1
        · rw [up_r _ _ _ _ (by decide), up_if]
          unfold kPut
          by_cases hc : i = 49 * s.toNat + 7 * k.toNat + j.toNat
          · rw [if_pos ⟨rfl, hc⟩, if_pos hc]
          · rw [if_neg (fun q => hc q.2), if_neg hc]; exact hL.2.2.1 i hi
        · unfold kPut
          split
          · exact hv
          · exact hL.2.2.2 i
        · rw [up_j _ _ _ (by decide), up_r _ _ _ _ (by decide)]; exact hE.2.2.1.1
        · rw [up_j _ _ _ (by decide), up_r _ _ _ _ (by decide)]; exact hE.2.2.1.2
  · skip
    refine AW_iload_n dX0_tell_4 rfl ?_
    refine AW_iconst dX0_tell_5 ?_
    refine AW_icmp_ne (tgt := 48) dX0_tell_6 (by decide) (fun c_6 => ?_) (fun c_6 => ?_)
    · skip
      exact absurd c_6 (by omega)
    · skip
      refine AW_aload_n dX0_tell_9 rfl ?_
      refine AW_iload_n dX0_tell_10 rfl ?_
      refine AW_callV1 (d' := d - 1) dX0_tell_11 (Or.inl lkX0_47) mfX0_isGuest (hS.cel rfl) ⟨_, rfl, rfl⟩ (k_isGuest hS hL k) (by omega) (Nat.le_of_ble_eq_true rfl) ?_
      rintro _ _ ⟨e_, rfl⟩ -
      rw [e_]
      clear e_
      refine AW_if_eq (tgt := 48) dX0_tell_14 (by decide) (fun c_14 => ?_) (fun c_14 => ?_)
      · skip
        replace c_14 := bz0 c_14
        exact absurd hk c_14
      · skip
        replace c_14 := bz1 c_14
        refine AW_aload_n dX0_tell_17 rfl ?_
        refine AW_iload_n dX0_tell_18 rfl ?_
        refine AW_callV1 (d' := d - 1) dX0_tell_19 (Or.inl lkX0_47) mfX0_isGuest (hS.cel rfl) ⟨_, rfl, rfl⟩ (k_isGuest hS hL j) (by omega) (Nat.le_of_ble_eq_true rfl) ?_
        rintro _ _ ⟨e_, rfl⟩ -
        rw [e_]
        clear e_
        refine AW_if_eq (tgt := 48) dX0_tell_22 (by decide) (fun c_22 => ?_) (fun c_22 => ?_)
        · skip
          replace c_22 := bz0 c_22
          exact absurd hj c_22
        · skip
          replace c_22 := bz1 c_22
          refine AW_aload_n dX0_tell_25 rfl ?_
          refine AW_getR (a := 86) dX0_tell_26 gfX0_11 (hS.cel rfl) (hS.rf rfl) ?_
          refine AW_iload_n dX0_tell_29 rfl ?_
          refine AW_bipush dX0_tell_30 ?_
          refine AW_imulE dX0_tell_32 (by omega) (by omega) ?_
          refine AW_iload_n dX0_tell_33 rfl ?_
          refine AW_bipush dX0_tell_34 ?_
          refine AW_imulE dX0_tell_36 (by omega) (by omega) ?_
          refine AW_iaddE dX0_tell_37 (by omega) (by omega) ?_
          refine AW_iload_n dX0_tell_38 rfl ?_
          refine AW_iaddE dX0_tell_39 (by omega) (by omega) ?_
          refine AW_iload dX0_tell_40 rfl ?_
          refine AW_iast dX0_tell_42 (hS.cel rfl) (by omega) (by omega) ?_
          refine AW_aload_n dX0_tell_43 rfl ?_
          refine AW_iconst dX0_tell_44 ?_
          refine AW_putZ dX0_tell_45 (Or.inl pfX0_31) (hS.cel rfl) (by decide) ?_
          refine AW_vret dX0_tell_48 rfl ?_
          rw [show (s * 49 + k * 7 + j).toNat = 49 * s.toNat + 7 * k.toNat + j.toNat by omega]
          have hFF : Fr [85, 86] σ (upI (upI σ 86 (49 * s.toNat + 7 * k.toNat + j.toNat) v) 85 10 1) := (Fr.rf.up (by decide) _ _).up (by decide) _ _
          refine ⟨rfl, ⟨⟨?_, hL.2.1, fun i hi => ?_, fun i => ?_⟩, hE.2.1.fr hFF, ⟨?_, ?_⟩, Or.inl (up_at _ _ _ _)⟩, hFF⟩
          · rw [up_j _ _ _ (by decide), up_r _ _ _ _ (by decide)]; exact hL.1
          · rw [up_r _ _ _ _ (by decide), up_if]
            unfold kPut
            by_cases hc : i = 49 * s.toNat + 7 * k.toNat + j.toNat
            · rw [if_pos ⟨rfl, hc⟩, if_pos hc]
            · rw [if_neg (fun q => hc q.2), if_neg hc]; exact hL.2.2.1 i hi
          · unfold kPut
            split
            · exact hv
            · exact hL.2.2.2 i
          · rw [up_j _ _ _ (by decide), up_r _ _ _ _ (by decide)]; exact hE.2.2.1.1
          · rw [up_j _ _ _ (by decide), up_r _ _ _ _ (by decide)]; exact hE.2.2.1.2
theorem x_likes {G : Gt} {d : Nat} {σ : St} (hd : 2 ≤ d) {hc N n : Nat} {K : Nat → Int} (hS : Sta σ) (hE : FeC hc N n K σ) (side k j v : Int)  : AM mX11_likes G d 0 0 [vR 16, vI side, vI k, vI j, vI v] σ (fun ro ρ => ∃ z : Int, ro = some (vI z) ∧ ((¬ ((side = 0 ∨ side = 1) ∧ (0 ≤ k ∧ k < n) ∧ (0 ≤ j ∧ j < n) ∧ 0 ≤ v ∧ v ≤ 99) ∧ z = 0 ∧ ρ = σ) ∨ (((side = 0 ∨ side = 1) ∧ (0 ≤ k ∧ k < n) ∧ (0 ≤ j ∧ j < n) ∧ 0 ≤ v ∧ v ≤ 99) ∧ z = 1 ∧ FeC hc N n (kPut K (49 * side.toNat + 7 * k.toNat + j.toNat) v) ρ ∧ Fr [85, 86] σ ρ))) := by
  refine AM.intro (by decide +kernel) (by simp [nLg]) (Nat.le_of_ble_eq_true rfl) (fun hO => ?_)
  have i_side : -2147483648 ≤ side ∧ side < 2147483648 := hO (vI side) (by simp)
  have i_k : -2147483648 ≤ k ∧ k < 2147483648 := hO (vI k) (by simp)
  have i_j : -2147483648 ≤ j ∧ j < 2147483648 := hO (vI j) (by simp)
  have i_v : -2147483648 ≤ v ∧ v < 2147483648 := hO (vI v) (by simp)
  show AW _ _ _ _ _ _ 0 [some (vR 16), some (vI side), some (vI k), some (vI j), some (vI v)] [] σ
  refine AW_aload_n dX11_likes_0 rfl ?_
  refine AW_getR (a := 17) dX11_likes_1 gfX11_12 (hS.cel rfl) (hS.rf rfl) ?_
  refine AW_iload_n dX11_likes_4 rfl ?_
  refine AW_callV1 (d' := d - 1) dX11_likes_5 (Or.inl lkX11_73) mfX3_isSide (hS.cel rfl) ⟨_, rfl, rfl⟩ (k_isSide hS side) (by omega) (Nat.le_of_ble_eq_true rfl) ?_
  rintro _ _ ⟨e_, rfl⟩ -
  rw [e_]
  clear e_
  refine AW_if_eq (tgt := 45) dX11_likes_8 (by decide) (fun c_8 => ?_) (fun c_8 => ?_)
  · skip
    replace c_8 := bz0 c_8
    refine AW_iconst dX11_likes_45 ?_
    refine AW_zret dX11_likes_46 rfl (by decide) ?_
    exact ⟨0, rfl, Or.inl ⟨by omega, rfl, rfl⟩⟩
  · skip
    replace c_8 := bz1 c_8
    refine AW_aload_n dX11_likes_11 rfl ?_
    refine AW_getR (a := 85) dX11_likes_12 gfX11_60 (hS.cel rfl) (hS.rf rfl) ?_
    refine AW_iload_n dX11_likes_15 rfl ?_
    refine AW_callV1 (d' := d - 1) dX11_likes_16 (Or.inl lkX11_194) mfX0_isGuest (hS.cel rfl) ⟨_, rfl, rfl⟩ (k_isGuest hS hE.1 k) (by omega) (Nat.le_of_ble_eq_true rfl) ?_
    rintro _ _ ⟨e_, rfl⟩ -
    rw [e_]
    clear e_
    refine AW_if_eq (tgt := 45) dX11_likes_19 (by decide) (fun c_19 => ?_) (fun c_19 => ?_)
    · skip
      replace c_19 := bz0 c_19
      refine AW_iconst dX11_likes_45 ?_
      refine AW_zret dX11_likes_46 rfl (by decide) ?_
      exact ⟨0, rfl, Or.inl ⟨by omega, rfl, rfl⟩⟩
    · skip
      replace c_19 := bz1 c_19
      refine AW_aload_n dX11_likes_22 rfl ?_
      refine AW_getR (a := 85) dX11_likes_23 gfX11_60 (hS.cel rfl) (hS.rf rfl) ?_
      refine AW_iload_n dX11_likes_26 rfl ?_
      refine AW_callV1 (d' := d - 1) dX11_likes_27 (Or.inl lkX11_194) mfX0_isGuest (hS.cel rfl) ⟨_, rfl, rfl⟩ (k_isGuest hS hE.1 j) (by omega) (Nat.le_of_ble_eq_true rfl) ?_
      rintro _ _ ⟨e_, rfl⟩ -
      rw [e_]
      clear e_
      refine AW_if_eq (tgt := 45) dX11_likes_30 (by decide) (fun c_30 => ?_) (fun c_30 => ?_)
      · skip
        replace c_30 := bz0 c_30
        refine AW_iconst dX11_likes_45 ?_
        refine AW_zret dX11_likes_46 rfl (by decide) ?_
        exact ⟨0, rfl, Or.inl ⟨by omega, rfl, rfl⟩⟩
      · skip
        replace c_30 := bz1 c_30
        refine AW_iload dX11_likes_33 rfl ?_
        refine AW_if_lt (tgt := 45) dX11_likes_35 (by decide) (fun c_35 => ?_) (fun c_35 => ?_)
        · skip
          refine AW_iconst dX11_likes_45 ?_
          refine AW_zret dX11_likes_46 rfl (by decide) ?_
          exact ⟨0, rfl, Or.inl ⟨by omega, rfl, rfl⟩⟩
        · skip
          refine AW_iload dX11_likes_38 rfl ?_
          refine AW_bipush dX11_likes_40 ?_
          refine AW_icmp_le (tgt := 47) dX11_likes_42 (by decide) (fun c_42 => ?_) (fun c_42 => ?_)
          · skip
            refine AW_aload_n dX11_likes_47 rfl ?_
            refine AW_getR (a := 85) dX11_likes_48 gfX11_60 (hS.cel rfl) (hS.rf rfl) ?_
            refine AW_iload_n dX11_likes_51 rfl ?_
            refine AW_iload_n dX11_likes_52 rfl ?_
            refine AW_iload_n dX11_likes_53 rfl ?_
            refine AW_iload dX11_likes_54 rfl ?_
            refine AW_callV4 (d' := d - 1) dX11_likes_56 (Or.inl lkX11_197) mfX0_tell (hS.cel rfl) ⟨_, rfl, rfl⟩ (k_ftell (by omega) hS hE side k j v (by omega) (by omega) (by omega) (by omega)) (by omega) (Nat.le_of_ble_eq_true rfl) ?_
            rintro _ ρ1 ⟨rfl, hE1, hG1⟩ -
            refine AW_iconst dX11_likes_59 ?_
            refine AW_zret dX11_likes_60 rfl (by decide) ?_
            exact ⟨1, rfl, Or.inr ⟨by omega, rfl, hE1, hG1⟩⟩
          · skip
            refine AW_iconst dX11_likes_45 ?_
            refine AW_zret dX11_likes_46 rfl (by decide) ?_
            exact ⟨0, rfl, Or.inl ⟨by omega, rfl, rfl⟩⟩
