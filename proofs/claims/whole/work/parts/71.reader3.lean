/-- what is read, the lines that are ready, and of each its head, its start, its middle, its end -/
abbrev WS : Type := PS × Nat × (Nat → Nat → Int)
def ln4 (a b c e : Int) (k : Nat) : Int := match k with
  | 0 => a
  | 1 => b
  | 2 => c
  | _ => e
def bodyS (F : Nat) (K V : Nat → Int) (s1 : PS) : PS := if kd K s1 = 258 then eitherS F K (claimS F K V 8) (stepS s1) else s1
def lineS (F : Nat) (K V : Nat → Int) (w : WS) : WS :=
  if kd K w.1 = 256 ∨ kd K w.1 = 257 then
    if 12 ≤ w.2.1 then (blameS 3 w.1, w.2)
    else if kd K (bodyS F K V (sumS F K V (stepS w.1))) = 59 then (stepS (bodyS F K V (sumS F K V (stepS w.1))), w.2.1 + 1, fun c l => if l = w.2.1 then ln4 (kd K w.1) w.1.2.2.1 (sumS F K V (stepS w.1)).2.2.1 (bodyS F K V (sumS F K V (stepS w.1))).2.2.1 c else w.2.2 c l)
    else (blameS 1 (bodyS F K V (sumS F K V (stepS w.1))), w.2)
  else (blameS 1 w.1, w.2)
def wayL (F : Nat) (K V : Nat → Int) : Nat → WS → WS
  | 0, w => w
  | f + 1, w => if kd K w.1 = 0 ∨ w.1.1 ≠ 0 then w else wayL F K V f (lineS F K V w)
theorem wayL_0 (F : Nat) (K V : Nat → Int) (w : WS) : wayL F K V 0 w = w := rfl
theorem wayL_s (F : Nat) (K V : Nat → Int) (f : Nat) (w : WS) : wayL F K V (f + 1) w = if kd K w.1 = 0 ∨ w.1.1 ≠ 0 then w else wayL F K V f (lineS F K V w) := rfl
def ws0 : WS := ((0, 0, 0, fun _ => 0), 0, fun _ _ => 0)
theorem body_inv {F : Nat} {K V : Nat → Int} {N p : Nat} {s : PS} (hN : Fn K N) (h : Inv N p s) : Inv N p (bodyS F K V s) := by
  unfold bodyS
  split
  · exact (Inv.either hN (Inv.claim V hN 8) (h.step hN (by omega) (by omega))).mono (by omega)
  · exact h
theorem body_0 {F : Nat} {K V : Nat → Int} {s : PS} (h : kd K (bodyS F K V s) = 59) : s.1 = 0 := by
  by_cases hf : s.1 = 0
  · exact hf
  · exfalso
    have e1 : kd K s = 1 := by unfold kd; rw [if_neg hf]
    have e2 : bodyS F K V s = s := by unfold bodyS; rw [if_neg (by omega)]
    rw [e2, e1] at h
    omega
theorem line_inv {F : Nat} {K V : Nat → Int} {N : Nat} {w : WS} (hN : Fn K N) (h : Inv N 0 w.1) (hm : w.2.1 ≤ 12) : Inv N 0 (lineS F K V w).1 ∧ (lineS F K V w).2.1 ≤ 12 := by
  unfold lineS
  split
  · split
    · exact ⟨h.blame (by decide), hm⟩
    · have h1 := body_inv (F := F) (V := V) hN ((h.step hN (by omega) (by omega)).sum (F := F) V hN)
      split
      · exact ⟨(h1.step hN (by omega) (by omega)).mono (by omega), by show w.2.1 + 1 ≤ 12; omega⟩
      · exact ⟨(h1.blame (by decide)).mono (by omega), hm⟩
  · exact ⟨h.blame (by decide), hm⟩
def LnC (σ : St) (m : Nat) (L : Nat → Nat → Int) : Prop := σ.2.1 35 6 = m ∧ m ≤ 12 ∧ ∀ l, l < m → σ.2.1 37 l = L 0 l ∧ σ.2.1 38 l = L 1 l ∧ σ.2.1 39 l = L 2 l ∧ σ.2.1 40 l = L 3 l
theorem Rd.fr {B : Nat → Int} {n N : Nat} {σ ρ : St} {s : PS} {L : List Nat} (h : Rd B n N σ s) (hF : Fr L σ ρ) (hL : ∀ r ∈ L, 37 ≤ r) : Rd B n N ρ s := by
  have q : ∀ r, r < 37 → r ∉ L := fun r hr hm => by have := hL r hm; omega
  obtain ⟨r1, r2, r3, r4, r5, r6, r7, r8, r9⟩ := h
  refine ⟨r1.fr hF (q _ (by decide)) (q _ (by decide)) (q _ (by decide)) (q _ (by decide)), r2.fr hF (q _ (by decide)) (q _ (by decide)), ?_⟩
  have e34 : ∀ j, ρ.2.1 34 j = σ.2.1 34 j := fun j => hF.iv 34 j (q _ (by decide))
  have e35 : ∀ j, ρ.2.1 35 j = σ.2.1 35 j := fun j => hF.iv 35 j (q _ (by decide))
  have e36 : ∀ j, ρ.2.1 36 j = σ.2.1 36 j := fun j => hF.iv 36 j (q _ (by decide))
  simp only [e34, e35, e36]
  exact ⟨r3, r4, r5, r6, r7, r8, r9⟩
theorem Rd.ln {B : Nat → Int} {n N : Nat} {σ : St} {s : PS} (h : Rd B n N σ s) (x : Int) : Rd B n N (upI σ 35 6 x) s := by
  obtain ⟨r1, r2, r3, r4, r5, r6, r7, r8, r9⟩ := h
  have hF : Fr [35] σ (upI σ 35 6 x) := Fr.rf.up (by decide) _ _
  refine ⟨r1.fr hF, r2.fr hF, ?_, ?_, ?_, ?_, ?_, ?_, ?_⟩
  · rw [up_r _ _ _ _ (by decide)]; exact r3
  · rw [up_r _ _ _ _ (by decide)]; exact r4
  · rw [up_r _ _ _ _ (by decide)]; exact r5
  · rw [up_r _ _ _ _ (by decide)]; exact r6
  · rw [up_r _ _ _ _ (by decide)]; exact r7
  · rw [up_j _ _ _ (by decide)]; exact r8
  · rw [up_j _ _ _ (by decide)]
    exact fun h => ⟨(r9 h).1, fun k hk => by rw [up_r _ _ _ _ (by decide)]; exact (r9 h).2 k hk⟩
theorem k_wopen {G : Gt} {d : Nat} {σ : St}  {m : Nat} (hS : Sta σ) (hm : σ.2.1 35 6 = m) (hm2 : m < 12) (h : Int)  : AM mX10_open G d 0 0 [vR 35, vI h] σ (fun r τ => r = none ∧ τ = upI (upI σ 37 m h) 38 m (σ.2.1 35 5)) := by
  refine AM.intro (by decide +kernel) (by simp [nLg]) (Nat.le_of_ble_eq_true rfl) (fun hO => ?_)
  have i_h : -2147483648 ≤ h ∧ h < 2147483648 := hO (vI h) (by simp)
  show AW _ _ _ _ _ _ 0 [some (vR 35), some (vI h)] [] σ
  refine AW_aload_n dX10_open_0 rfl ?_
  refine AW_getI dX10_open_1 gfX10_27 (hS.cel rfl) ?_
  refine AW_bipush dX10_open_4 ?_
  refine AW_icmp_ge (tgt := 32) dX10_open_6 (by decide) (fun c_6 => ?_) (fun c_6 => ?_)
  · skip
    exact absurd c_6 (by omega)
  · skip
    refine AW_aload_n dX10_open_9 rfl ?_
    refine AW_getR (a := 37) dX10_open_10 gfX10_15 (hS.cel rfl) (hS.rf rfl) ?_
    refine AW_aload_n dX10_open_13 rfl ?_
    refine AW_getI dX10_open_14 gfX10_27 (hS.cel rfl) ?_
    refine AW_iload_n dX10_open_17 rfl ?_
    rw [hm]
    refine AW_iast dX10_open_18 (hS.cel rfl) (by omega) (by omega) ?_
    refine AW_aload_n dX10_open_19 rfl ?_
    refine AW_getR (a := 38) dX10_open_20 gfX10_18 (hS.cel rfl) (hS.rf rfl) ?_
    refine AW_aload_n dX10_open_23 rfl ?_
    refine AW_getI dX10_open_24 gfX10_27 (hS.cel rfl) ?_
    (repeat (first | rw [up_r _ _ _ _ (by decide)] | rw [up_j _ _ _ (by decide)] | rw [up_at]))
    refine AW_aload_n dX10_open_27 rfl ?_
    refine AW_getI dX10_open_28 gfX10_31 (hS.cel rfl) ?_
    (repeat (first | rw [up_r _ _ _ _ (by decide)] | rw [up_j _ _ _ (by decide)] | rw [up_at]))
    rw [hm]
    refine AW_iast dX10_open_31 (hS.cel rfl) (by omega) (by omega) ?_
    refine AW_vret dX10_open_32 rfl ?_
    exact ⟨rfl, rfl⟩
theorem k_wmid {G : Gt} {d : Nat} {σ : St}  {m : Nat} (hS : Sta σ) (hm : σ.2.1 35 6 = m) (hm2 : m < 12)  : AM mX10_markMiddle G d 0 0 [vR 35] σ (fun r τ => r = none ∧ τ = upI σ 39 m (σ.2.1 35 5)) := by
  refine AM.intro (by decide +kernel) (by simp [nLg]) (Nat.le_of_ble_eq_true rfl) (fun hO => ?_)
  show AW _ _ _ _ _ _ 0 [some (vR 35)] [] σ
  refine AW_aload_n dX10_markMiddle_0 rfl ?_
  refine AW_getI dX10_markMiddle_1 gfX10_27 (hS.cel rfl) ?_
  refine AW_bipush dX10_markMiddle_4 ?_
  refine AW_icmp_ge (tgt := 22) dX10_markMiddle_6 (by decide) (fun c_6 => ?_) (fun c_6 => ?_)
  · skip
    exact absurd c_6 (by omega)
  · skip
    refine AW_aload_n dX10_markMiddle_9 rfl ?_
    refine AW_getR (a := 39) dX10_markMiddle_10 gfX10_21 (hS.cel rfl) (hS.rf rfl) ?_
    refine AW_aload_n dX10_markMiddle_13 rfl ?_
    refine AW_getI dX10_markMiddle_14 gfX10_27 (hS.cel rfl) ?_
    refine AW_aload_n dX10_markMiddle_17 rfl ?_
    refine AW_getI dX10_markMiddle_18 gfX10_31 (hS.cel rfl) ?_
    rw [hm]
    refine AW_iast dX10_markMiddle_21 (hS.cel rfl) (by omega) (by omega) ?_
    refine AW_vret dX10_markMiddle_22 rfl ?_
    exact ⟨rfl, rfl⟩
theorem k_wclose {G : Gt} {d : Nat} {σ : St}  {m : Nat} (hS : Sta σ) (hm : σ.2.1 35 6 = m) (hm2 : m < 12)  : AM mX10_close G d 0 0 [vR 35] σ (fun r τ => r = none ∧ τ = upI (upI σ 40 m (σ.2.1 35 5)) 35 6 ((m : Int) + 1)) := by
  refine AM.intro (by decide +kernel) (by simp [nLg]) (Nat.le_of_ble_eq_true rfl) (fun hO => ?_)
  show AW _ _ _ _ _ _ 0 [some (vR 35)] [] σ
  refine AW_aload_n dX10_close_0 rfl ?_
  refine AW_getI dX10_close_1 gfX10_27 (hS.cel rfl) ?_
  refine AW_bipush dX10_close_4 ?_
  refine AW_icmp_ge (tgt := 32) dX10_close_6 (by decide) (fun c_6 => ?_) (fun c_6 => ?_)
  · skip
    exact absurd c_6 (by omega)
  · skip
    refine AW_aload_n dX10_close_9 rfl ?_
    refine AW_getR (a := 40) dX10_close_10 gfX10_24 (hS.cel rfl) (hS.rf rfl) ?_
    refine AW_aload_n dX10_close_13 rfl ?_
    refine AW_getI dX10_close_14 gfX10_27 (hS.cel rfl) ?_
    refine AW_aload_n dX10_close_17 rfl ?_
    refine AW_getI dX10_close_18 gfX10_31 (hS.cel rfl) ?_
    rw [hm]
    refine AW_iast dX10_close_21 (hS.cel rfl) (by omega) (by omega) ?_
    refine AW_aload_n dX10_close_22 rfl ?_
    refine AW_dup dX10_close_23 ?_
    refine AW_getI dX10_close_24 gfX10_27 (hS.cel rfl) ?_
    (repeat (first | rw [up_r _ _ _ _ (by decide)] | rw [up_j _ _ _ (by decide)] | rw [up_at]))
    refine AW_iconst dX10_close_27 ?_
    rw [hm]
    refine AW_iaddE dX10_close_28 (by omega) (by omega) ?_
    refine AW_putI dX10_close_29 (Or.inl pfX10_27) (hS.cel rfl) ?_
    refine AW_vret dX10_close_32 rfl ?_
    exact ⟨rfl, rfl⟩
theorem k_wlines {G : Gt} {d : Nat} {σ : St}  (hS : Sta σ)  : AM mX10_lines G d 0 0 [vR 35] σ (fun r τ => τ = σ ∧ r = some (vI (σ.2.1 35 6))) := by
  refine AM.intro (by decide +kernel) (by simp [nLg]) (Nat.le_of_ble_eq_true rfl) (fun hO => ?_)
  show AW _ _ _ _ _ _ 0 [some (vR 35)] [] σ
  refine AW_aload_n dX10_lines_0 rfl ?_
  refine AW_getI dX10_lines_1 gfX10_27 (hS.cel rfl) ?_
  refine AW_iret dX10_lines_4 rfl ?_
  exact ⟨rfl, rfl⟩
theorem k_wclear {G : Gt} {d : Nat} {σ : St}  (hS : Sta σ)  : AM mX10_clear G d 0 0 [vR 35] σ (fun r τ => r = none ∧ τ = upI (upI σ 35 5 0) 35 6 0) := by
  refine AM.intro (by decide +kernel) (by simp [nLg]) (Nat.le_of_ble_eq_true rfl) (fun hO => ?_)
  show AW _ _ _ _ _ _ 0 [some (vR 35)] [] σ
  refine AW_aload_n dX10_clear_0 rfl ?_
  refine AW_iconst dX10_clear_1 ?_
  refine AW_putI dX10_clear_2 (Or.inl pfX10_31) (hS.cel rfl) ?_
  refine AW_aload_n dX10_clear_5 rfl ?_
  refine AW_iconst dX10_clear_6 ?_
  refine AW_putI dX10_clear_7 (Or.inl pfX10_27) (hS.cel rfl) ?_
  refine AW_vret dX10_clear_10 rfl ?_
  exact ⟨rfl, rfl⟩
theorem k_forget {G : Gt} {d : Nat} {σ : St}  (hS : Sta σ)  : AM mX7_forget G d 0 0 [vR 34] σ (fun r τ => r = none ∧ τ = upI (upI σ 34 4 0) 34 5 (-1)) := by
  refine AM.intro (by decide +kernel) (by simp [nLg]) (Nat.le_of_ble_eq_true rfl) (fun hO => ?_)
  show AW _ _ _ _ _ _ 0 [some (vR 34)] [] σ
  refine AW_aload_n dX7_forget_0 rfl ?_
  refine AW_iconst dX7_forget_1 ?_
  refine AW_putI dX7_forget_2 (Or.inl pfX7_26) (hS.cel rfl) ?_
  refine AW_aload_n dX7_forget_5 rfl ?_
  refine AW_iconst dX7_forget_6 ?_
  refine AW_putI dX7_forget_7 (Or.inl pfX7_18) (hS.cel rfl) ?_
  refine AW_vret dX7_forget_10 rfl ?_
  exact ⟨rfl, rfl⟩
theorem k_kof {G : Gt} {d : Nat} {σ : St}  (hS : Sta σ)  : AM mX7_kindOfFault G d 0 0 [vR 34] σ (fun r τ => τ = σ ∧ r = some (vI (σ.2.1 34 4))) := by
  refine AM.intro (by decide +kernel) (by simp [nLg]) (Nat.le_of_ble_eq_true rfl) (fun hO => ?_)
  show AW _ _ _ _ _ _ 0 [some (vR 34)] [] σ
  refine AW_aload_n dX7_kindOfFault_0 rfl ?_
  refine AW_getI dX7_kindOfFault_1 gfX7_26 (hS.cel rfl) ?_
  refine AW_iret dX7_kindOfFault_4 rfl ?_
  exact ⟨rfl, rfl⟩
theorem k_pof {G : Gt} {d : Nat} {σ : St}  (hS : Sta σ)  : AM mX7_placeOfFault G d 0 0 [vR 34] σ (fun r τ => τ = σ ∧ r = some (vI (σ.2.1 34 5))) := by
  refine AM.intro (by decide +kernel) (by simp [nLg]) (Nat.le_of_ble_eq_true rfl) (fun hO => ?_)
  show AW _ _ _ _ _ _ 0 [some (vR 34)] [] σ
  refine AW_aload_n dX7_placeOfFault_0 rfl ?_
  refine AW_getI dX7_placeOfFault_1 gfX7_18 (hS.cel rfl) ?_
  refine AW_iret dX7_placeOfFault_4 rfl ?_
  exact ⟨rfl, rfl⟩
theorem k_draft {G : Gt} {d : Nat} {σ : St}  (hS : Sta σ)  : AM mX7_draft G d 0 0 [vR 34] σ (fun r τ => τ = σ ∧ r = some (vR 35)) := by
  refine AM.intro (by decide +kernel) (by simp [nLg]) (Nat.le_of_ble_eq_true rfl) (fun hO => ?_)
  show AW _ _ _ _ _ _ 0 [some (vR 34)] [] σ
  refine AW_aload_n dX7_draft_0 rfl ?_
  refine AW_getR (a := 35) dX7_draft_1 gfX7_12 (hS.cel rfl) (hS.rf rfl) ?_
  refine AW_aret dX7_draft_4 rfl ?_
  exact ⟨rfl, rfl⟩
theorem LnC.fq {σ ρ : St} {m : Nat} {L : Nat → Nat → Int} (h : LnC σ m L) (hF : Fq σ ρ) : LnC ρ m L := ⟨hF.2.trans h.1, h.2.1, fun l hl => by rw [hF.1.iv 37 l, hF.1.iv 38 l, hF.1.iv 39 l, hF.1.iv 40 l]; exact h.2.2 l hl⟩
theorem LnC.up {σ : St} {m : Nat} {L : Nat → Nat → Int} (h : LnC σ m L) (r j : Nat) (x : Int) (hr : 37 ≤ r) (hj : m ≤ j) : LnC (upI σ r j x) m L := by
  refine ⟨by rw [up_r _ _ _ _ (by omega)]; exact h.1, h.2.1, fun l hl => ?_⟩
  simp only [up_if]
  rw [if_neg (by omega), if_neg (by omega), if_neg (by omega), if_neg (by omega)]
  exact h.2.2 l hl
theorem k_line {G : Gt} {d : Nat} {σ : St} (hd : 44 ≤ d) {B : Nat → Int} {n N F : Nat} {w : WS} (hS : Sta σ) (hN : Fn (tK B n) N) (hNn : N ≤ 400) (hF : F = 400) (hR : Rd B n N σ w.1) (hL : LnC σ w.2.1 w.2.2) (hI : Inv N 0 w.1)  : AM mX7_readLine G d 0 0 [vR 34] σ (fun ro ρ => ro = none ∧ Rd B n N ρ (lineS F (tK B n) (tV B n) w).1 ∧ LnC ρ (lineS F (tK B n) (tV B n) w).2.1 (lineS F (tK B n) (tV B n) w).2.2 ∧ Fr [34, 35, 36, 37, 38, 39, 40] σ ρ) := by
  refine AM.intro (by decide +kernel) (by simp [nLg]) (Nat.le_of_ble_eq_true rfl) (fun hO => ?_)
  show AW _ _ _ _ _ _ 0 [some (vR 34)] [] σ
  refine AW_aload_n dX7_readLine_0 rfl ?_
  refine AW_getI dX7_readLine_1 gfX7_47 (hS.cel rfl) ?_
  refine AW_sipush dX7_readLine_4 ?_
  refine AW_icmp_eq (tgt := 26) dX7_readLine_7 (by decide) (fun c_7 => ?_) (fun c_7 => ?_)
  · skip
    rw [hR.tok] at c_7
    refine AW_aload_n dX7_readLine_26 rfl ?_
    refine AW_getR (a := 35) dX7_readLine_27 gfX7_12 (hS.cel rfl) (hS.rf rfl) ?_
    refine AW_callV0 (d' := d - 1) dX7_readLine_30 (Or.inl lkX7_57) mfX10_lines (hS.cel rfl) ⟨_, rfl, rfl⟩ (k_wlines hS) (by omega) (Nat.le_of_ble_eq_true rfl) ?_
    rintro _ _ ⟨e_, rfl⟩ -
    rw [e_]
    clear e_
    rw [hL.1]
    refine AW_bipush dX7_readLine_33 ?_
    refine AW_icmp_lt (tgt := 44) dX7_readLine_35 (by decide) (fun c_35 => ?_) (fun c_35 => ?_)
    · skip
      refine AW_aload_n dX7_readLine_44 rfl ?_
      refine AW_getR (a := 35) dX7_readLine_45 gfX7_12 (hS.cel rfl) (hS.rf rfl) ?_
      refine AW_aload_n dX7_readLine_48 rfl ?_
      refine AW_getI dX7_readLine_49 gfX7_47 (hS.cel rfl) ?_
      rw [hR.tok]
      refine AW_callV1 (d' := d - 1) dX7_readLine_52 (Or.inl lkX7_61) mfX10_open (hS.cel rfl) ⟨_, rfl, rfl⟩ (k_wopen hS hL.1 (by omega) _) (by omega) (Nat.le_of_ble_eq_true rfl) ?_
      rintro _ _ ⟨rfl, rfl⟩ -
      have hL0 : LnC (upI (upI σ 37 w.2.1 (kd (tK B n) w.1)) 38 w.2.1 (σ.2.1 35 5)) w.2.1 w.2.2 := (hL.up _ _ _ (by decide) (Nat.le_refl _)).up _ _ _ (by decide) (Nat.le_refl _)
      have hF0 : Fr [37, 38] σ (upI (upI σ 37 w.2.1 (kd (tK B n) w.1)) 38 w.2.1 (σ.2.1 35 5)) := (Fr.rf.up (by decide) _ _).up (by decide) _ _
      have hR0 := hR.fr hF0 (by decide)
      have hS0 := hF0.sta hS
      have e37 : (upI (upI σ 37 w.2.1 (kd (tK B n) w.1)) 38 w.2.1 (σ.2.1 35 5)).2.1 37 w.2.1 = kd (tK B n) w.1 := by rw [up_r _ _ _ _ (by decide), up_at]
      have e38 : (upI (upI σ 37 w.2.1 (kd (tK B n) w.1)) 38 w.2.1 (σ.2.1 35 5)).2.1 38 w.2.1 = σ.2.1 35 5 := by rw [up_at]
      generalize upI (upI σ 37 w.2.1 (kd (tK B n) w.1)) 38 w.2.1 (σ.2.1 35 5) = σ0 at hL0 hF0 hR0 hS0 e37 e38 ⊢
      refine AW_aload_n dX7_readLine_55 rfl ?_
      refine AW_callV0 (d' := d - 1) dX7_readLine_56 (Or.inl lkX7_64) mfX7_step (hS0.cel rfl) ⟨_, rfl, rfl⟩ (k_step hS0 hN hNn hR0 hI.1 (by omega) (by omega)) (by omega) (Nat.le_of_ble_eq_true rfl) ?_
      rintro _ ρ1 ⟨rfl, hR1, hG1⟩ -
      have hS1 := hG1.sta hS0
      have hI1 := hI.step hN (by omega) (by omega)
      refine AW_aload_n dX7_readLine_59 rfl ?_
      refine AW_callV0 (d' := d - 1) dX7_readLine_60 (Or.inl lkX7_67) mfX7_readSum (hS1.cel rfl) ⟨_, rfl, rfl⟩ (k_sum (by omega) hS1 hN hNn hR1 hF (hI1.mono (by omega))) (by omega) (Nat.le_of_ble_eq_true rfl) ?_
      rintro _ ρ2 ⟨rfl, hR2, hG2⟩ -
      have hS2 := hG2.sta hS1
      have hI2 := hI1.sum (F := F) (tV B n) hN
      refine AW_aload_n dX7_readLine_63 rfl ?_
      refine AW_getR (a := 35) dX7_readLine_64 gfX7_12 (hS2.cel rfl) (hS2.rf rfl) ?_
      refine AW_callV0 (d' := d - 1) dX7_readLine_67 (Or.inl lkX7_70) mfX10_markMiddle (hS2.cel rfl) ⟨_, rfl, rfl⟩ (k_wmid hS2 (hG2.2.trans (hG1.2.trans hL0.1)) (by omega)) (by omega) (Nat.le_of_ble_eq_true rfl) ?_
      rintro _ _ ⟨rfl, rfl⟩ -
      have hL3 : LnC (upI ρ2 39 w.2.1 (ρ2.2.1 35 5)) w.2.1 w.2.2 := ((hL0.fq hG1).fq hG2).up _ _ _ (by decide) (Nat.le_refl _)
      have hF3 : Fr [39] ρ2 (upI ρ2 39 w.2.1 (ρ2.2.1 35 5)) := Fr.rf.up (by decide) _ _
      have hR3 := hR2.fr hF3 (by decide)
      have hS3 := hF3.sta hS2
      have e39 : (upI ρ2 39 w.2.1 (ρ2.2.1 35 5)).2.1 39 w.2.1 = ρ2.2.1 35 5 := up_at _ _ _ _
      have d37 : (upI ρ2 39 w.2.1 (ρ2.2.1 35 5)).2.1 37 w.2.1 = kd (tK B n) w.1 := by rw [up_r _ _ _ _ (by decide), hG2.1.iv 37 _, hG1.1.iv 37 _, e37]
      have d38 : (upI ρ2 39 w.2.1 (ρ2.2.1 35 5)).2.1 38 w.2.1 = σ.2.1 35 5 := by rw [up_r _ _ _ _ (by decide), hG2.1.iv 38 _, hG1.1.iv 38 _, e38]
      have hW3 : Fr [34, 35, 36, 37, 38, 39, 40] σ (upI ρ2 39 w.2.1 (ρ2.2.1 35 5)) := (((hF0.mo (by decide)).tr (hG1.1.mo (by decide))).tr (hG2.1.mo (by decide))).tr (hF3.mo (by decide))
      generalize upI ρ2 39 w.2.1 (ρ2.2.1 35 5) = σ3 at hL3 hF3 hR3 hS3 e39 d37 d38 hW3 ⊢
      refine AW_aload_n dX7_readLine_70 rfl ?_
      refine AW_getI dX7_readLine_71 gfX7_47 (hS3.cel rfl) ?_
      refine AW_sipush dX7_readLine_74 ?_
      refine AW_icmp_ne (tgt := 89) dX7_readLine_77 (by decide) (fun c_77 => ?_) (fun c_77 => ?_)
      · skip
        rw [hR3.tok] at c_77
        have hRb : Rd B n N σ3 (bodyS F (tK B n) (tV B n) (sumS F (tK B n) (tV B n) (stepS w.1))) := by unfold bodyS; rw [if_neg c_77]; exact hR3
        have hGb : Fq σ3 σ3 := Fq.rf
        have hSb := hS3
        have hIb := body_inv (F := F) (V := tV B n) hN hI2
        refine AW_aload_n dX7_readLine_89 rfl ?_
        refine AW_getI dX7_readLine_90 gfX7_47 (hSb.cel rfl) ?_
        refine AW_bipush dX7_readLine_93 ?_
        refine AW_icmp_ne (tgt := 112) dX7_readLine_95 (by decide) (fun c_95 => ?_) (fun c_95 => ?_)
        · skip
          rw [hRb.tok] at c_95
          refine AW_aload_n dX7_readLine_112 rfl ?_
          refine AW_iconst dX7_readLine_113 ?_
          refine AW_callV1 (d' := d - 1) dX7_readLine_114 (Or.inl lkX7_53) mfX7_blame (hSb.cel rfl) ⟨_, rfl, rfl⟩ (k_blame hSb hN hNn hRb hIb.1 1 (by decide)) (by omega) (Nat.le_of_ble_eq_true rfl) ?_
          rintro _ ρ5 ⟨rfl, hR5, hG5⟩ -
          refine AW_vret dX7_readLine_117 rfl ?_
          first
          | (have e : lineS F (tK B n) (tV B n) w = (blameS 1 (bodyS F (tK B n) (tV B n) (sumS F (tK B n) (tV B n) (stepS w.1))), w.2) := by unfold lineS; rw [if_pos (by omega), if_neg (by omega), if_neg c_95]
             rw [e]
             exact ⟨rfl, hR5, (hL3.fq hGb).fq hG5, (hW3.tr (hGb.1.mo (by decide))).tr (hG5.1.mo (by decide))⟩)
          | (have c95 := c_95
             have e : lineS F (tK B n) (tV B n) w = (stepS (bodyS F (tK B n) (tV B n) (sumS F (tK B n) (tV B n) (stepS w.1))), w.2.1 + 1, fun c l => if l = w.2.1 then ln4 (kd (tK B n) w.1) w.1.2.2.1 (sumS F (tK B n) (tV B n) (stepS w.1)).2.2.1 (bodyS F (tK B n) (tV B n) (sumS F (tK B n) (tV B n) (stepS w.1))).2.2.1 c else w.2.2 c l) := by unfold lineS; rw [if_pos (by omega), if_neg (by omega), if_pos c95]
             have hs1 := body_0 c95
             have hsb := (kd_lt hN hIb.1 (by omega) (by omega)).1
             have hs0 := (kd_lt hN hI.1 (s := w.1) (by omega) (by omega)).1
             have q1 := (hR.2.2.2.2.2.2.2.2 hs0).1
             have q2 := (hR2.2.2.2.2.2.2.2.2 hs1).1
             have q3 := (hRb.2.2.2.2.2.2.2.2 hsb).1
             rw [e]
             refine ⟨rfl, hR5, ⟨?_, by show w.2.1 + 1 ≤ 12; omega, fun l hl => ?_⟩, ((hW3.tr (hGb.1.mo (by decide))).tr hFc).tr (hG5.1.mo (by decide))⟩
             · rw [hG5.2, up_at]
               show (w.2.1 : Int) + 1 = ((w.2.1 + 1 : Nat) : Int)
               omega
             · have hl2 : l < w.2.1 + 1 := hl
               show _ = (if l = w.2.1 then kd (tK B n) w.1 else w.2.2 0 l) ∧ _ = (if l = w.2.1 then (w.1.2.2.1 : Int) else w.2.2 1 l) ∧ _ = (if l = w.2.1 then ((sumS F (tK B n) (tV B n) (stepS w.1)).2.2.1 : Int) else w.2.2 2 l) ∧ _ = (if l = w.2.1 then ((bodyS F (tK B n) (tV B n) (sumS F (tK B n) (tV B n) (stepS w.1))).2.2.1 : Int) else w.2.2 3 l)
               rw [hG5.1.iv 37 l, hG5.1.iv 38 l, hG5.1.iv 39 l, hG5.1.iv 40 l, up_r _ _ _ _ (by decide), up_r _ _ _ _ (by decide), up_r _ _ _ _ (by decide), up_r _ _ _ _ (by decide), up_r _ _ _ _ (by decide), up_r _ _ _ _ (by decide), up_r _ _ _ _ (by decide), up_if, hGb.1.iv 37 l, hGb.1.iv 38 l, hGb.1.iv 39 l, hGb.1.iv 40 l]
               by_cases hc : l = w.2.1
               · subst hc
                 simp only [if_true, and_self]
                 rw [d37, d38, e39, q1, q2, q3]
                 first | exact ⟨rfl, rfl, rfl, trivial⟩ | exact ⟨rfl, rfl, rfl, rfl⟩
               · simp only [if_neg hc, hc, and_false, if_false]
                 exact hL3.2.2 l (by omega))
        · skip
          rw [hRb.tok] at c_95
          refine AW_aload_n dX7_readLine_98 rfl ?_
          refine AW_getR (a := 35) dX7_readLine_99 gfX7_12 (hSb.cel rfl) (hSb.rf rfl) ?_
          refine AW_callV0 (d' := d - 1) dX7_readLine_102 (Or.inl lkX7_76) mfX10_close (hSb.cel rfl) ⟨_, rfl, rfl⟩ (k_wclose hSb (hGb.2.trans hL3.1) (by omega)) (by omega) (Nat.le_of_ble_eq_true rfl) ?_
          rintro _ _ ⟨rfl, rfl⟩ -
          have hFc : Fr [34, 35, 36, 37, 38, 39, 40] σ3 (upI (upI σ3 40 w.2.1 (σ3.2.1 35 5)) 35 6 ((w.2.1 : Int) + 1)) := (Fr.rf.up (by decide) _ _).up (by decide) _ _
          have hRc := (hRb.fr (Fr.rf.up (L := [40]) (r := 40) (by decide) w.2.1 (σ3.2.1 35 5)) (by decide)).ln ((w.2.1 : Int) + 1)
          have hSc := hFc.sta hSb
          refine AW_aload_n dX7_readLine_105 rfl ?_
          refine AW_callV0 (d' := d - 1) dX7_readLine_106 (Or.inl lkX7_64) mfX7_step (hSc.cel rfl) ⟨_, rfl, rfl⟩ (k_step hSc hN hNn hRc hIb.1 (by omega) (by omega)) (by omega) (Nat.le_of_ble_eq_true rfl) ?_
          rintro _ ρ5 ⟨rfl, hR5, hG5⟩ -
          refine AW_goto (tgt := 117) dX7_readLine_109 (by decide) ?_
          refine AW_vret dX7_readLine_117 rfl ?_
          first
          | (have e : lineS F (tK B n) (tV B n) w = (blameS 1 (bodyS F (tK B n) (tV B n) (sumS F (tK B n) (tV B n) (stepS w.1))), w.2) := by unfold lineS; rw [if_pos (by omega), if_neg (by omega), if_neg c_95]
             rw [e]
             exact ⟨rfl, hR5, (hL3.fq hGb).fq hG5, (hW3.tr (hGb.1.mo (by decide))).tr (hG5.1.mo (by decide))⟩)
          | (have c95 := c_95
             have e : lineS F (tK B n) (tV B n) w = (stepS (bodyS F (tK B n) (tV B n) (sumS F (tK B n) (tV B n) (stepS w.1))), w.2.1 + 1, fun c l => if l = w.2.1 then ln4 (kd (tK B n) w.1) w.1.2.2.1 (sumS F (tK B n) (tV B n) (stepS w.1)).2.2.1 (bodyS F (tK B n) (tV B n) (sumS F (tK B n) (tV B n) (stepS w.1))).2.2.1 c else w.2.2 c l) := by unfold lineS; rw [if_pos (by omega), if_neg (by omega), if_pos c95]
             have hs1 := body_0 c95
             have hsb := (kd_lt hN hIb.1 (by omega) (by omega)).1
             have hs0 := (kd_lt hN hI.1 (s := w.1) (by omega) (by omega)).1
             have q1 := (hR.2.2.2.2.2.2.2.2 hs0).1
             have q2 := (hR2.2.2.2.2.2.2.2.2 hs1).1
             have q3 := (hRb.2.2.2.2.2.2.2.2 hsb).1
             rw [e]
             refine ⟨rfl, hR5, ⟨?_, by show w.2.1 + 1 ≤ 12; omega, fun l hl => ?_⟩, ((hW3.tr (hGb.1.mo (by decide))).tr hFc).tr (hG5.1.mo (by decide))⟩
             · rw [hG5.2, up_at]
               show (w.2.1 : Int) + 1 = ((w.2.1 + 1 : Nat) : Int)
               omega
             · have hl2 : l < w.2.1 + 1 := hl
               show _ = (if l = w.2.1 then kd (tK B n) w.1 else w.2.2 0 l) ∧ _ = (if l = w.2.1 then (w.1.2.2.1 : Int) else w.2.2 1 l) ∧ _ = (if l = w.2.1 then ((sumS F (tK B n) (tV B n) (stepS w.1)).2.2.1 : Int) else w.2.2 2 l) ∧ _ = (if l = w.2.1 then ((bodyS F (tK B n) (tV B n) (sumS F (tK B n) (tV B n) (stepS w.1))).2.2.1 : Int) else w.2.2 3 l)
               rw [hG5.1.iv 37 l, hG5.1.iv 38 l, hG5.1.iv 39 l, hG5.1.iv 40 l, up_r _ _ _ _ (by decide), up_r _ _ _ _ (by decide), up_r _ _ _ _ (by decide), up_r _ _ _ _ (by decide), up_r _ _ _ _ (by decide), up_r _ _ _ _ (by decide), up_r _ _ _ _ (by decide), up_if, hGb.1.iv 37 l, hGb.1.iv 38 l, hGb.1.iv 39 l, hGb.1.iv 40 l]
               by_cases hc : l = w.2.1
               · subst hc
                 simp only [if_true, and_self]
                 rw [d37, d38, e39, q1, q2, q3]
                 first | exact ⟨rfl, rfl, rfl, trivial⟩ | exact ⟨rfl, rfl, rfl, rfl⟩
               · simp only [if_neg hc, hc, and_false, if_false]
                 exact hL3.2.2 l (by omega))
      · skip
        rw [hR3.tok] at c_77
        refine AW_aload_n dX7_readLine_80 rfl ?_
        refine AW_callV0 (d' := d - 1) dX7_readLine_81 (Or.inl lkX7_64) mfX7_step (hS3.cel rfl) ⟨_, rfl, rfl⟩ (k_step hS3 hN hNn hR3 hI2.1 (by omega) (by omega)) (by omega) (Nat.le_of_ble_eq_true rfl) ?_
        rintro _ ρ4 ⟨rfl, hR4, hG4⟩ -
        have hS4 := hG4.sta hS3
        have hI4 := hI2.step hN (by omega) (by omega)
        refine AW_aload_n dX7_readLine_84 rfl ?_
        refine AW_iconst dX7_readLine_85 ?_
        refine AW_callV1 (d' := d - 1) dX7_readLine_86 (Or.inl lkX7_73) mfX7_readEither (hS4.cel rfl) ⟨_, rfl, rfl⟩ (k_either (by omega) hS4 hN hNn hR4 hF (hI4.mono (by omega)) 0 (fun σ2 s2 q1 q2 q3 => k_claim hN hNn hF 8 _ _ σ2 s2 (by omega) (by decide) (by decide) q1 q2 q3) (Inv.claim (F := F) (tV B n) hN 8)) (by omega) (Nat.le_of_ble_eq_true rfl) ?_
        rintro _ ρb ⟨rfl, hRb0, hGb0⟩ -
        have hSb := hGb0.sta hS4
        have hGb : Fq σ3 ρb := hG4.tr hGb0
        have hRb : Rd B n N ρb (bodyS F (tK B n) (tV B n) (sumS F (tK B n) (tV B n) (stepS w.1))) := by unfold bodyS; rw [if_pos c_77]; exact hRb0
        have hIb := body_inv (F := F) (V := tV B n) hN hI2
        refine AW_aload_n dX7_readLine_89 rfl ?_
        refine AW_getI dX7_readLine_90 gfX7_47 (hSb.cel rfl) ?_
        refine AW_bipush dX7_readLine_93 ?_
        refine AW_icmp_ne (tgt := 112) dX7_readLine_95 (by decide) (fun c_95 => ?_) (fun c_95 => ?_)
        · skip
          rw [hRb.tok] at c_95
          refine AW_aload_n dX7_readLine_112 rfl ?_
          refine AW_iconst dX7_readLine_113 ?_
          refine AW_callV1 (d' := d - 1) dX7_readLine_114 (Or.inl lkX7_53) mfX7_blame (hSb.cel rfl) ⟨_, rfl, rfl⟩ (k_blame hSb hN hNn hRb hIb.1 1 (by decide)) (by omega) (Nat.le_of_ble_eq_true rfl) ?_
          rintro _ ρ5 ⟨rfl, hR5, hG5⟩ -
          refine AW_vret dX7_readLine_117 rfl ?_
          first
          | (have e : lineS F (tK B n) (tV B n) w = (blameS 1 (bodyS F (tK B n) (tV B n) (sumS F (tK B n) (tV B n) (stepS w.1))), w.2) := by unfold lineS; rw [if_pos (by omega), if_neg (by omega), if_neg c_95]
             rw [e]
             exact ⟨rfl, hR5, (hL3.fq hGb).fq hG5, (hW3.tr (hGb.1.mo (by decide))).tr (hG5.1.mo (by decide))⟩)
          | (have c95 := c_95
             have e : lineS F (tK B n) (tV B n) w = (stepS (bodyS F (tK B n) (tV B n) (sumS F (tK B n) (tV B n) (stepS w.1))), w.2.1 + 1, fun c l => if l = w.2.1 then ln4 (kd (tK B n) w.1) w.1.2.2.1 (sumS F (tK B n) (tV B n) (stepS w.1)).2.2.1 (bodyS F (tK B n) (tV B n) (sumS F (tK B n) (tV B n) (stepS w.1))).2.2.1 c else w.2.2 c l) := by unfold lineS; rw [if_pos (by omega), if_neg (by omega), if_pos c95]
             have hs1 := body_0 c95
             have hsb := (kd_lt hN hIb.1 (by omega) (by omega)).1
             have hs0 := (kd_lt hN hI.1 (s := w.1) (by omega) (by omega)).1
             have q1 := (hR.2.2.2.2.2.2.2.2 hs0).1
             have q2 := (hR2.2.2.2.2.2.2.2.2 hs1).1
             have q3 := (hRb.2.2.2.2.2.2.2.2 hsb).1
             rw [e]
             refine ⟨rfl, hR5, ⟨?_, by show w.2.1 + 1 ≤ 12; omega, fun l hl => ?_⟩, ((hW3.tr (hGb.1.mo (by decide))).tr hFc).tr (hG5.1.mo (by decide))⟩
             · rw [hG5.2, up_at]
               show (w.2.1 : Int) + 1 = ((w.2.1 + 1 : Nat) : Int)
               omega
             · have hl2 : l < w.2.1 + 1 := hl
               show _ = (if l = w.2.1 then kd (tK B n) w.1 else w.2.2 0 l) ∧ _ = (if l = w.2.1 then (w.1.2.2.1 : Int) else w.2.2 1 l) ∧ _ = (if l = w.2.1 then ((sumS F (tK B n) (tV B n) (stepS w.1)).2.2.1 : Int) else w.2.2 2 l) ∧ _ = (if l = w.2.1 then ((bodyS F (tK B n) (tV B n) (sumS F (tK B n) (tV B n) (stepS w.1))).2.2.1 : Int) else w.2.2 3 l)
               rw [hG5.1.iv 37 l, hG5.1.iv 38 l, hG5.1.iv 39 l, hG5.1.iv 40 l, up_r _ _ _ _ (by decide), up_r _ _ _ _ (by decide), up_r _ _ _ _ (by decide), up_r _ _ _ _ (by decide), up_r _ _ _ _ (by decide), up_r _ _ _ _ (by decide), up_r _ _ _ _ (by decide), up_if, hGb.1.iv 37 l, hGb.1.iv 38 l, hGb.1.iv 39 l, hGb.1.iv 40 l]
               by_cases hc : l = w.2.1
               · subst hc
                 simp only [if_true, and_self]
                 rw [d37, d38, e39, q1, q2, q3]
                 first | exact ⟨rfl, rfl, rfl, trivial⟩ | exact ⟨rfl, rfl, rfl, rfl⟩
               · simp only [if_neg hc, hc, and_false, if_false]
                 exact hL3.2.2 l (by omega))
        · skip
          rw [hRb.tok] at c_95
          refine AW_aload_n dX7_readLine_98 rfl ?_
          refine AW_getR (a := 35) dX7_readLine_99 gfX7_12 (hSb.cel rfl) (hSb.rf rfl) ?_
          refine AW_callV0 (d' := d - 1) dX7_readLine_102 (Or.inl lkX7_76) mfX10_close (hSb.cel rfl) ⟨_, rfl, rfl⟩ (k_wclose hSb (hGb.2.trans hL3.1) (by omega)) (by omega) (Nat.le_of_ble_eq_true rfl) ?_
          rintro _ _ ⟨rfl, rfl⟩ -
          have hFc : Fr [34, 35, 36, 37, 38, 39, 40] ρb (upI (upI ρb 40 w.2.1 (ρb.2.1 35 5)) 35 6 ((w.2.1 : Int) + 1)) := (Fr.rf.up (by decide) _ _).up (by decide) _ _
          have hRc := (hRb.fr (Fr.rf.up (L := [40]) (r := 40) (by decide) w.2.1 (ρb.2.1 35 5)) (by decide)).ln ((w.2.1 : Int) + 1)
          have hSc := hFc.sta hSb
          refine AW_aload_n dX7_readLine_105 rfl ?_
          refine AW_callV0 (d' := d - 1) dX7_readLine_106 (Or.inl lkX7_64) mfX7_step (hSc.cel rfl) ⟨_, rfl, rfl⟩ (k_step hSc hN hNn hRc hIb.1 (by omega) (by omega)) (by omega) (Nat.le_of_ble_eq_true rfl) ?_
          rintro _ ρ5 ⟨rfl, hR5, hG5⟩ -
          refine AW_goto (tgt := 117) dX7_readLine_109 (by decide) ?_
          refine AW_vret dX7_readLine_117 rfl ?_
          first
          | (have e : lineS F (tK B n) (tV B n) w = (blameS 1 (bodyS F (tK B n) (tV B n) (sumS F (tK B n) (tV B n) (stepS w.1))), w.2) := by unfold lineS; rw [if_pos (by omega), if_neg (by omega), if_neg c_95]
             rw [e]
             exact ⟨rfl, hR5, (hL3.fq hGb).fq hG5, (hW3.tr (hGb.1.mo (by decide))).tr (hG5.1.mo (by decide))⟩)
          | (have c95 := c_95
             have e : lineS F (tK B n) (tV B n) w = (stepS (bodyS F (tK B n) (tV B n) (sumS F (tK B n) (tV B n) (stepS w.1))), w.2.1 + 1, fun c l => if l = w.2.1 then ln4 (kd (tK B n) w.1) w.1.2.2.1 (sumS F (tK B n) (tV B n) (stepS w.1)).2.2.1 (bodyS F (tK B n) (tV B n) (sumS F (tK B n) (tV B n) (stepS w.1))).2.2.1 c else w.2.2 c l) := by unfold lineS; rw [if_pos (by omega), if_neg (by omega), if_pos c95]
             have hs1 := body_0 c95
             have hsb := (kd_lt hN hIb.1 (by omega) (by omega)).1
             have hs0 := (kd_lt hN hI.1 (s := w.1) (by omega) (by omega)).1
             have q1 := (hR.2.2.2.2.2.2.2.2 hs0).1
             have q2 := (hR2.2.2.2.2.2.2.2.2 hs1).1
             have q3 := (hRb.2.2.2.2.2.2.2.2 hsb).1
             rw [e]
             refine ⟨rfl, hR5, ⟨?_, by show w.2.1 + 1 ≤ 12; omega, fun l hl => ?_⟩, ((hW3.tr (hGb.1.mo (by decide))).tr hFc).tr (hG5.1.mo (by decide))⟩
             · rw [hG5.2, up_at]
               show (w.2.1 : Int) + 1 = ((w.2.1 + 1 : Nat) : Int)
               omega
             · have hl2 : l < w.2.1 + 1 := hl
               show _ = (if l = w.2.1 then kd (tK B n) w.1 else w.2.2 0 l) ∧ _ = (if l = w.2.1 then (w.1.2.2.1 : Int) else w.2.2 1 l) ∧ _ = (if l = w.2.1 then ((sumS F (tK B n) (tV B n) (stepS w.1)).2.2.1 : Int) else w.2.2 2 l) ∧ _ = (if l = w.2.1 then ((bodyS F (tK B n) (tV B n) (sumS F (tK B n) (tV B n) (stepS w.1))).2.2.1 : Int) else w.2.2 3 l)
               rw [hG5.1.iv 37 l, hG5.1.iv 38 l, hG5.1.iv 39 l, hG5.1.iv 40 l, up_r _ _ _ _ (by decide), up_r _ _ _ _ (by decide), up_r _ _ _ _ (by decide), up_r _ _ _ _ (by decide), up_r _ _ _ _ (by decide), up_r _ _ _ _ (by decide), up_r _ _ _ _ (by decide), up_if, hGb.1.iv 37 l, hGb.1.iv 38 l, hGb.1.iv 39 l, hGb.1.iv 40 l]
               by_cases hc : l = w.2.1
               · subst hc
                 simp only [if_true, and_self]
                 rw [d37, d38, e39, q1, q2, q3]
                 first | exact ⟨rfl, rfl, rfl, trivial⟩ | exact ⟨rfl, rfl, rfl, rfl⟩
               · simp only [if_neg hc, hc, and_false, if_false]
                 exact hL3.2.2 l (by omega))
    · skip
      refine AW_aload_n dX7_readLine_38 rfl ?_
      refine AW_iconst dX7_readLine_39 ?_
      refine AW_callV1 (d' := d - 1) dX7_readLine_40 (Or.inl lkX7_53) mfX7_blame (hS.cel rfl) ⟨_, rfl, rfl⟩ (k_blame hS hN hNn hR hI.1 3 (by decide)) (by omega) (Nat.le_of_ble_eq_true rfl) ?_
      rintro _ ρ1 ⟨rfl, hR1, hG1⟩ -
      have hS1 := hG1.sta hS
      have hQ1 : Fq σ ρ1 := hG1
      refine AW_vret dX7_readLine_43 rfl ?_
      have e : lineS F (tK B n) (tV B n) w = (blameS 3 w.1, w.2) := by unfold lineS; rw [if_pos (by omega), if_pos (by omega)]
      rw [e]
      exact ⟨rfl, hR1, hL.fq hQ1, hQ1.1.mo (by decide)⟩
  · skip
    rw [hR.tok] at c_7
    refine AW_aload_n dX7_readLine_10 rfl ?_
    refine AW_getI dX7_readLine_11 gfX7_47 (hS.cel rfl) ?_
    refine AW_sipush dX7_readLine_14 ?_
    refine AW_icmp_eq (tgt := 26) dX7_readLine_17 (by decide) (fun c_17 => ?_) (fun c_17 => ?_)
    · skip
      rw [hR.tok] at c_17
      refine AW_aload_n dX7_readLine_26 rfl ?_
      refine AW_getR (a := 35) dX7_readLine_27 gfX7_12 (hS.cel rfl) (hS.rf rfl) ?_
      refine AW_callV0 (d' := d - 1) dX7_readLine_30 (Or.inl lkX7_57) mfX10_lines (hS.cel rfl) ⟨_, rfl, rfl⟩ (k_wlines hS) (by omega) (Nat.le_of_ble_eq_true rfl) ?_
      rintro _ _ ⟨e_, rfl⟩ -
      rw [e_]
      clear e_
      rw [hL.1]
      refine AW_bipush dX7_readLine_33 ?_
      refine AW_icmp_lt (tgt := 44) dX7_readLine_35 (by decide) (fun c_35 => ?_) (fun c_35 => ?_)
      · skip
        refine AW_aload_n dX7_readLine_44 rfl ?_
        refine AW_getR (a := 35) dX7_readLine_45 gfX7_12 (hS.cel rfl) (hS.rf rfl) ?_
        refine AW_aload_n dX7_readLine_48 rfl ?_
        refine AW_getI dX7_readLine_49 gfX7_47 (hS.cel rfl) ?_
        rw [hR.tok]
        refine AW_callV1 (d' := d - 1) dX7_readLine_52 (Or.inl lkX7_61) mfX10_open (hS.cel rfl) ⟨_, rfl, rfl⟩ (k_wopen hS hL.1 (by omega) _) (by omega) (Nat.le_of_ble_eq_true rfl) ?_
        rintro _ _ ⟨rfl, rfl⟩ -
        have hL0 : LnC (upI (upI σ 37 w.2.1 (kd (tK B n) w.1)) 38 w.2.1 (σ.2.1 35 5)) w.2.1 w.2.2 := (hL.up _ _ _ (by decide) (Nat.le_refl _)).up _ _ _ (by decide) (Nat.le_refl _)
        have hF0 : Fr [37, 38] σ (upI (upI σ 37 w.2.1 (kd (tK B n) w.1)) 38 w.2.1 (σ.2.1 35 5)) := (Fr.rf.up (by decide) _ _).up (by decide) _ _
        have hR0 := hR.fr hF0 (by decide)
        have hS0 := hF0.sta hS
        have e37 : (upI (upI σ 37 w.2.1 (kd (tK B n) w.1)) 38 w.2.1 (σ.2.1 35 5)).2.1 37 w.2.1 = kd (tK B n) w.1 := by rw [up_r _ _ _ _ (by decide), up_at]
        have e38 : (upI (upI σ 37 w.2.1 (kd (tK B n) w.1)) 38 w.2.1 (σ.2.1 35 5)).2.1 38 w.2.1 = σ.2.1 35 5 := by rw [up_at]
        generalize upI (upI σ 37 w.2.1 (kd (tK B n) w.1)) 38 w.2.1 (σ.2.1 35 5) = σ0 at hL0 hF0 hR0 hS0 e37 e38 ⊢
        refine AW_aload_n dX7_readLine_55 rfl ?_
        refine AW_callV0 (d' := d - 1) dX7_readLine_56 (Or.inl lkX7_64) mfX7_step (hS0.cel rfl) ⟨_, rfl, rfl⟩ (k_step hS0 hN hNn hR0 hI.1 (by omega) (by omega)) (by omega) (Nat.le_of_ble_eq_true rfl) ?_
        rintro _ ρ1 ⟨rfl, hR1, hG1⟩ -
        have hS1 := hG1.sta hS0
        have hI1 := hI.step hN (by omega) (by omega)
        refine AW_aload_n dX7_readLine_59 rfl ?_
        refine AW_callV0 (d' := d - 1) dX7_readLine_60 (Or.inl lkX7_67) mfX7_readSum (hS1.cel rfl) ⟨_, rfl, rfl⟩ (k_sum (by omega) hS1 hN hNn hR1 hF (hI1.mono (by omega))) (by omega) (Nat.le_of_ble_eq_true rfl) ?_
        rintro _ ρ2 ⟨rfl, hR2, hG2⟩ -
        have hS2 := hG2.sta hS1
        have hI2 := hI1.sum (F := F) (tV B n) hN
        refine AW_aload_n dX7_readLine_63 rfl ?_
        refine AW_getR (a := 35) dX7_readLine_64 gfX7_12 (hS2.cel rfl) (hS2.rf rfl) ?_
        refine AW_callV0 (d' := d - 1) dX7_readLine_67 (Or.inl lkX7_70) mfX10_markMiddle (hS2.cel rfl) ⟨_, rfl, rfl⟩ (k_wmid hS2 (hG2.2.trans (hG1.2.trans hL0.1)) (by omega)) (by omega) (Nat.le_of_ble_eq_true rfl) ?_
        rintro _ _ ⟨rfl, rfl⟩ -
        have hL3 : LnC (upI ρ2 39 w.2.1 (ρ2.2.1 35 5)) w.2.1 w.2.2 := ((hL0.fq hG1).fq hG2).up _ _ _ (by decide) (Nat.le_refl _)
        have hF3 : Fr [39] ρ2 (upI ρ2 39 w.2.1 (ρ2.2.1 35 5)) := Fr.rf.up (by decide) _ _
        have hR3 := hR2.fr hF3 (by decide)
        have hS3 := hF3.sta hS2
        have e39 : (upI ρ2 39 w.2.1 (ρ2.2.1 35 5)).2.1 39 w.2.1 = ρ2.2.1 35 5 := up_at _ _ _ _
        have d37 : (upI ρ2 39 w.2.1 (ρ2.2.1 35 5)).2.1 37 w.2.1 = kd (tK B n) w.1 := by rw [up_r _ _ _ _ (by decide), hG2.1.iv 37 _, hG1.1.iv 37 _, e37]
        have d38 : (upI ρ2 39 w.2.1 (ρ2.2.1 35 5)).2.1 38 w.2.1 = σ.2.1 35 5 := by rw [up_r _ _ _ _ (by decide), hG2.1.iv 38 _, hG1.1.iv 38 _, e38]
        have hW3 : Fr [34, 35, 36, 37, 38, 39, 40] σ (upI ρ2 39 w.2.1 (ρ2.2.1 35 5)) := (((hF0.mo (by decide)).tr (hG1.1.mo (by decide))).tr (hG2.1.mo (by decide))).tr (hF3.mo (by decide))
        generalize upI ρ2 39 w.2.1 (ρ2.2.1 35 5) = σ3 at hL3 hF3 hR3 hS3 e39 d37 d38 hW3 ⊢
        refine AW_aload_n dX7_readLine_70 rfl ?_
        refine AW_getI dX7_readLine_71 gfX7_47 (hS3.cel rfl) ?_
        refine AW_sipush dX7_readLine_74 ?_
        refine AW_icmp_ne (tgt := 89) dX7_readLine_77 (by decide) (fun c_77 => ?_) (fun c_77 => ?_)
        · skip
          rw [hR3.tok] at c_77
          have hRb : Rd B n N σ3 (bodyS F (tK B n) (tV B n) (sumS F (tK B n) (tV B n) (stepS w.1))) := by unfold bodyS; rw [if_neg c_77]; exact hR3
          have hGb : Fq σ3 σ3 := Fq.rf
          have hSb := hS3
          have hIb := body_inv (F := F) (V := tV B n) hN hI2
          refine AW_aload_n dX7_readLine_89 rfl ?_
          refine AW_getI dX7_readLine_90 gfX7_47 (hSb.cel rfl) ?_
          refine AW_bipush dX7_readLine_93 ?_
          refine AW_icmp_ne (tgt := 112) dX7_readLine_95 (by decide) (fun c_95 => ?_) (fun c_95 => ?_)
          · skip
            rw [hRb.tok] at c_95
            refine AW_aload_n dX7_readLine_112 rfl ?_
            refine AW_iconst dX7_readLine_113 ?_
            refine AW_callV1 (d' := d - 1) dX7_readLine_114 (Or.inl lkX7_53) mfX7_blame (hSb.cel rfl) ⟨_, rfl, rfl⟩ (k_blame hSb hN hNn hRb hIb.1 1 (by decide)) (by omega) (Nat.le_of_ble_eq_true rfl) ?_
            rintro _ ρ5 ⟨rfl, hR5, hG5⟩ -
            refine AW_vret dX7_readLine_117 rfl ?_
            first
            | (have e : lineS F (tK B n) (tV B n) w = (blameS 1 (bodyS F (tK B n) (tV B n) (sumS F (tK B n) (tV B n) (stepS w.1))), w.2) := by unfold lineS; rw [if_pos (by omega), if_neg (by omega), if_neg c_95]
               rw [e]
               exact ⟨rfl, hR5, (hL3.fq hGb).fq hG5, (hW3.tr (hGb.1.mo (by decide))).tr (hG5.1.mo (by decide))⟩)
            | (have c95 := c_95
               have e : lineS F (tK B n) (tV B n) w = (stepS (bodyS F (tK B n) (tV B n) (sumS F (tK B n) (tV B n) (stepS w.1))), w.2.1 + 1, fun c l => if l = w.2.1 then ln4 (kd (tK B n) w.1) w.1.2.2.1 (sumS F (tK B n) (tV B n) (stepS w.1)).2.2.1 (bodyS F (tK B n) (tV B n) (sumS F (tK B n) (tV B n) (stepS w.1))).2.2.1 c else w.2.2 c l) := by unfold lineS; rw [if_pos (by omega), if_neg (by omega), if_pos c95]
               have hs1 := body_0 c95
               have hsb := (kd_lt hN hIb.1 (by omega) (by omega)).1
               have hs0 := (kd_lt hN hI.1 (s := w.1) (by omega) (by omega)).1
               have q1 := (hR.2.2.2.2.2.2.2.2 hs0).1
               have q2 := (hR2.2.2.2.2.2.2.2.2 hs1).1
               have q3 := (hRb.2.2.2.2.2.2.2.2 hsb).1
               rw [e]
               refine ⟨rfl, hR5, ⟨?_, by show w.2.1 + 1 ≤ 12; omega, fun l hl => ?_⟩, ((hW3.tr (hGb.1.mo (by decide))).tr hFc).tr (hG5.1.mo (by decide))⟩
               · rw [hG5.2, up_at]
                 show (w.2.1 : Int) + 1 = ((w.2.1 + 1 : Nat) : Int)
                 omega
               · have hl2 : l < w.2.1 + 1 := hl
                 show _ = (if l = w.2.1 then kd (tK B n) w.1 else w.2.2 0 l) ∧ _ = (if l = w.2.1 then (w.1.2.2.1 : Int) else w.2.2 1 l) ∧ _ = (if l = w.2.1 then ((sumS F (tK B n) (tV B n) (stepS w.1)).2.2.1 : Int) else w.2.2 2 l) ∧ _ = (if l = w.2.1 then ((bodyS F (tK B n) (tV B n) (sumS F (tK B n) (tV B n) (stepS w.1))).2.2.1 : Int) else w.2.2 3 l)
                 rw [hG5.1.iv 37 l, hG5.1.iv 38 l, hG5.1.iv 39 l, hG5.1.iv 40 l, up_r _ _ _ _ (by decide), up_r _ _ _ _ (by decide), up_r _ _ _ _ (by decide), up_r _ _ _ _ (by decide), up_r _ _ _ _ (by decide), up_r _ _ _ _ (by decide), up_r _ _ _ _ (by decide), up_if, hGb.1.iv 37 l, hGb.1.iv 38 l, hGb.1.iv 39 l, hGb.1.iv 40 l]
                 by_cases hc : l = w.2.1
                 · subst hc
                   simp only [if_true, and_self]
                   rw [d37, d38, e39, q1, q2, q3]
                   first | exact ⟨rfl, rfl, rfl, trivial⟩ | exact ⟨rfl, rfl, rfl, rfl⟩
                 · simp only [if_neg hc, hc, and_false, if_false]
                   exact hL3.2.2 l (by omega))
          · skip
            rw [hRb.tok] at c_95
            refine AW_aload_n dX7_readLine_98 rfl ?_
            refine AW_getR (a := 35) dX7_readLine_99 gfX7_12 (hSb.cel rfl) (hSb.rf rfl) ?_
            refine AW_callV0 (d' := d - 1) dX7_readLine_102 (Or.inl lkX7_76) mfX10_close (hSb.cel rfl) ⟨_, rfl, rfl⟩ (k_wclose hSb (hGb.2.trans hL3.1) (by omega)) (by omega) (Nat.le_of_ble_eq_true rfl) ?_
            rintro _ _ ⟨rfl, rfl⟩ -
            have hFc : Fr [34, 35, 36, 37, 38, 39, 40] σ3 (upI (upI σ3 40 w.2.1 (σ3.2.1 35 5)) 35 6 ((w.2.1 : Int) + 1)) := (Fr.rf.up (by decide) _ _).up (by decide) _ _
            have hRc := (hRb.fr (Fr.rf.up (L := [40]) (r := 40) (by decide) w.2.1 (σ3.2.1 35 5)) (by decide)).ln ((w.2.1 : Int) + 1)
            have hSc := hFc.sta hSb
            refine AW_aload_n dX7_readLine_105 rfl ?_
            refine AW_callV0 (d' := d - 1) dX7_readLine_106 (Or.inl lkX7_64) mfX7_step (hSc.cel rfl) ⟨_, rfl, rfl⟩ (k_step hSc hN hNn hRc hIb.1 (by omega) (by omega)) (by omega) (Nat.le_of_ble_eq_true rfl) ?_
            rintro _ ρ5 ⟨rfl, hR5, hG5⟩ -
            refine AW_goto (tgt := 117) dX7_readLine_109 (by decide) ?_
            refine AW_vret dX7_readLine_117 rfl ?_
            first
            | (have e : lineS F (tK B n) (tV B n) w = (blameS 1 (bodyS F (tK B n) (tV B n) (sumS F (tK B n) (tV B n) (stepS w.1))), w.2) := by unfold lineS; rw [if_pos (by omega), if_neg (by omega), if_neg c_95]
               rw [e]
               exact ⟨rfl, hR5, (hL3.fq hGb).fq hG5, (hW3.tr (hGb.1.mo (by decide))).tr (hG5.1.mo (by decide))⟩)
            | (have c95 := c_95
               have e : lineS F (tK B n) (tV B n) w = (stepS (bodyS F (tK B n) (tV B n) (sumS F (tK B n) (tV B n) (stepS w.1))), w.2.1 + 1, fun c l => if l = w.2.1 then ln4 (kd (tK B n) w.1) w.1.2.2.1 (sumS F (tK B n) (tV B n) (stepS w.1)).2.2.1 (bodyS F (tK B n) (tV B n) (sumS F (tK B n) (tV B n) (stepS w.1))).2.2.1 c else w.2.2 c l) := by unfold lineS; rw [if_pos (by omega), if_neg (by omega), if_pos c95]
               have hs1 := body_0 c95
               have hsb := (kd_lt hN hIb.1 (by omega) (by omega)).1
               have hs0 := (kd_lt hN hI.1 (s := w.1) (by omega) (by omega)).1
               have q1 := (hR.2.2.2.2.2.2.2.2 hs0).1
               have q2 := (hR2.2.2.2.2.2.2.2.2 hs1).1
               have q3 := (hRb.2.2.2.2.2.2.2.2 hsb).1
               rw [e]
               refine ⟨rfl, hR5, ⟨?_, by show w.2.1 + 1 ≤ 12; omega, fun l hl => ?_⟩, ((hW3.tr (hGb.1.mo (by decide))).tr hFc).tr (hG5.1.mo (by decide))⟩
               · rw [hG5.2, up_at]
                 show (w.2.1 : Int) + 1 = ((w.2.1 + 1 : Nat) : Int)
                 omega
               · have hl2 : l < w.2.1 + 1 := hl
                 show _ = (if l = w.2.1 then kd (tK B n) w.1 else w.2.2 0 l) ∧ _ = (if l = w.2.1 then (w.1.2.2.1 : Int) else w.2.2 1 l) ∧ _ = (if l = w.2.1 then ((sumS F (tK B n) (tV B n) (stepS w.1)).2.2.1 : Int) else w.2.2 2 l) ∧ _ = (if l = w.2.1 then ((bodyS F (tK B n) (tV B n) (sumS F (tK B n) (tV B n) (stepS w.1))).2.2.1 : Int) else w.2.2 3 l)
                 rw [hG5.1.iv 37 l, hG5.1.iv 38 l, hG5.1.iv 39 l, hG5.1.iv 40 l, up_r _ _ _ _ (by decide), up_r _ _ _ _ (by decide), up_r _ _ _ _ (by decide), up_r _ _ _ _ (by decide), up_r _ _ _ _ (by decide), up_r _ _ _ _ (by decide), up_r _ _ _ _ (by decide), up_if, hGb.1.iv 37 l, hGb.1.iv 38 l, hGb.1.iv 39 l, hGb.1.iv 40 l]
                 by_cases hc : l = w.2.1
                 · subst hc
                   simp only [if_true, and_self]
                   rw [d37, d38, e39, q1, q2, q3]
                   first | exact ⟨rfl, rfl, rfl, trivial⟩ | exact ⟨rfl, rfl, rfl, rfl⟩
                 · simp only [if_neg hc, hc, and_false, if_false]
                   exact hL3.2.2 l (by omega))
        · skip
          rw [hR3.tok] at c_77
          refine AW_aload_n dX7_readLine_80 rfl ?_
          refine AW_callV0 (d' := d - 1) dX7_readLine_81 (Or.inl lkX7_64) mfX7_step (hS3.cel rfl) ⟨_, rfl, rfl⟩ (k_step hS3 hN hNn hR3 hI2.1 (by omega) (by omega)) (by omega) (Nat.le_of_ble_eq_true rfl) ?_
          rintro _ ρ4 ⟨rfl, hR4, hG4⟩ -
          have hS4 := hG4.sta hS3
          have hI4 := hI2.step hN (by omega) (by omega)
          refine AW_aload_n dX7_readLine_84 rfl ?_
          refine AW_iconst dX7_readLine_85 ?_
          refine AW_callV1 (d' := d - 1) dX7_readLine_86 (Or.inl lkX7_73) mfX7_readEither (hS4.cel rfl) ⟨_, rfl, rfl⟩ (k_either (by omega) hS4 hN hNn hR4 hF (hI4.mono (by omega)) 0 (fun σ2 s2 q1 q2 q3 => k_claim hN hNn hF 8 _ _ σ2 s2 (by omega) (by decide) (by decide) q1 q2 q3) (Inv.claim (F := F) (tV B n) hN 8)) (by omega) (Nat.le_of_ble_eq_true rfl) ?_
          rintro _ ρb ⟨rfl, hRb0, hGb0⟩ -
          have hSb := hGb0.sta hS4
          have hGb : Fq σ3 ρb := hG4.tr hGb0
          have hRb : Rd B n N ρb (bodyS F (tK B n) (tV B n) (sumS F (tK B n) (tV B n) (stepS w.1))) := by unfold bodyS; rw [if_pos c_77]; exact hRb0
          have hIb := body_inv (F := F) (V := tV B n) hN hI2
          refine AW_aload_n dX7_readLine_89 rfl ?_
          refine AW_getI dX7_readLine_90 gfX7_47 (hSb.cel rfl) ?_
          refine AW_bipush dX7_readLine_93 ?_
          refine AW_icmp_ne (tgt := 112) dX7_readLine_95 (by decide) (fun c_95 => ?_) (fun c_95 => ?_)
          · skip
            rw [hRb.tok] at c_95
            refine AW_aload_n dX7_readLine_112 rfl ?_
            refine AW_iconst dX7_readLine_113 ?_
            refine AW_callV1 (d' := d - 1) dX7_readLine_114 (Or.inl lkX7_53) mfX7_blame (hSb.cel rfl) ⟨_, rfl, rfl⟩ (k_blame hSb hN hNn hRb hIb.1 1 (by decide)) (by omega) (Nat.le_of_ble_eq_true rfl) ?_
            rintro _ ρ5 ⟨rfl, hR5, hG5⟩ -
            refine AW_vret dX7_readLine_117 rfl ?_
            first
            | (have e : lineS F (tK B n) (tV B n) w = (blameS 1 (bodyS F (tK B n) (tV B n) (sumS F (tK B n) (tV B n) (stepS w.1))), w.2) := by unfold lineS; rw [if_pos (by omega), if_neg (by omega), if_neg c_95]
               rw [e]
               exact ⟨rfl, hR5, (hL3.fq hGb).fq hG5, (hW3.tr (hGb.1.mo (by decide))).tr (hG5.1.mo (by decide))⟩)
            | (have c95 := c_95
               have e : lineS F (tK B n) (tV B n) w = (stepS (bodyS F (tK B n) (tV B n) (sumS F (tK B n) (tV B n) (stepS w.1))), w.2.1 + 1, fun c l => if l = w.2.1 then ln4 (kd (tK B n) w.1) w.1.2.2.1 (sumS F (tK B n) (tV B n) (stepS w.1)).2.2.1 (bodyS F (tK B n) (tV B n) (sumS F (tK B n) (tV B n) (stepS w.1))).2.2.1 c else w.2.2 c l) := by unfold lineS; rw [if_pos (by omega), if_neg (by omega), if_pos c95]
               have hs1 := body_0 c95
               have hsb := (kd_lt hN hIb.1 (by omega) (by omega)).1
               have hs0 := (kd_lt hN hI.1 (s := w.1) (by omega) (by omega)).1
               have q1 := (hR.2.2.2.2.2.2.2.2 hs0).1
               have q2 := (hR2.2.2.2.2.2.2.2.2 hs1).1
               have q3 := (hRb.2.2.2.2.2.2.2.2 hsb).1
               rw [e]
               refine ⟨rfl, hR5, ⟨?_, by show w.2.1 + 1 ≤ 12; omega, fun l hl => ?_⟩, ((hW3.tr (hGb.1.mo (by decide))).tr hFc).tr (hG5.1.mo (by decide))⟩
               · rw [hG5.2, up_at]
                 show (w.2.1 : Int) + 1 = ((w.2.1 + 1 : Nat) : Int)
                 omega
               · have hl2 : l < w.2.1 + 1 := hl
                 show _ = (if l = w.2.1 then kd (tK B n) w.1 else w.2.2 0 l) ∧ _ = (if l = w.2.1 then (w.1.2.2.1 : Int) else w.2.2 1 l) ∧ _ = (if l = w.2.1 then ((sumS F (tK B n) (tV B n) (stepS w.1)).2.2.1 : Int) else w.2.2 2 l) ∧ _ = (if l = w.2.1 then ((bodyS F (tK B n) (tV B n) (sumS F (tK B n) (tV B n) (stepS w.1))).2.2.1 : Int) else w.2.2 3 l)
                 rw [hG5.1.iv 37 l, hG5.1.iv 38 l, hG5.1.iv 39 l, hG5.1.iv 40 l, up_r _ _ _ _ (by decide), up_r _ _ _ _ (by decide), up_r _ _ _ _ (by decide), up_r _ _ _ _ (by decide), up_r _ _ _ _ (by decide), up_r _ _ _ _ (by decide), up_r _ _ _ _ (by decide), up_if, hGb.1.iv 37 l, hGb.1.iv 38 l, hGb.1.iv 39 l, hGb.1.iv 40 l]
                 by_cases hc : l = w.2.1
                 · subst hc
                   simp only [if_true, and_self]
                   rw [d37, d38, e39, q1, q2, q3]
                   first | exact ⟨rfl, rfl, rfl, trivial⟩ | exact ⟨rfl, rfl, rfl, rfl⟩
                 · simp only [if_neg hc, hc, and_false, if_false]
                   exact hL3.2.2 l (by omega))
          · skip
            rw [hRb.tok] at c_95
            refine AW_aload_n dX7_readLine_98 rfl ?_
            refine AW_getR (a := 35) dX7_readLine_99 gfX7_12 (hSb.cel rfl) (hSb.rf rfl) ?_
            refine AW_callV0 (d' := d - 1) dX7_readLine_102 (Or.inl lkX7_76) mfX10_close (hSb.cel rfl) ⟨_, rfl, rfl⟩ (k_wclose hSb (hGb.2.trans hL3.1) (by omega)) (by omega) (Nat.le_of_ble_eq_true rfl) ?_
            rintro _ _ ⟨rfl, rfl⟩ -
            have hFc : Fr [34, 35, 36, 37, 38, 39, 40] ρb (upI (upI ρb 40 w.2.1 (ρb.2.1 35 5)) 35 6 ((w.2.1 : Int) + 1)) := (Fr.rf.up (by decide) _ _).up (by decide) _ _
            have hRc := (hRb.fr (Fr.rf.up (L := [40]) (r := 40) (by decide) w.2.1 (ρb.2.1 35 5)) (by decide)).ln ((w.2.1 : Int) + 1)
            have hSc := hFc.sta hSb
            refine AW_aload_n dX7_readLine_105 rfl ?_
            refine AW_callV0 (d' := d - 1) dX7_readLine_106 (Or.inl lkX7_64) mfX7_step (hSc.cel rfl) ⟨_, rfl, rfl⟩ (k_step hSc hN hNn hRc hIb.1 (by omega) (by omega)) (by omega) (Nat.le_of_ble_eq_true rfl) ?_
            rintro _ ρ5 ⟨rfl, hR5, hG5⟩ -
            refine AW_goto (tgt := 117) dX7_readLine_109 (by decide) ?_
            refine AW_vret dX7_readLine_117 rfl ?_
            first
            | (have e : lineS F (tK B n) (tV B n) w = (blameS 1 (bodyS F (tK B n) (tV B n) (sumS F (tK B n) (tV B n) (stepS w.1))), w.2) := by unfold lineS; rw [if_pos (by omega), if_neg (by omega), if_neg c_95]
               rw [e]
               exact ⟨rfl, hR5, (hL3.fq hGb).fq hG5, (hW3.tr (hGb.1.mo (by decide))).tr (hG5.1.mo (by decide))⟩)
            | (have c95 := c_95
               have e : lineS F (tK B n) (tV B n) w = (stepS (bodyS F (tK B n) (tV B n) (sumS F (tK B n) (tV B n) (stepS w.1))), w.2.1 + 1, fun c l => if l = w.2.1 then ln4 (kd (tK B n) w.1) w.1.2.2.1 (sumS F (tK B n) (tV B n) (stepS w.1)).2.2.1 (bodyS F (tK B n) (tV B n) (sumS F (tK B n) (tV B n) (stepS w.1))).2.2.1 c else w.2.2 c l) := by unfold lineS; rw [if_pos (by omega), if_neg (by omega), if_pos c95]
               have hs1 := body_0 c95
               have hsb := (kd_lt hN hIb.1 (by omega) (by omega)).1
               have hs0 := (kd_lt hN hI.1 (s := w.1) (by omega) (by omega)).1
               have q1 := (hR.2.2.2.2.2.2.2.2 hs0).1
               have q2 := (hR2.2.2.2.2.2.2.2.2 hs1).1
               have q3 := (hRb.2.2.2.2.2.2.2.2 hsb).1
               rw [e]
               refine ⟨rfl, hR5, ⟨?_, by show w.2.1 + 1 ≤ 12; omega, fun l hl => ?_⟩, ((hW3.tr (hGb.1.mo (by decide))).tr hFc).tr (hG5.1.mo (by decide))⟩
               · rw [hG5.2, up_at]
                 show (w.2.1 : Int) + 1 = ((w.2.1 + 1 : Nat) : Int)
                 omega
               · have hl2 : l < w.2.1 + 1 := hl
                 show _ = (if l = w.2.1 then kd (tK B n) w.1 else w.2.2 0 l) ∧ _ = (if l = w.2.1 then (w.1.2.2.1 : Int) else w.2.2 1 l) ∧ _ = (if l = w.2.1 then ((sumS F (tK B n) (tV B n) (stepS w.1)).2.2.1 : Int) else w.2.2 2 l) ∧ _ = (if l = w.2.1 then ((bodyS F (tK B n) (tV B n) (sumS F (tK B n) (tV B n) (stepS w.1))).2.2.1 : Int) else w.2.2 3 l)
                 rw [hG5.1.iv 37 l, hG5.1.iv 38 l, hG5.1.iv 39 l, hG5.1.iv 40 l, up_r _ _ _ _ (by decide), up_r _ _ _ _ (by decide), up_r _ _ _ _ (by decide), up_r _ _ _ _ (by decide), up_r _ _ _ _ (by decide), up_r _ _ _ _ (by decide), up_r _ _ _ _ (by decide), up_if, hGb.1.iv 37 l, hGb.1.iv 38 l, hGb.1.iv 39 l, hGb.1.iv 40 l]
                 by_cases hc : l = w.2.1
                 · subst hc
                   simp only [if_true, and_self]
                   rw [d37, d38, e39, q1, q2, q3]
                   first | exact ⟨rfl, rfl, rfl, trivial⟩ | exact ⟨rfl, rfl, rfl, rfl⟩
                 · simp only [if_neg hc, hc, and_false, if_false]
                   exact hL3.2.2 l (by omega))
      · skip
        refine AW_aload_n dX7_readLine_38 rfl ?_
        refine AW_iconst dX7_readLine_39 ?_
        refine AW_callV1 (d' := d - 1) dX7_readLine_40 (Or.inl lkX7_53) mfX7_blame (hS.cel rfl) ⟨_, rfl, rfl⟩ (k_blame hS hN hNn hR hI.1 3 (by decide)) (by omega) (Nat.le_of_ble_eq_true rfl) ?_
        rintro _ ρ1 ⟨rfl, hR1, hG1⟩ -
        have hS1 := hG1.sta hS
        have hQ1 : Fq σ ρ1 := hG1
        refine AW_vret dX7_readLine_43 rfl ?_
        have e : lineS F (tK B n) (tV B n) w = (blameS 3 w.1, w.2) := by unfold lineS; rw [if_pos (by omega), if_pos (by omega)]
        rw [e]
        exact ⟨rfl, hR1, hL.fq hQ1, hQ1.1.mo (by decide)⟩
    · skip
      rw [hR.tok] at c_17
      refine AW_aload_n dX7_readLine_20 rfl ?_
      refine AW_iconst dX7_readLine_21 ?_
      refine AW_callV1 (d' := d - 1) dX7_readLine_22 (Or.inl lkX7_53) mfX7_blame (hS.cel rfl) ⟨_, rfl, rfl⟩ (k_blame hS hN hNn hR hI.1 1 (by decide)) (by omega) (Nat.le_of_ble_eq_true rfl) ?_
      rintro _ ρ1 ⟨rfl, hR1, hG1⟩ -
      have hS1 := hG1.sta hS
      have hQ1 : Fq σ ρ1 := hG1
      refine AW_vret dX7_readLine_25 rfl ?_
      have e : lineS F (tK B n) (tV B n) w = (blameS 1 w.1, w.2) := by unfold lineS; rw [if_neg (by omega)]
      rw [e]
      exact ⟨rfl, hR1, hL.fq hQ1, hQ1.1.mo (by decide)⟩
